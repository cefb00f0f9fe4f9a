/-! settings of the class, exactly (wip/gen/spec_t.py) -/
def zCg (fl : Nat → Bool) (C : List Nat) : Bool := C.getD 32 1 == 0 && (List.range 65).all (fun k => (C.getD k 999 ≤ 49 || C.getD k 999 == 999) && (List.range 7).all (fun i => !zEd fl k i || C.getD (k + i - 3) 999 ≤ C.getD k 999 + 1) && (C.getD k 999 == 999 || k == 32 || (List.range 7).any (fun i => decide (i ≤ k + 3) && decide (k + 3 - i < 65) && zEd fl (k + 3 - i) i && C.getD (k + 3 - i) 999 + 1 == C.getD k 999 && (decide (k < 44) || decide (3 < i)) && (decide (20 < k) || decide (i < 3)))))
theorem zCg_ok : ∀ b0 b1 b2 b4 b5 b6 : Bool, zCg (zFl b0 b1 b2 b4 b5 b6) (zTb (zBn b0 + 2 * zBn b1 + 4 * zBn b2 + 8 * zBn b4 + 16 * zBn b5 + 32 * zBn b6)) = true := by decide +kernel
/-- what the settings' distances keep -/
def zCqF (fl : Nat → Bool) (C : Nat → Nat) : Prop := C 32 = 0 ∧ (∀ k, k < 65 → C k ≤ 49 ∨ C k = 999) ∧ (∀ k, k < 65 → ∀ i, i < 7 → zEd fl k i = true → C (k + i - 3) ≤ C k + 1) ∧ ∀ k, k < 65 → C k < 999 → k = 32 ∨ ∃ i, i < 7 ∧ i ≤ k + 3 ∧ k + 3 - i < 65 ∧ zEd fl (k + 3 - i) i = true ∧ C (k + 3 - i) + 1 = C k ∧ (44 ≤ k → 3 < i) ∧ (k ≤ 20 → i < 3)
theorem zCg_q {fl : Nat → Bool} {C : List Nat} {D : Nat → Nat} (h : zCg fl C = true) (hD : ∀ k, k < 65 → D k = C.getD k 999) (hl : C.length = 65) : zCqF fl D := by
  simp only [zCg, Bool.and_eq_true, List.all_eq_true, List.mem_range, Bool.or_eq_true, beq_iff_eq, decide_eq_true_eq, List.any_eq_true, Bool.not_eq_true'] at h
  obtain ⟨h0, h⟩ := h
  have hc0 : C.getD 32 999 = 0 := by
    rw [List.getD_eq_getElem?_getD] at h0 ⊢
    rw [List.getElem?_eq_getElem (by omega)] at h0 ⊢
    exact h0
  refine ⟨by rw [hD 32 (by omega)]; exact hc0, fun k hk => by rw [hD k hk]; exact (h k hk).1.1, fun k hk i hi he => ?_, fun k hk h9 => ?_⟩
  · have hz := zEd_iff.mp he
    rw [hD k hk, hD (k + i - 3) (by omega)]
    rcases (h k hk).1.2 i hi with e | e
    · rw [he] at e; exact absurd e (by decide)
    · exact e
  · rw [hD k hk] at h9 ⊢
    rcases (h k hk).2 with (e | e) | ⟨i, hi, e⟩
    · omega
    · exact Or.inl e
    · exact Or.inr ⟨i, hi, e.1.1.1.1.1, e.1.1.1.1.2, e.1.1.1.2, by rw [hD _ e.1.1.1.1.2]; exact e.1.1.2, fun q => by rcases e.1.2 with g | g <;> omega, fun q => by rcases e.2 with g | g <;> omega⟩
theorem zCq_spr (B : Nat) (ι : Nat → Nat → Int32) (c : Nat) : zCqF (zFs B ι c) (zSpr (zFs B ι c) 29575) := by
  obtain ⟨h1, h2⟩ := zTb_ok (zLb B ι 3 true c) (zLb B ι 2 true c) (zLb B ι 1 true c) (zLb B ι 1 false c) (zLb B ι 2 false c) (zLb B ι 3 false c)
  have h3 := zCg_ok (zLb B ι 3 true c) (zLb B ι 2 true c) (zLb B ι 1 true c) (zLb B ι 1 false c) (zLb B ι 2 false c) (zLb B ι 3 false c)
  exact zCg_q h3 (fun k hk => (zCe_spr h1 h2 k hk).1) h1
/-- may a setting bring power y to x (both REACH on) -/
def zEg (fl : Nat → Bool) (x y : Nat) : Prop := ∃ i, i < 7 ∧ i ≠ 3 ∧ fl i = true ∧ y + i = x + 3
/-- the class's flags -/
def zMd (ι : Nat → Nat → Int32) (mu dv : Nat) (fl : Nat → Bool) : Prop := ∀ s, 1 ≤ s → s ≤ 3 → ι mu s = (if fl (3 + s) = true then 1 else 0) ∧ ι dv s = (if fl (3 - s) = true then 1 else 0)
/-- a walk back from x, t of its six tries done -/
def zRb (fl : Nat → Bool) (x : Nat) (g0 g : Nat → Int32) (t : Nat) : Prop := (∀ y, y < 49 → g y = g0 y ∨ (g0 y = -1 ∧ (g y).toInt = (g0 x).toInt + 1 ∧ zEg fl x y)) ∧ ∀ y j, y < 49 → j < 7 → ((3 < j ∧ 2 * j < t + 8) ∨ (j < 3 ∧ 5 < t + 2 * j)) → fl j = true → y + j = x + 3 → g y ≠ -1
theorem zRb_0 {fl : Nat → Bool} {x : Nat} {g : Nat → Int32} : zRb fl x g g 0 := ⟨fun _ _ => Or.inl rfl, fun y j h1 h2 h3 => by omega⟩
theorem zRb_x {fl : Nat → Bool} {x t : Nat} {g0 g : Nat → Int32} (h : zRb fl x g0 g t) (hx : x < 49) (h0 : 0 ≤ (g0 x).toInt) : g x = g0 x := by
  rcases h.1 x hx with e | ⟨e, -⟩
  · exact e
  · rw [e, show Int32.toInt (-1) = -1 from rfl] at h0; omega
theorem zRb_no {fl : Nat → Bool} {x t j : Nat} {g0 g : Nat → Int32} (h : zRb fl x g0 g t) (hj : (3 < j ∧ 2 * j = t + 8) ∨ (j < 3 ∧ 5 = t + 2 * j)) (hn : ∀ y, y < 49 → fl j = true → y + j = x + 3 → g y ≠ -1) : zRb fl x g0 g (t + 1) := ⟨h.1, fun y i h1 h2 h3 h4 h5 => by
  by_cases e : i = j
  · subst e; exact hn y h1 h4 h5
  · exact h.2 y i h1 h2 (by omega) h4 h5⟩
theorem zRb_st {fl : Nat → Bool} {x t j w y0 : Nat} {v : Int32} {g0 : Nat → Int32} {ι : Nat → Nat → Int32} (h : zRb fl x g0 (ι w) t) (hj : (3 < j ∧ 2 * j = t + 8) ∨ (j < 3 ∧ 5 = t + 2 * j)) (hj7 : j < 7) (hy : y0 < 49) (hf : fl j = true) (he : y0 + j = x + 3) (hn : ι w y0 = -1) (h0 : 0 ≤ (g0 x).toInt) (hv : v.toInt = (g0 x).toInt + 1) : zRb fl x g0 (zu ι w y0 v w) (t + 1) := by
  have hv1 : v ≠ -1 := fun e => by rw [e, show Int32.toInt (-1) = -1 from rfl] at hv; omega
  refine ⟨fun y h1 => ?_, fun y i h1 h2 h3 h4 h5 => ?_⟩
  · by_cases e : y = y0
    · subst e
      rw [zu_s]
      rcases h.1 y h1 with q | ⟨q, -⟩
      · exact Or.inr ⟨by rw [← q]; exact hn, hv, j, by omega, by omega, hf, he⟩
      · exact Or.inr ⟨q, hv, j, by omega, by omega, hf, he⟩
    · rw [zu_k e]; exact h.1 y h1
  · by_cases e : y = y0
    · subst e; rw [zu_s]; exact hv1
    · rw [zu_k e]
      by_cases e2 : i = j
      · subst e2; omega
      · exact h.2 y i h1 h2 (by omega) h4 h5
/-- the distances of the class's row, goal g -/
def zRw (C : Nat → Nat) (g y : Nat) : Nat := C (32 + g - y)
theorem zRw_e {fl : Nat → Bool} {C : Nat → Nat} (h : zCqF fl C) {g x y : Nat} (hg : 16 ≤ g ∧ g ≤ 32) (hx : x < 49) (hy : y < 49) (he : zEg fl x y) : zRw C g y ≤ zRw C g x + 1 := by
  obtain ⟨i, h1, h2, h3, h4⟩ := he
  have h5 := h.2.2.1 (32 + g - x) (by omega) i h1 (zEd_iff.mpr ⟨h2, by omega, by omega, h3⟩)
  unfold zRw
  rw [show 32 + g - y = 32 + g - x + i - 3 by omega]
  exact h5
theorem zRw_p {fl : Nat → Bool} {C : Nat → Nat} (h : zCqF fl C) {g y : Nat} (hg : 16 ≤ g ∧ g ≤ 32) (hy : y < 49) (h9 : zRw C g y < 999) : y = g ∨ ∃ x, x < 49 ∧ zEg fl x y ∧ zRw C g x + 1 = zRw C g y := by
  rcases h.2.2.2 (32 + g - y) (by omega) h9 with e | ⟨i, h1, h2, h3, h4, h5, h6, h7⟩
  · exact Or.inl (by omega)
  · have h8 := zEd_iff.mp h4
    refine Or.inr ⟨y + i - 3, by omega, ⟨i, h1, h8.1, h8.2.2.2, by omega⟩, ?_⟩
    unfold zRw
    rw [show 32 + g - (y + i - 3) = 32 + g - y + 3 - i by omega]
    exact h5
theorem zRw_0 {fl : Nat → Bool} {C : Nat → Nat} (h : zCqF fl C) {g : Nat} : zRw C g g = 0 := by
  unfold zRw
  rw [show 32 + g - g = 32 by omega]
  exact h.1
theorem zRw_9 {fl : Nat → Bool} {C : Nat → Nat} (h : zCqF fl C) {g y : Nat} (hg : 16 ≤ g ∧ g ≤ 32) (hy : y < 49) : zRw C g y ≤ 49 ∨ zRw C g y = 999 := h.2.1 (32 + g - y) (by omega)
/-- levels under n are done -/
def zIn (R : Nat → Nat) (n : Nat) (f : Nat → Int32) : Prop := (∀ y, y < 49 → f y = -1 ∨ ((R y : Int) ≤ (f y).toInt ∧ (f y).toInt ≤ n)) ∧ ∀ y, y < 49 → R y ≤ n → (f y).toInt = R y
/-- level n, powers under j -/
def zIl (fl : Nat → Bool) (R : Nat → Nat) (n j : Nat) (f : Nat → Int32) : Prop := (∀ y, y < 49 → f y = -1 ∨ ((R y : Int) ≤ (f y).toInt ∧ (f y).toInt ≤ (n : Int) + 1)) ∧ (∀ y, y < 49 → R y ≤ n → (f y).toInt = R y) ∧ ∀ y x, y < 49 → x < 49 → x < j → R x = n → zEg fl x y → f y ≠ -1
theorem zm1 {x : Int32} {n : Nat} (h : x.toInt = (n : Int)) : x ≠ -1 := fun e => by rw [e, show Int32.toInt (-1) = -1 from rfl] at h; omega
theorem zIl_0 {fl : Nat → Bool} {R : Nat → Nat} {n : Nat} {f : Nat → Int32} (h : zIn R n f) : zIl fl R n 0 f := ⟨fun y hy => by
  rcases h.1 y hy with e | ⟨e1, e2⟩
  · exact Or.inl e
  · exact Or.inr ⟨e1, by omega⟩, h.2, fun y x _ _ h3 => by omega⟩
theorem zIl_no {fl : Nat → Bool} {R : Nat → Nat} {n j : Nat} {f : Nat → Int32} (h : zIl fl R n j f) (hj : j < 49) (hn : (f j).toInt ≠ n) : zIl fl R n (j + 1) f := ⟨h.1, h.2.1, fun y x h1 h2 h3 h4 h5 => by
  by_cases e : x = j
  · subst e; exact absurd (by rw [h.2.1 x h2 (by omega), h4]) hn
  · exact h.2.2 y x h1 h2 (by omega) h4 h5⟩
theorem zIl_yes {fl : Nat → Bool} {C : Nat → Nat} {g n j : Nat} {f f2 : Nat → Int32} (hq : zCqF fl C) (hg : 16 ≤ g ∧ g ≤ 32) (h : zIl fl (zRw C g) n j f) (hj : j < 49) (hn : (f j).toInt = n) (hb : zRb fl j f f2 6) : zIl fl (zRw C g) n (j + 1) f2 := by
  have hRj : zRw C g j ≤ n := by
    rcases h.1 j hj with e | ⟨e1, e2⟩
    · rw [e, show Int32.toInt (-1) = -1 from rfl] at hn; omega
    · omega
  refine ⟨fun y hy => ?_, fun y hy hR => ?_, fun y x h1 h2 h3 h4 h5 => ?_⟩
  · rcases hb.1 y hy with e | ⟨e1, e2, e3⟩
    · rw [e]; exact h.1 y hy
    · have := zRw_e hq hg hj hy e3
      exact Or.inr (by omega)
  · have h6 := h.2.1 y hy hR
    rcases hb.1 y hy with e | ⟨e1, e2, e3⟩
    · rw [e]; exact h6
    · exact absurd e1 (zm1 h6)
  · by_cases e : x = j
    · subst e
      obtain ⟨i, g1, g2, g3, g4⟩ := h5
      exact hb.2 y i h1 g1 (by omega) g3 g4
    · have h6 := h.2.2 y x h1 h2 (by omega) h4 h5
      rcases hb.1 y h1 with e | ⟨e1, e2, e3⟩
      · rw [e]; exact h6
      · exact absurd e1 h6
theorem zIl_end {fl : Nat → Bool} {C : Nat → Nat} {g n : Nat} {f : Nat → Int32} (hq : zCqF fl C) (hg : 16 ≤ g ∧ g ≤ 32) (hn : n < 49) (h : zIl fl (zRw C g) n 49 f) : zIn (zRw C g) (n + 1) f := by
  refine ⟨fun y hy => by
    rcases h.1 y hy with e | ⟨e1, e2⟩
    · exact Or.inl e
    · exact Or.inr ⟨e1, by omega⟩, fun y hy hR => ?_⟩
  by_cases e : zRw C g y ≤ n
  · exact h.2.1 y hy e
  · rcases zRw_p hq hg hy (by omega) with q | ⟨x, h1, h2, h3⟩
    · subst q; rw [zRw_0 hq] at e; omega
    · have h4 := h.2.2 y x hy h1 h1 (by omega) h2
      rcases h.1 y hy with q | ⟨q1, q2⟩
      · exact absurd q h4
      · omega
theorem zIn_0 {fl : Nat → Bool} {C : Nat → Nat} {g : Nat} {f : Nat → Int32} (hq : zCqF fl C) (hg : 16 ≤ g ∧ g ≤ 32) (hf : ∀ y, y < 49 → f y = if y = g then 0 else -1) : zIn (zRw C g) 0 f := by
  refine ⟨fun y hy => ?_, fun y hy hR => ?_⟩
  · rw [hf y hy]
    by_cases e : y = g
    · rw [if_pos e]; subst e; rw [zRw_0 hq]; exact Or.inr ⟨by decide, by decide⟩
    · rw [if_neg e]; exact Or.inl rfl
  · rcases zRw_p hq hg hy (by omega) with e | ⟨x, h1, h2, h3⟩
    · rw [hf y hy, if_pos e, e, zRw_0 hq]; rfl
    · omega
/-- a row of the class when all is measured -/
def zRo (R : Nat → Nat) (f : Nat → Int32) : Prop := ∀ y, y < 49 → (R y < 999 → (f y).toInt = R y) ∧ (999 ≤ R y → f y = -1)
theorem zIn_end {fl : Nat → Bool} {C : Nat → Nat} {g : Nat} {f : Nat → Int32} (hq : zCqF fl C) (hg : 16 ≤ g ∧ g ≤ 32) (h : zIn (zRw C g) 49 f) : zRo (zRw C g) f := fun y hy => by
  have h9 := zRw_9 hq hg hy
  refine ⟨fun h1 => h.2 y hy (by omega), fun h1 => ?_⟩
  rcases h.1 y hy with e | ⟨e1, e2⟩
  · exact e
  · omega
theorem zRo_fr {R : Nat → Nat} {f f2 : Nat → Int32} (h : zRo R f) (e : f2 = f) : zRo R f2 := by rw [e]; exact h
def zS3 (R : Nat → Nat) : Nat → Nat
  | 0 => 0
  | n + 1 => zS3 R n + R n
theorem zS3_b {R : Nat → Nat} : ∀ n, (∀ j, j < n → R j ≤ 49) → zS3 R n ≤ 49 * n := by
  intro n
  induction n with
  | zero => intro _; exact Nat.le_refl 0
  | succ n ih =>
    intro h
    have h1 := ih (fun j hj => h j (by omega))
    have h2 := h n (by omega)
    rw [zS3]; omega
theorem zFl_no {B n : Nat} {ι ι1 : Nat → Nat → Int32} (h : ∀ s, 1 ≤ s → s ≤ 3 → ι1 (B + 21) s = (if zLb B ι (Int32.ofNat s) false n = true then 1 else 0) ∧ ι1 (B + 22) s = (if zLb B ι (Int32.ofNat s) true n = true then 1 else 0)) (h0 : ι (B + 39) n = 0) : ∀ s, 1 ≤ s → s ≤ 3 → ι1 (B + 21) s = (if zLb B ι (Int32.ofNat s) false (n + 1) = true then 1 else 0) ∧ ι1 (B + 22) s = (if zLb B ι (Int32.ofNat s) true (n + 1) = true then 1 else 0) := fun s s1 s2 => by
  have e : ∀ neg, zLb B ι (Int32.ofNat s) neg (n + 1) = zLb B ι (Int32.ofNat s) neg n := fun neg => by
    rw [zLb, h0]
    simp
  rw [e, e]
  exact h s s1 s2
theorem zof_eq {x : Int32} {s : Nat} (hx : 1 ≤ x.toInt ∧ x.toInt ≤ 3) (hs : s ≤ 3) : (x = Int32.ofNat s) ↔ s = x.toNatClampNeg := by
  have h1 := zclN (i := x) (by omega)
  have h2 := znat (N := s) (by omega)
  constructor
  · intro e
    rw [← e] at h2
    omega
  · intro e
    exact Int32.toInt_inj.mp (by omega)
theorem zFl_yes {B n : Nat} {ι ι1 ι3 : Nat → Nat → Int32} (h : ∀ s, 1 ≤ s → s ≤ 3 → ι1 (B + 21) s = (if zLb B ι (Int32.ofNat s) false n = true then 1 else 0) ∧ ι1 (B + 22) s = (if zLb B ι (Int32.ofNat s) true n = true then 1 else 0)) (hp : 1 ≤ (ι (B + 40) n).toInt ∧ (ι (B + 40) n).toInt ≤ 3) (h0 : ¬ ι (B + 39) n = 0) (hd : ∀ s, ι3 (B + 22) s = if s = (ι (B + 40) n).toNatClampNeg then 1 else ι1 (B + 22) s) (hm : ∀ s, ι3 (B + 21) s = if s = (ι (B + 40) n).toNatClampNeg ∧ ι (B + 42) n = 0 then 1 else ι1 (B + 21) s) : ∀ s, 1 ≤ s → s ≤ 3 → ι3 (B + 21) s = (if zLb B ι (Int32.ofNat s) false (n + 1) = true then 1 else 0) ∧ ι3 (B + 22) s = (if zLb B ι (Int32.ofNat s) true (n + 1) = true then 1 else 0) := fun s s1 s2 => by
  have hz := zof_eq (x := ι (B + 40) n) (s := s) hp s2
  have h1 := h s s1 s2
  refine ⟨?_, ?_⟩
  · rw [hm, zLb]
    by_cases e : s = (ι (B + 40) n).toNatClampNeg ∧ ι (B + 42) n = 0
    · rw [if_pos e, if_pos (by simp [h0, hz.mpr e.1, e.2])]
    · rw [if_neg e, h1.1]
      by_cases e1 : s = (ι (B + 40) n).toNatClampNeg
      · have e2 : ¬ ι (B + 42) n = 0 := fun g => e ⟨e1, g⟩
        simp [e2]
      · have e2 : ¬ ι (B + 40) n = Int32.ofNat s := fun g => e1 (hz.mp g)
        simp [e2]
  · rw [hd, zLb]
    by_cases e1 : s = (ι (B + 40) n).toNatClampNeg
    · rw [if_pos e1, if_pos (by simp [h0, hz.mpr e1])]
    · have e2 : ¬ ι (B + 40) n = Int32.ofNat s := fun g => e1 (hz.mp g)
      rw [if_neg e1, h1.2]
      simp [e2]
theorem zMd_of {B c : Nat} {ι ι1 : Nat → Nat → Int32} (h : ∀ s, 1 ≤ s → s ≤ 3 → ι1 (B + 21) s = (if zLb B ι (Int32.ofNat s) false c = true then 1 else 0) ∧ ι1 (B + 22) s = (if zLb B ι (Int32.ofNat s) true c = true then 1 else 0)) : zMd ι1 (B + 21) (B + 22) (zFs B ι c) := fun s s1 s2 => by
  rcases (show s = 1 ∨ s = 2 ∨ s = 3 by omega) with rfl | rfl | rfl
  · exact h 1 (by omega) (by omega)
  · exact h 2 (by omega) (by omega)
  · exact h 3 (by omega) (by omega)
theorem zRw_24 {C : Nat → Nat} {f : Nat → Int32} {x : Int32} (h : zRo (zRw C (x + 24).toNatClampNeg) f) (hx : -8 ≤ x.toInt ∧ x.toInt ≤ 8) : (C (32 + x.toInt).toNat < 999 → (f 24).toInt = C (32 + x.toInt).toNat) ∧ (999 ≤ C (32 + x.toInt).toNat → f 24 = -1) := by
  have e := zadd_c (x := x) 24 24 rfl (by omega) (by omega)
  have e2 := zclN (i := x + 24) (by omega)
  have h1 := h 24 (by omega)
  unfold zRw at h1
  rw [show 32 + (x + 24).toNatClampNeg - 24 = (32 + x.toInt).toNat by omega] at h1
  exact h1

set_option maxHeartbeats 4000000 in
set_option maxRecDepth 100000 in
theorem e_X8_forgetParts (l : Launch) (G : zG) (z : Nat) (τ : Nat → Option (Nat × Nat)) (ρ : Nat → Nat → Option Nat) (ι : Nat → Nat → Int32) (κ : Nat → Nat → Int64) {a mu dv aw nw M1 : Nat} {W : Nat → Nat} (ha : τ a = some (8, M1)) (g0 : ρ a 0 = some mu) (g1 : ρ a 1 = some dv) (g2 : ρ a 2 = some aw) (g3 : ρ a 3 = some nw) (hmu : τ mu = some (15, 4)) (hdv : τ dv = some (15, 4)) (haw : τ aw = some (18, 3)) (hnw : τ nw = some (13, 3)) (hW : ∀ j, j < 3 → ρ aw j = some (W j)) (hWt : ∀ j, j < 3 → τ (W j) = some (13, 49)) (dmd : mu ≠ dv) : zM l G yX8_forgetParts cX8_forgetParts 2 none ({ frames := 0, cells := 0, slots := 0, locals := 0 } : Room) [.ref a] (z, τ, ρ, ι, κ) (fun v s => v = none ∧ ∃ ι2, s = (z, τ, ρ, ι2, κ) ∧ (∀ b, b ≠ mu → b ≠ dv → ι2 b = ι b) ∧ ∀ s, s < 4 → ι2 mu s = 0 ∧ ι2 dv s = 0) 0 0 := by
  refine zM_of zCd_X8_forgetParts (Nat.le_of_ble_eq_true rfl) ?_
  intro E X hR hE
  subst hE
  show zW E G 2 (z, τ, ρ, ι, κ) 0 0 0 [(0, .ref a)] []
  have L2 : ∀ (m : Nat) (i : Int32) (ι1 : Nat → Nat → Int32), (4 - i.toInt).toNat < m → 0 ≤ i.toInt → i.toInt ≤ 4 → (∀ b, b ≠ mu → b ≠ dv → ι1 b = ι b) → (∀ s : Nat, (s : Int) < i.toInt → ι1 mu s = 0 ∧ ι1 dv s = 0) → zW E G 2 (z, τ, ρ, ι1, κ) 0 0 2 [(0, .ref a), (1, .int i)] [] := by
    intro m
    induction m with
    | zero => intro i ι1 h; omega
    | succ m ih => ?_
    intro i ι1 hm h0 h4 hf hz
    have hic := zclN h0
    refine r_iload_n X (by rfl) dX8_forgetParts_2 ?_
    refine r_iconst X 3 (by decide) dX8_forgetParts_3 ?_
    refine r_icmp_gt X 27 dX8_forgetParts_4 (by decide) (fun h4 => ?_) (fun h4 => ?_)
    · rw [show Int32.toInt 3 = 3 from rfl] at h4
      refine r_return X hR dX8_forgetParts_27 (Nat.zero_le _) (Nat.zero_le _) ?_
      exact ⟨rfl, _, rfl, hf, fun s hs => hz s (by omega)⟩
    · rw [show Int32.toInt 3 = 3 from rfl] at h4
      refine r_aload_n X (by rfl) dX8_forgetParts_7 ?_
      refine r_getR X dX8_forgetParts_8 zF_X8_11 ha g0 ?_
      refine r_iload_n X (by rfl) dX8_forgetParts_11 ?_
      refine r_iconst X 0 (by decide) dX8_forgetParts_12 ?_
      refine r_zastore X dX8_forgetParts_13 hmu (vp_in_iff.mpr ⟨h0, by omega⟩) (by decide) ?_
      refine r_aload_n X (by rfl) dX8_forgetParts_14 ?_
      refine r_getR X dX8_forgetParts_15 zF_X8_15 ha g1 ?_
      refine r_iload_n X (by rfl) dX8_forgetParts_18 ?_
      refine r_iconst X 0 (by decide) dX8_forgetParts_19 ?_
      refine r_zastore X dX8_forgetParts_20 hdv (vp_in_iff.mpr ⟨h0, by omega⟩) (by decide) ?_
      refine r_iinc X 1 (by decide) (by rfl) (by decide) dX8_forgetParts_21 ?_
      refine r_goto X 2 dX8_forgetParts_24 (by decide) ?_
      exact zW.loc2 (by rfl) (by rfl) (ih _ _ (by have e := zinc (x := i) (by omega); omega) (by have e := zinc (x := i) (by omega); omega) (by have e := zinc (x := i) (by omega); omega) (fun b h1 h2 => by rw [zu_r h2, zu_r h1]; exact hf b h1 h2) (fun s hs => by
        have e := zinc (x := i) (by omega)
        by_cases q : s = i.toNatClampNeg
        · subst q; rw [zu_s, zu_r dmd, zu_s]; exact ⟨rfl, rfl⟩
        · simp only [zu_k q]; exact hz s (by omega)))
  refine r_iconst X 0 (by decide) dX8_forgetParts_0 ?_
  refine r_istore_n X (by decide) dX8_forgetParts_1 ?_
  exact zW.loc2 (by rfl) (by rfl) (L2 5 _ _ (by decide) (by decide) (by decide) (fun _ _ _ => rfl) (fun s hs => by rw [show Int32.toInt 0 = 0 from rfl] at hs; omega))
set_option maxHeartbeats 4000000 in
set_option maxRecDepth 100000 in
theorem e_X8_allow (l : Launch) (G : zG) (z : Nat) (τ : Nat → Option (Nat × Nat)) (ρ : Nat → Nat → Option Nat) (ι : Nat → Nat → Int32) (κ : Nat → Nat → Int64) {a mu dv aw nw M1 : Nat} {W : Nat → Nat} (ha : τ a = some (8, M1)) (g0 : ρ a 0 = some mu) (g1 : ρ a 1 = some dv) (g2 : ρ a 2 = some aw) (g3 : ρ a 3 = some nw) (hmu : τ mu = some (15, 4)) (hdv : τ dv = some (15, 4)) (haw : τ aw = some (18, 3)) (hnw : τ nw = some (13, 3)) (hW : ∀ j, j < 3 → ρ aw j = some (W j)) (hWt : ∀ j, j < 3 → τ (W j) = some (13, 49)) (dmd : mu ≠ dv) (x y : Int32) (hx : 1 ≤ x.toInt ∧ x.toInt ≤ 3) : zM l G yX8_allow cX8_allow 3 none ({ frames := 0, cells := 0, slots := 0, locals := 0 } : Room) [.ref a, .int x, .int y] (z, τ, ρ, ι, κ) (fun v s => v = none ∧ ∃ ι2, s = (z, τ, ρ, ι2, κ) ∧ (∀ b, b ≠ mu → b ≠ dv → ι2 b = ι b) ∧ (∀ s, ι2 dv s = if s = x.toNatClampNeg then 1 else ι dv s) ∧ ∀ s, ι2 mu s = if s = x.toNatClampNeg ∧ y = 0 then 1 else ι mu s) 0 0 := by
  refine zM_of zCd_X8_allow (Nat.le_of_ble_eq_true rfl) ?_
  intro E X hR hE
  subst hE
  show zW E G 3 (z, τ, ρ, ι, κ) 0 0 0 [(0, .ref a), (1, .int x), (2, .int y)] []
  refine r_iload_n X (by rfl) dX8_allow_0 ?_
  refine r_iconst X 1 (by decide) dX8_allow_1 ?_
  refine r_icmp_lt X 10 dX8_allow_2 (by decide) (fun h2 => ?_) (fun h2 => ?_)
  · rw [show Int32.toInt 1 = 1 from rfl] at h2
    refine r_return X hR dX8_allow_10 (Nat.zero_le _) (Nat.zero_le _) ?_
    exfalso; omega
  · rw [show Int32.toInt 1 = 1 from rfl] at h2
    refine r_iload_n X (by rfl) dX8_allow_5 ?_
    refine r_iconst X 3 (by decide) dX8_allow_6 ?_
    refine r_icmp_le X 11 dX8_allow_7 (by decide) (fun h7 => ?_) (fun h7 => ?_)
    · rw [show Int32.toInt 3 = 3 from rfl] at h7
      refine r_aload_n X (by rfl) dX8_allow_11 ?_
      refine r_getR X dX8_allow_12 zF_X8_15 ha g1 ?_
      refine r_iload_n X (by rfl) dX8_allow_15 ?_
      refine r_iconst X 1 (by decide) dX8_allow_16 ?_
      refine r_zastore X dX8_allow_17 hdv (vp_in_iff.mpr ⟨by omega, by omega⟩) (by decide) ?_
      refine r_iload_n X (by rfl) dX8_allow_18 ?_
      refine r_if_ne X 29 dX8_allow_19 (by decide) (fun h19 => ?_) (fun h19 => ?_)
      · refine r_return X hR dX8_allow_29 (Nat.zero_le _) (Nat.zero_le _) ?_
        refine ⟨rfl, _, rfl, fun b h1 h2 => by rw [zu_r h2], fun s => ?_, fun s => ?_⟩
        · by_cases e : s = x.toNatClampNeg
          · subst e; rw [if_pos rfl, zu_s]
          · rw [if_neg e, zu_k e]
        · rw [if_neg (fun g => h19 g.2), zu_r dmd]
      · refine r_aload_n X (by rfl) dX8_allow_22 ?_
        refine r_getR X dX8_allow_23 zF_X8_11 ha g0 ?_
        refine r_iload_n X (by rfl) dX8_allow_26 ?_
        refine r_iconst X 1 (by decide) dX8_allow_27 ?_
        refine r_zastore X dX8_allow_28 hmu (vp_in_iff.mpr ⟨by omega, by omega⟩) (by decide) ?_
        refine r_return X hR dX8_allow_29 (Nat.zero_le _) (Nat.zero_le _) ?_
        refine ⟨rfl, _, rfl, fun b h1 h2 => by rw [zu_r h1, zu_r h2], fun s => ?_, fun s => ?_⟩
        · rw [zu_r (Ne.symm dmd)]
          by_cases e : s = x.toNatClampNeg
          · subst e; rw [if_pos rfl, zu_s]
          · rw [if_neg e, zu_k e]
        · by_cases e : s = x.toNatClampNeg
          · subst e; rw [if_pos ⟨rfl, h19⟩, zu_s]
          · rw [if_neg (fun g => e g.1), zu_k e, zu_r dmd]
    · rw [show Int32.toInt 3 = 3 from rfl] at h7
      refine r_return X hR dX8_allow_10 (Nat.zero_le _) (Nat.zero_le _) ?_
      exfalso; omega
set_option maxHeartbeats 4000000 in
set_option maxRecDepth 100000 in
theorem e_X8_reachBack (l : Launch) (G : zG) (z : Nat) (τ : Nat → Option (Nat × Nat)) (ρ : Nat → Nat → Option Nat) (ι : Nat → Nat → Int32) (κ : Nat → Nat → Int64) {a mu dv aw nw M1 : Nat} {W : Nat → Nat} (ha : τ a = some (8, M1)) (g0 : ρ a 0 = some mu) (g1 : ρ a 1 = some dv) (g2 : ρ a 2 = some aw) (g3 : ρ a 3 = some nw) (hmu : τ mu = some (15, 4)) (hdv : τ dv = some (15, 4)) (haw : τ aw = some (18, 3)) (hnw : τ nw = some (13, 3)) (hW : ∀ j, j < 3 → ρ aw j = some (W j)) (hWt : ∀ j, j < 3 → τ (W j) = some (13, 49)) {w : Nat} (hw : τ w = some (13, 49)) (x : Int32) (x0 : 0 ≤ x.toInt) (x1 : x.toInt < 49) (dwm : mu ≠ w) (dwd : dv ≠ w) {fl : Nat → Bool} (hF : zMd ι mu dv fl) (hr0 : 0 ≤ (ι w x.toNatClampNeg).toInt) (hr1 : (ι w x.toNatClampNeg).toInt ≤ 48) : zM l G yX8_reachBack cX8_reachBack 4 none ({ frames := 0, cells := 0, slots := 0, locals := 0 } : Room) [.ref a, .ref w, .int x] (z, τ, ρ, ι, κ) (fun v s => v = none ∧ ∃ ι2, s = (z, τ, ρ, ι2, κ) ∧ (∀ b, b ≠ w → ι2 b = ι b) ∧ zRb fl x.toNatClampNeg (ι w) (ι2 w) 6) 0 0 := by
  refine zM_of zCd_X8_reachBack (Nat.le_of_ble_eq_true rfl) ?_
  intro E X hR hE
  subst hE
  show zW E G 4 (z, τ, ρ, ι, κ) 0 0 0 [(0, .ref a), (1, .ref w), (2, .int x)] []
  have hxc := zclN x0
  have L2 : ∀ (m : Nat) (i : Int32) (ι1 : Nat → Nat → Int32), (4 - i.toInt).toNat < m → 1 ≤ i.toInt → i.toInt ≤ 4 → (∀ b, b ≠ w → ι1 b = ι b) → zRb fl x.toNatClampNeg (ι w) (ι1 w) (2 * i.toNatClampNeg - 2) → zW E G 4 (z, τ, ρ, ι1, κ) 0 0 2 [(0, .ref a), (1, .ref w), (2, .int x), (3, .int i)] [] := by
    intro m
    induction m with
    | zero => intro i ι1 h; omega
    | succ m ih => ?_
    intro i ι1 hm h0 h4 hf hB
    have hic := zclN (i := i) (by omega)
    refine r_iload_n X (by rfl) dX8_reachBack_2 ?_
    refine r_iconst X 3 (by decide) dX8_reachBack_3 ?_
    refine r_icmp_gt X 83 dX8_reachBack_4 (by decide) (fun h4 => ?_) (fun h4 => ?_)
    · rw [show Int32.toInt 3 = 3 from rfl] at h4
      refine r_return X hR dX8_reachBack_83 (Nat.zero_le _) (Nat.zero_le _) ?_
      have hie : 2 * i.toNatClampNeg - 2 = 6 := by omega
      rw [hie] at hB
      exact ⟨rfl, _, rfl, hf, hB⟩
    · rw [show Int32.toInt 3 = 3 from rfl] at h4
      have es := zsubI (x := x) (y := i) (by omega) (by omega)
      have ea := zaddI (x := x) (y := i) (by omega) (by omega)
      have eac := zclN (i := x + i) (by omega)
      have hFi := hF i.toNatClampNeg (by omega) (by omega)
      have hv1 : (ι1 w x.toNatClampNeg + 1).toInt = (ι w x.toNatClampNeg).toInt + 1 := by rw [zRb_x hB (by omega) hr0, zinc (x := ι w x.toNatClampNeg) (by omega)]
      refine r_aload_n X (by rfl) dX8_reachBack_7 ?_
      refine r_getR X dX8_reachBack_8 zF_X8_11 ha g0 ?_
      refine r_iload_n X (by rfl) dX8_reachBack_11 ?_
      refine r_zaload X dX8_reachBack_12 hmu (vp_in_iff.mpr ⟨by omega, by omega⟩) ?_
      refine r_if_eq X 41 dX8_reachBack_13 (by decide) (fun h13 => ?_) (fun h13 => ?_)
      · rw [hf mu dwm, hFi.1] at h13
        have hB1 := zRb_no hB (j := 3 + i.toNatClampNeg) (by omega) (fun y _ hfl _ => absurd hfl (zif0 h13))
        have hf5 := hf
        refine r_aload_n X (by rfl) dX8_reachBack_41 ?_
        refine r_getR X dX8_reachBack_42 zF_X8_15 ha g1 ?_
        refine r_iload_n X (by rfl) dX8_reachBack_45 ?_
        refine r_zaload X dX8_reachBack_46 hdv (vp_in_iff.mpr ⟨by omega, by omega⟩) ?_
        refine r_if_eq X 77 dX8_reachBack_47 (by decide) (fun h47 => ?_) (fun h47 => ?_)
        · rw [hf5 dv dwd, hFi.2] at h47
          have hB2 := zRb_no hB1 (j := 3 - i.toNatClampNeg) (by omega) (fun y _ hfl _ => absurd hfl (zif0 h47))
          have hf6 := hf5
          refine r_iinc X 1 (by decide) (by rfl) (by decide) dX8_reachBack_77 ?_
          refine r_goto X 2 dX8_reachBack_80 (by decide) ?_
          exact zW.loc4 (by rfl) (by rfl) (by rfl) (by rfl) (ih _ _ (by have e := zinc (x := i) (by omega); omega) (by have e := zinc (x := i) (by omega); omega) (by have e := zinc (x := i) (by omega); omega) hf6 (by have e := zinc (x := i) (by omega); have e2 := zclN (i := i + 1) (by omega); rw [show 2 * (i + 1).toNatClampNeg - 2 = 2 * i.toNatClampNeg - 2 + 1 + 1 by omega]; exact hB2))
        · rw [hf5 dv dwd, hFi.2] at h47
          refine r_iload_n X (by rfl) dX8_reachBack_50 ?_
          refine r_iload_n X (by rfl) dX8_reachBack_51 ?_
          refine r_iadd X dX8_reachBack_52 ?_
          refine r_bipush X 49 (by decide) dX8_reachBack_53 ?_
          refine r_icmp_ge X 77 dX8_reachBack_55 (by decide) (fun h55 => ?_) (fun h55 => ?_)
          · rw [show Int32.toInt 49 = 49 from rfl] at h55
            have hB2 := zRb_no hB1 (j := 3 - i.toNatClampNeg) (by omega) (fun y _ _ he => by exfalso; omega)
            have hf6 := hf5
            refine r_iinc X 1 (by decide) (by rfl) (by decide) dX8_reachBack_77 ?_
            refine r_goto X 2 dX8_reachBack_80 (by decide) ?_
            exact zW.loc4 (by rfl) (by rfl) (by rfl) (by rfl) (ih _ _ (by have e := zinc (x := i) (by omega); omega) (by have e := zinc (x := i) (by omega); omega) (by have e := zinc (x := i) (by omega); omega) hf6 (by have e := zinc (x := i) (by omega); have e2 := zclN (i := i + 1) (by omega); rw [show 2 * (i + 1).toNatClampNeg - 2 = 2 * i.toNatClampNeg - 2 + 1 + 1 by omega]; exact hB2))
          · rw [show Int32.toInt 49 = 49 from rfl] at h55
            refine r_aload_n X (by rfl) dX8_reachBack_58 ?_
            refine r_iload_n X (by rfl) dX8_reachBack_59 ?_
            refine r_iload_n X (by rfl) dX8_reachBack_60 ?_
            refine r_iadd X dX8_reachBack_61 ?_
            refine r_iaload X dX8_reachBack_62 hw (vp_in_iff.mpr ⟨by omega, by omega⟩) ?_
            refine r_iconst X (-1) (by decide) dX8_reachBack_63 ?_
            refine r_icmp_ne X 77 dX8_reachBack_64 (by decide) (fun h64 => ?_) (fun h64 => ?_)
            · have hB2 := zRb_no hB1 (j := 3 - i.toNatClampNeg) (by omega) (fun y _ _ he => by rw [show y = (x + i).toNatClampNeg by omega]; exact h64)
              have hf6 := hf5
              refine r_iinc X 1 (by decide) (by rfl) (by decide) dX8_reachBack_77 ?_
              refine r_goto X 2 dX8_reachBack_80 (by decide) ?_
              exact zW.loc4 (by rfl) (by rfl) (by rfl) (by rfl) (ih _ _ (by have e := zinc (x := i) (by omega); omega) (by have e := zinc (x := i) (by omega); omega) (by have e := zinc (x := i) (by omega); omega) hf6 (by have e := zinc (x := i) (by omega); have e2 := zclN (i := i + 1) (by omega); rw [show 2 * (i + 1).toNatClampNeg - 2 = 2 * i.toNatClampNeg - 2 + 1 + 1 by omega]; exact hB2))
            · refine r_aload_n X (by rfl) dX8_reachBack_67 ?_
              refine r_iload_n X (by rfl) dX8_reachBack_68 ?_
              refine r_iload_n X (by rfl) dX8_reachBack_69 ?_
              refine r_iadd X dX8_reachBack_70 ?_
              refine r_aload_n X (by rfl) dX8_reachBack_71 ?_
              refine r_iload_n X (by rfl) dX8_reachBack_72 ?_
              refine r_iaload X dX8_reachBack_73 hw (vp_in_iff.mpr ⟨x0, by omega⟩) ?_
              refine r_iconst X 1 (by decide) dX8_reachBack_74 ?_
              refine r_iadd X dX8_reachBack_75 ?_
              refine r_iastore X dX8_reachBack_76 hw (vp_in_iff.mpr ⟨by omega, by omega⟩) ?_
              have hv2 : (ι1 w x.toNatClampNeg + 1).toInt = (ι w x.toNatClampNeg).toInt + 1 := by rw [zRb_x hB1 (by omega) hr0, zinc (x := ι w x.toNatClampNeg) (by omega)]
              have hB2 := zRb_st hB1 (j := 3 - i.toNatClampNeg) (y0 := (x + i).toNatClampNeg) (v := ι1 w x.toNatClampNeg + 1) (by omega) (by omega) (by omega) (zif1 h47) (by omega) h64 hr0 hv2
              have hf6 : ∀ b, b ≠ w → zu ι1 w (x + i).toNatClampNeg (ι1 w x.toNatClampNeg + 1) b = ι b := fun b hb => by rw [zu_r hb]; exact hf5 b hb
              refine r_iinc X 1 (by decide) (by rfl) (by decide) dX8_reachBack_77 ?_
              refine r_goto X 2 dX8_reachBack_80 (by decide) ?_
              exact zW.loc4 (by rfl) (by rfl) (by rfl) (by rfl) (ih _ _ (by have e := zinc (x := i) (by omega); omega) (by have e := zinc (x := i) (by omega); omega) (by have e := zinc (x := i) (by omega); omega) hf6 (by have e := zinc (x := i) (by omega); have e2 := zclN (i := i + 1) (by omega); rw [show 2 * (i + 1).toNatClampNeg - 2 = 2 * i.toNatClampNeg - 2 + 1 + 1 by omega]; exact hB2))
      · rw [hf mu dwm, hFi.1] at h13
        refine r_iload_n X (by rfl) dX8_reachBack_16 ?_
        refine r_iload_n X (by rfl) dX8_reachBack_17 ?_
        refine r_isub X dX8_reachBack_18 ?_
        refine r_if_lt X 41 dX8_reachBack_19 (by decide) (fun h19 => ?_) (fun h19 => ?_)
        · have hB1 := zRb_no hB (j := 3 + i.toNatClampNeg) (by omega) (fun y _ _ he => by exfalso; omega)
          have hf5 := hf
          refine r_aload_n X (by rfl) dX8_reachBack_41 ?_
          refine r_getR X dX8_reachBack_42 zF_X8_15 ha g1 ?_
          refine r_iload_n X (by rfl) dX8_reachBack_45 ?_
          refine r_zaload X dX8_reachBack_46 hdv (vp_in_iff.mpr ⟨by omega, by omega⟩) ?_
          refine r_if_eq X 77 dX8_reachBack_47 (by decide) (fun h47 => ?_) (fun h47 => ?_)
          · rw [hf5 dv dwd, hFi.2] at h47
            have hB2 := zRb_no hB1 (j := 3 - i.toNatClampNeg) (by omega) (fun y _ hfl _ => absurd hfl (zif0 h47))
            have hf6 := hf5
            refine r_iinc X 1 (by decide) (by rfl) (by decide) dX8_reachBack_77 ?_
            refine r_goto X 2 dX8_reachBack_80 (by decide) ?_
            exact zW.loc4 (by rfl) (by rfl) (by rfl) (by rfl) (ih _ _ (by have e := zinc (x := i) (by omega); omega) (by have e := zinc (x := i) (by omega); omega) (by have e := zinc (x := i) (by omega); omega) hf6 (by have e := zinc (x := i) (by omega); have e2 := zclN (i := i + 1) (by omega); rw [show 2 * (i + 1).toNatClampNeg - 2 = 2 * i.toNatClampNeg - 2 + 1 + 1 by omega]; exact hB2))
          · rw [hf5 dv dwd, hFi.2] at h47
            refine r_iload_n X (by rfl) dX8_reachBack_50 ?_
            refine r_iload_n X (by rfl) dX8_reachBack_51 ?_
            refine r_iadd X dX8_reachBack_52 ?_
            refine r_bipush X 49 (by decide) dX8_reachBack_53 ?_
            refine r_icmp_ge X 77 dX8_reachBack_55 (by decide) (fun h55 => ?_) (fun h55 => ?_)
            · rw [show Int32.toInt 49 = 49 from rfl] at h55
              have hB2 := zRb_no hB1 (j := 3 - i.toNatClampNeg) (by omega) (fun y _ _ he => by exfalso; omega)
              have hf6 := hf5
              refine r_iinc X 1 (by decide) (by rfl) (by decide) dX8_reachBack_77 ?_
              refine r_goto X 2 dX8_reachBack_80 (by decide) ?_
              exact zW.loc4 (by rfl) (by rfl) (by rfl) (by rfl) (ih _ _ (by have e := zinc (x := i) (by omega); omega) (by have e := zinc (x := i) (by omega); omega) (by have e := zinc (x := i) (by omega); omega) hf6 (by have e := zinc (x := i) (by omega); have e2 := zclN (i := i + 1) (by omega); rw [show 2 * (i + 1).toNatClampNeg - 2 = 2 * i.toNatClampNeg - 2 + 1 + 1 by omega]; exact hB2))
            · rw [show Int32.toInt 49 = 49 from rfl] at h55
              refine r_aload_n X (by rfl) dX8_reachBack_58 ?_
              refine r_iload_n X (by rfl) dX8_reachBack_59 ?_
              refine r_iload_n X (by rfl) dX8_reachBack_60 ?_
              refine r_iadd X dX8_reachBack_61 ?_
              refine r_iaload X dX8_reachBack_62 hw (vp_in_iff.mpr ⟨by omega, by omega⟩) ?_
              refine r_iconst X (-1) (by decide) dX8_reachBack_63 ?_
              refine r_icmp_ne X 77 dX8_reachBack_64 (by decide) (fun h64 => ?_) (fun h64 => ?_)
              · have hB2 := zRb_no hB1 (j := 3 - i.toNatClampNeg) (by omega) (fun y _ _ he => by rw [show y = (x + i).toNatClampNeg by omega]; exact h64)
                have hf6 := hf5
                refine r_iinc X 1 (by decide) (by rfl) (by decide) dX8_reachBack_77 ?_
                refine r_goto X 2 dX8_reachBack_80 (by decide) ?_
                exact zW.loc4 (by rfl) (by rfl) (by rfl) (by rfl) (ih _ _ (by have e := zinc (x := i) (by omega); omega) (by have e := zinc (x := i) (by omega); omega) (by have e := zinc (x := i) (by omega); omega) hf6 (by have e := zinc (x := i) (by omega); have e2 := zclN (i := i + 1) (by omega); rw [show 2 * (i + 1).toNatClampNeg - 2 = 2 * i.toNatClampNeg - 2 + 1 + 1 by omega]; exact hB2))
              · refine r_aload_n X (by rfl) dX8_reachBack_67 ?_
                refine r_iload_n X (by rfl) dX8_reachBack_68 ?_
                refine r_iload_n X (by rfl) dX8_reachBack_69 ?_
                refine r_iadd X dX8_reachBack_70 ?_
                refine r_aload_n X (by rfl) dX8_reachBack_71 ?_
                refine r_iload_n X (by rfl) dX8_reachBack_72 ?_
                refine r_iaload X dX8_reachBack_73 hw (vp_in_iff.mpr ⟨x0, by omega⟩) ?_
                refine r_iconst X 1 (by decide) dX8_reachBack_74 ?_
                refine r_iadd X dX8_reachBack_75 ?_
                refine r_iastore X dX8_reachBack_76 hw (vp_in_iff.mpr ⟨by omega, by omega⟩) ?_
                have hv2 : (ι1 w x.toNatClampNeg + 1).toInt = (ι w x.toNatClampNeg).toInt + 1 := by rw [zRb_x hB1 (by omega) hr0, zinc (x := ι w x.toNatClampNeg) (by omega)]
                have hB2 := zRb_st hB1 (j := 3 - i.toNatClampNeg) (y0 := (x + i).toNatClampNeg) (v := ι1 w x.toNatClampNeg + 1) (by omega) (by omega) (by omega) (zif1 h47) (by omega) h64 hr0 hv2
                have hf6 : ∀ b, b ≠ w → zu ι1 w (x + i).toNatClampNeg (ι1 w x.toNatClampNeg + 1) b = ι b := fun b hb => by rw [zu_r hb]; exact hf5 b hb
                refine r_iinc X 1 (by decide) (by rfl) (by decide) dX8_reachBack_77 ?_
                refine r_goto X 2 dX8_reachBack_80 (by decide) ?_
                exact zW.loc4 (by rfl) (by rfl) (by rfl) (by rfl) (ih _ _ (by have e := zinc (x := i) (by omega); omega) (by have e := zinc (x := i) (by omega); omega) (by have e := zinc (x := i) (by omega); omega) hf6 (by have e := zinc (x := i) (by omega); have e2 := zclN (i := i + 1) (by omega); rw [show 2 * (i + 1).toNatClampNeg - 2 = 2 * i.toNatClampNeg - 2 + 1 + 1 by omega]; exact hB2))
        · have esc := zclN (i := x - i) (by omega)
          refine r_aload_n X (by rfl) dX8_reachBack_22 ?_
          refine r_iload_n X (by rfl) dX8_reachBack_23 ?_
          refine r_iload_n X (by rfl) dX8_reachBack_24 ?_
          refine r_isub X dX8_reachBack_25 ?_
          refine r_iaload X dX8_reachBack_26 hw (vp_in_iff.mpr ⟨by omega, by omega⟩) ?_
          refine r_iconst X (-1) (by decide) dX8_reachBack_27 ?_
          refine r_icmp_ne X 41 dX8_reachBack_28 (by decide) (fun h28 => ?_) (fun h28 => ?_)
          · have hB1 := zRb_no hB (j := 3 + i.toNatClampNeg) (by omega) (fun y _ _ he => by rw [show y = (x - i).toNatClampNeg by omega]; exact h28)
            have hf5 := hf
            refine r_aload_n X (by rfl) dX8_reachBack_41 ?_
            refine r_getR X dX8_reachBack_42 zF_X8_15 ha g1 ?_
            refine r_iload_n X (by rfl) dX8_reachBack_45 ?_
            refine r_zaload X dX8_reachBack_46 hdv (vp_in_iff.mpr ⟨by omega, by omega⟩) ?_
            refine r_if_eq X 77 dX8_reachBack_47 (by decide) (fun h47 => ?_) (fun h47 => ?_)
            · rw [hf5 dv dwd, hFi.2] at h47
              have hB2 := zRb_no hB1 (j := 3 - i.toNatClampNeg) (by omega) (fun y _ hfl _ => absurd hfl (zif0 h47))
              have hf6 := hf5
              refine r_iinc X 1 (by decide) (by rfl) (by decide) dX8_reachBack_77 ?_
              refine r_goto X 2 dX8_reachBack_80 (by decide) ?_
              exact zW.loc4 (by rfl) (by rfl) (by rfl) (by rfl) (ih _ _ (by have e := zinc (x := i) (by omega); omega) (by have e := zinc (x := i) (by omega); omega) (by have e := zinc (x := i) (by omega); omega) hf6 (by have e := zinc (x := i) (by omega); have e2 := zclN (i := i + 1) (by omega); rw [show 2 * (i + 1).toNatClampNeg - 2 = 2 * i.toNatClampNeg - 2 + 1 + 1 by omega]; exact hB2))
            · rw [hf5 dv dwd, hFi.2] at h47
              refine r_iload_n X (by rfl) dX8_reachBack_50 ?_
              refine r_iload_n X (by rfl) dX8_reachBack_51 ?_
              refine r_iadd X dX8_reachBack_52 ?_
              refine r_bipush X 49 (by decide) dX8_reachBack_53 ?_
              refine r_icmp_ge X 77 dX8_reachBack_55 (by decide) (fun h55 => ?_) (fun h55 => ?_)
              · rw [show Int32.toInt 49 = 49 from rfl] at h55
                have hB2 := zRb_no hB1 (j := 3 - i.toNatClampNeg) (by omega) (fun y _ _ he => by exfalso; omega)
                have hf6 := hf5
                refine r_iinc X 1 (by decide) (by rfl) (by decide) dX8_reachBack_77 ?_
                refine r_goto X 2 dX8_reachBack_80 (by decide) ?_
                exact zW.loc4 (by rfl) (by rfl) (by rfl) (by rfl) (ih _ _ (by have e := zinc (x := i) (by omega); omega) (by have e := zinc (x := i) (by omega); omega) (by have e := zinc (x := i) (by omega); omega) hf6 (by have e := zinc (x := i) (by omega); have e2 := zclN (i := i + 1) (by omega); rw [show 2 * (i + 1).toNatClampNeg - 2 = 2 * i.toNatClampNeg - 2 + 1 + 1 by omega]; exact hB2))
              · rw [show Int32.toInt 49 = 49 from rfl] at h55
                refine r_aload_n X (by rfl) dX8_reachBack_58 ?_
                refine r_iload_n X (by rfl) dX8_reachBack_59 ?_
                refine r_iload_n X (by rfl) dX8_reachBack_60 ?_
                refine r_iadd X dX8_reachBack_61 ?_
                refine r_iaload X dX8_reachBack_62 hw (vp_in_iff.mpr ⟨by omega, by omega⟩) ?_
                refine r_iconst X (-1) (by decide) dX8_reachBack_63 ?_
                refine r_icmp_ne X 77 dX8_reachBack_64 (by decide) (fun h64 => ?_) (fun h64 => ?_)
                · have hB2 := zRb_no hB1 (j := 3 - i.toNatClampNeg) (by omega) (fun y _ _ he => by rw [show y = (x + i).toNatClampNeg by omega]; exact h64)
                  have hf6 := hf5
                  refine r_iinc X 1 (by decide) (by rfl) (by decide) dX8_reachBack_77 ?_
                  refine r_goto X 2 dX8_reachBack_80 (by decide) ?_
                  exact zW.loc4 (by rfl) (by rfl) (by rfl) (by rfl) (ih _ _ (by have e := zinc (x := i) (by omega); omega) (by have e := zinc (x := i) (by omega); omega) (by have e := zinc (x := i) (by omega); omega) hf6 (by have e := zinc (x := i) (by omega); have e2 := zclN (i := i + 1) (by omega); rw [show 2 * (i + 1).toNatClampNeg - 2 = 2 * i.toNatClampNeg - 2 + 1 + 1 by omega]; exact hB2))
                · refine r_aload_n X (by rfl) dX8_reachBack_67 ?_
                  refine r_iload_n X (by rfl) dX8_reachBack_68 ?_
                  refine r_iload_n X (by rfl) dX8_reachBack_69 ?_
                  refine r_iadd X dX8_reachBack_70 ?_
                  refine r_aload_n X (by rfl) dX8_reachBack_71 ?_
                  refine r_iload_n X (by rfl) dX8_reachBack_72 ?_
                  refine r_iaload X dX8_reachBack_73 hw (vp_in_iff.mpr ⟨x0, by omega⟩) ?_
                  refine r_iconst X 1 (by decide) dX8_reachBack_74 ?_
                  refine r_iadd X dX8_reachBack_75 ?_
                  refine r_iastore X dX8_reachBack_76 hw (vp_in_iff.mpr ⟨by omega, by omega⟩) ?_
                  have hv2 : (ι1 w x.toNatClampNeg + 1).toInt = (ι w x.toNatClampNeg).toInt + 1 := by rw [zRb_x hB1 (by omega) hr0, zinc (x := ι w x.toNatClampNeg) (by omega)]
                  have hB2 := zRb_st hB1 (j := 3 - i.toNatClampNeg) (y0 := (x + i).toNatClampNeg) (v := ι1 w x.toNatClampNeg + 1) (by omega) (by omega) (by omega) (zif1 h47) (by omega) h64 hr0 hv2
                  have hf6 : ∀ b, b ≠ w → zu ι1 w (x + i).toNatClampNeg (ι1 w x.toNatClampNeg + 1) b = ι b := fun b hb => by rw [zu_r hb]; exact hf5 b hb
                  refine r_iinc X 1 (by decide) (by rfl) (by decide) dX8_reachBack_77 ?_
                  refine r_goto X 2 dX8_reachBack_80 (by decide) ?_
                  exact zW.loc4 (by rfl) (by rfl) (by rfl) (by rfl) (ih _ _ (by have e := zinc (x := i) (by omega); omega) (by have e := zinc (x := i) (by omega); omega) (by have e := zinc (x := i) (by omega); omega) hf6 (by have e := zinc (x := i) (by omega); have e2 := zclN (i := i + 1) (by omega); rw [show 2 * (i + 1).toNatClampNeg - 2 = 2 * i.toNatClampNeg - 2 + 1 + 1 by omega]; exact hB2))
          · refine r_aload_n X (by rfl) dX8_reachBack_31 ?_
            refine r_iload_n X (by rfl) dX8_reachBack_32 ?_
            refine r_iload_n X (by rfl) dX8_reachBack_33 ?_
            refine r_isub X dX8_reachBack_34 ?_
            refine r_aload_n X (by rfl) dX8_reachBack_35 ?_
            refine r_iload_n X (by rfl) dX8_reachBack_36 ?_
            refine r_iaload X dX8_reachBack_37 hw (vp_in_iff.mpr ⟨x0, by omega⟩) ?_
            refine r_iconst X 1 (by decide) dX8_reachBack_38 ?_
            refine r_iadd X dX8_reachBack_39 ?_
            refine r_iastore X dX8_reachBack_40 hw (vp_in_iff.mpr ⟨by omega, by omega⟩) ?_
            have hB1 := zRb_st hB (j := 3 + i.toNatClampNeg) (y0 := (x - i).toNatClampNeg) (v := ι1 w x.toNatClampNeg + 1) (by omega) (by omega) (by omega) (zif1 h13) (by omega) h28 hr0 hv1
            have hf5 : ∀ b, b ≠ w → zu ι1 w (x - i).toNatClampNeg (ι1 w x.toNatClampNeg + 1) b = ι b := fun b hb => by rw [zu_r hb]; exact hf b hb
            generalize zu ι1 w (x - i).toNatClampNeg (ι1 w x.toNatClampNeg + 1) = ι5 at hB1 hf5 ⊢
            refine r_aload_n X (by rfl) dX8_reachBack_41 ?_
            refine r_getR X dX8_reachBack_42 zF_X8_15 ha g1 ?_
            refine r_iload_n X (by rfl) dX8_reachBack_45 ?_
            refine r_zaload X dX8_reachBack_46 hdv (vp_in_iff.mpr ⟨by omega, by omega⟩) ?_
            refine r_if_eq X 77 dX8_reachBack_47 (by decide) (fun h47 => ?_) (fun h47 => ?_)
            · rw [hf5 dv dwd, hFi.2] at h47
              have hB2 := zRb_no hB1 (j := 3 - i.toNatClampNeg) (by omega) (fun y _ hfl _ => absurd hfl (zif0 h47))
              have hf6 := hf5
              refine r_iinc X 1 (by decide) (by rfl) (by decide) dX8_reachBack_77 ?_
              refine r_goto X 2 dX8_reachBack_80 (by decide) ?_
              exact zW.loc4 (by rfl) (by rfl) (by rfl) (by rfl) (ih _ _ (by have e := zinc (x := i) (by omega); omega) (by have e := zinc (x := i) (by omega); omega) (by have e := zinc (x := i) (by omega); omega) hf6 (by have e := zinc (x := i) (by omega); have e2 := zclN (i := i + 1) (by omega); rw [show 2 * (i + 1).toNatClampNeg - 2 = 2 * i.toNatClampNeg - 2 + 1 + 1 by omega]; exact hB2))
            · rw [hf5 dv dwd, hFi.2] at h47
              refine r_iload_n X (by rfl) dX8_reachBack_50 ?_
              refine r_iload_n X (by rfl) dX8_reachBack_51 ?_
              refine r_iadd X dX8_reachBack_52 ?_
              refine r_bipush X 49 (by decide) dX8_reachBack_53 ?_
              refine r_icmp_ge X 77 dX8_reachBack_55 (by decide) (fun h55 => ?_) (fun h55 => ?_)
              · rw [show Int32.toInt 49 = 49 from rfl] at h55
                have hB2 := zRb_no hB1 (j := 3 - i.toNatClampNeg) (by omega) (fun y _ _ he => by exfalso; omega)
                have hf6 := hf5
                refine r_iinc X 1 (by decide) (by rfl) (by decide) dX8_reachBack_77 ?_
                refine r_goto X 2 dX8_reachBack_80 (by decide) ?_
                exact zW.loc4 (by rfl) (by rfl) (by rfl) (by rfl) (ih _ _ (by have e := zinc (x := i) (by omega); omega) (by have e := zinc (x := i) (by omega); omega) (by have e := zinc (x := i) (by omega); omega) hf6 (by have e := zinc (x := i) (by omega); have e2 := zclN (i := i + 1) (by omega); rw [show 2 * (i + 1).toNatClampNeg - 2 = 2 * i.toNatClampNeg - 2 + 1 + 1 by omega]; exact hB2))
              · rw [show Int32.toInt 49 = 49 from rfl] at h55
                refine r_aload_n X (by rfl) dX8_reachBack_58 ?_
                refine r_iload_n X (by rfl) dX8_reachBack_59 ?_
                refine r_iload_n X (by rfl) dX8_reachBack_60 ?_
                refine r_iadd X dX8_reachBack_61 ?_
                refine r_iaload X dX8_reachBack_62 hw (vp_in_iff.mpr ⟨by omega, by omega⟩) ?_
                refine r_iconst X (-1) (by decide) dX8_reachBack_63 ?_
                refine r_icmp_ne X 77 dX8_reachBack_64 (by decide) (fun h64 => ?_) (fun h64 => ?_)
                · have hB2 := zRb_no hB1 (j := 3 - i.toNatClampNeg) (by omega) (fun y _ _ he => by rw [show y = (x + i).toNatClampNeg by omega]; exact h64)
                  have hf6 := hf5
                  refine r_iinc X 1 (by decide) (by rfl) (by decide) dX8_reachBack_77 ?_
                  refine r_goto X 2 dX8_reachBack_80 (by decide) ?_
                  exact zW.loc4 (by rfl) (by rfl) (by rfl) (by rfl) (ih _ _ (by have e := zinc (x := i) (by omega); omega) (by have e := zinc (x := i) (by omega); omega) (by have e := zinc (x := i) (by omega); omega) hf6 (by have e := zinc (x := i) (by omega); have e2 := zclN (i := i + 1) (by omega); rw [show 2 * (i + 1).toNatClampNeg - 2 = 2 * i.toNatClampNeg - 2 + 1 + 1 by omega]; exact hB2))
                · refine r_aload_n X (by rfl) dX8_reachBack_67 ?_
                  refine r_iload_n X (by rfl) dX8_reachBack_68 ?_
                  refine r_iload_n X (by rfl) dX8_reachBack_69 ?_
                  refine r_iadd X dX8_reachBack_70 ?_
                  refine r_aload_n X (by rfl) dX8_reachBack_71 ?_
                  refine r_iload_n X (by rfl) dX8_reachBack_72 ?_
                  refine r_iaload X dX8_reachBack_73 hw (vp_in_iff.mpr ⟨x0, by omega⟩) ?_
                  refine r_iconst X 1 (by decide) dX8_reachBack_74 ?_
                  refine r_iadd X dX8_reachBack_75 ?_
                  refine r_iastore X dX8_reachBack_76 hw (vp_in_iff.mpr ⟨by omega, by omega⟩) ?_
                  have hv2 : (ι5 w x.toNatClampNeg + 1).toInt = (ι w x.toNatClampNeg).toInt + 1 := by rw [zRb_x hB1 (by omega) hr0, zinc (x := ι w x.toNatClampNeg) (by omega)]
                  have hB2 := zRb_st hB1 (j := 3 - i.toNatClampNeg) (y0 := (x + i).toNatClampNeg) (v := ι5 w x.toNatClampNeg + 1) (by omega) (by omega) (by omega) (zif1 h47) (by omega) h64 hr0 hv2
                  have hf6 : ∀ b, b ≠ w → zu ι5 w (x + i).toNatClampNeg (ι5 w x.toNatClampNeg + 1) b = ι b := fun b hb => by rw [zu_r hb]; exact hf5 b hb
                  refine r_iinc X 1 (by decide) (by rfl) (by decide) dX8_reachBack_77 ?_
                  refine r_goto X 2 dX8_reachBack_80 (by decide) ?_
                  exact zW.loc4 (by rfl) (by rfl) (by rfl) (by rfl) (ih _ _ (by have e := zinc (x := i) (by omega); omega) (by have e := zinc (x := i) (by omega); omega) (by have e := zinc (x := i) (by omega); omega) hf6 (by have e := zinc (x := i) (by omega); have e2 := zclN (i := i + 1) (by omega); rw [show 2 * (i + 1).toNatClampNeg - 2 = 2 * i.toNatClampNeg - 2 + 1 + 1 by omega]; exact hB2))
  refine r_iconst X 1 (by decide) dX8_reachBack_0 ?_
  refine r_istore_n X (by decide) dX8_reachBack_1 ?_
  exact zW.loc4 (by rfl) (by rfl) (by rfl) (by rfl) (L2 5 _ _ (by decide) (by decide) (by decide) (fun _ _ => rfl) zRb_0)
set_option maxHeartbeats 4000000 in
set_option maxRecDepth 100000 in
theorem e_X8_measure (l : Launch) (G : zG) (z : Nat) (τ : Nat → Option (Nat × Nat)) (ρ : Nat → Nat → Option Nat) (ι : Nat → Nat → Int32) (κ : Nat → Nat → Int64) {a mu dv aw nw M1 : Nat} {W : Nat → Nat} (ha : τ a = some (8, M1)) (g0 : ρ a 0 = some mu) (g1 : ρ a 1 = some dv) (g2 : ρ a 2 = some aw) (g3 : ρ a 3 = some nw) (hmu : τ mu = some (15, 4)) (hdv : τ dv = some (15, 4)) (haw : τ aw = some (18, 3)) (hnw : τ nw = some (13, 3)) (hW : ∀ j, j < 3 → ρ aw j = some (W j)) (hWt : ∀ j, j < 3 → τ (W j) = some (13, 49)) {w : Nat} (hw : τ w = some (13, 49)) (x : Int32) (dwm : mu ≠ w) (dwd : dv ≠ w) {fl : Nat → Bool} (hF : zMd ι mu dv fl) {C : Nat → Nat} (hq : zCqF fl C) (hg : 16 ≤ x.toInt ∧ x.toInt ≤ 32) : zM l G yX8_measure cX8_measure 5 none ({ frames := 1, cells := 0, slots := 0, locals := 23 } : Room) [.ref a, .ref w, .int x] (z, τ, ρ, ι, κ) (fun v s => v = none ∧ ∃ ι2, s = (z, τ, ρ, ι2, κ) ∧ (∀ b, b ≠ w → ι2 b = ι b) ∧ zRo (zRw C x.toNatClampNeg) (ι2 w)) 0 0 := by
  refine zM_of zCd_X8_measure (Nat.le_of_ble_eq_true rfl) ?_
  intro E X hR hE
  subst hE
  show zW E G 5 (z, τ, ρ, ι, κ) 0 0 0 [(0, .ref a), (1, .ref w), (2, .int x)] []
  have hxc := zclN (i := x) (by omega)
  have hgn : 16 ≤ x.toNatClampNeg ∧ x.toNatClampNeg ≤ 32 := by omega
  have L29 : ∀ (m : Nat) (i : Int32) (ι1 : Nat → Nat → Int32), (49 - i.toInt).toNat < m → 0 ≤ i.toInt → i.toInt ≤ 49 → (∀ b, b ≠ w → ι1 b = ι b) → zIn (zRw C x.toNatClampNeg) i.toNatClampNeg (ι1 w) → zW E G 5 (z, τ, ρ, ι1, κ) 0 0 29 [(0, .ref a), (1, .ref w), (2, .int x), (3, .int i)] [] := by
    intro m
    induction m with
    | zero => intro i ι1 h; omega
    | succ m ih => ?_
    intro i ι1 hm h0 h49 hf hN
    have hic := zclN h0
    have L38 : i.toInt < 49 → ∀ (m2 : Nat) (j : Int32) (ι2 : Nat → Nat → Int32), (49 - j.toInt).toNat < m2 → 0 ≤ j.toInt → j.toInt ≤ 49 → (∀ b, b ≠ w → ι2 b = ι b) → zIl fl (zRw C x.toNatClampNeg) i.toNatClampNeg j.toNatClampNeg (ι2 w) → zW E G 5 (z, τ, ρ, ι2, κ) 0 0 38 [(0, .ref a), (1, .ref w), (2, .int x), (3, .int i), (4, .int j)] [] := by
      intro hi m2
      induction m2 with
      | zero => intro j ι2 h; omega
      | succ m2 ih2 => ?_
      intro j ι2 hm2 hj hj49 hf2 hI
      have hjc := zclN hj
      refine r_iload X (by rfl) dX8_measure_38 ?_
      refine r_bipush X 49 (by decide) dX8_measure_40 ?_
      refine r_icmp_ge X 66 dX8_measure_42 (by decide) (fun h42 => ?_) (fun h42 => ?_)
      · rw [show Int32.toInt 49 = 49 from rfl] at h42
        refine r_iinc X 1 (by decide) (by rfl) (by decide) dX8_measure_66 ?_
        refine r_goto X 29 dX8_measure_69 (by decide) ?_
        exact zW.loc4 (by rfl) (by rfl) (by rfl) (by rfl) (ih _ _ (by have e := zinc (x := i) (by omega); omega) (by have e := zinc (x := i) (by omega); omega) (by have e := zinc (x := i) (by omega); omega) hf2 (by have e := zinc (x := i) (by omega); have e2 := zclN (i := i + 1) (by omega); rw [show (i + 1).toNatClampNeg = i.toNatClampNeg + 1 by omega]; exact zIl_end hq hgn (by omega) (by rw [show j.toNatClampNeg = 49 by omega] at hI; exact hI)))
      · rw [show Int32.toInt 49 = 49 from rfl] at h42
        refine r_aload_n X (by rfl) dX8_measure_45 ?_
        refine r_iload X (by rfl) dX8_measure_46 ?_
        refine r_iaload X dX8_measure_48 hw (vp_in_iff.mpr ⟨hj, by omega⟩) ?_
        refine r_iload_n X (by rfl) dX8_measure_49 ?_
        refine r_icmp_ne X 60 dX8_measure_50 (by decide) (fun h50 => ?_) (fun h50 => ?_)
        · have hK := zIl_no hI (by omega) (fun e => h50 (Int32.toInt_inj.mp (by omega)))
          refine r_iinc X 1 (by decide) (by rfl) (by decide) dX8_measure_60 ?_
          refine r_goto X 38 dX8_measure_63 (by decide) ?_
          exact zW.loc5 (by rfl) (by rfl) (by rfl) (by rfl) (by rfl) (ih2 _ _ (by have e := zinc (x := j) (by omega); omega) (by have e := zinc (x := j) (by omega); omega) (by have e := zinc (x := j) (by omega); omega) (by first | exact hf4 | exact hf2) (by have e := zinc (x := j) (by omega); have e2 := zclN (i := j + 1) (by omega); rw [show (j + 1).toNatClampNeg = j.toNatClampNeg + 1 by omega]; exact hK))
        · refine r_aload_n X (by rfl) dX8_measure_53 ?_
          refine r_aload_n X (by rfl) dX8_measure_54 ?_
          refine r_iload X (by rfl) dX8_measure_55 ?_
          refine r_callV X dX8_measure_57 zLV_X8_31 zCd_X8_reachBack (e_X8_reachBack _ G z τ ρ _ _ ha g0 g1 g2 g3 hmu hdv haw hnw hW hWt hw _ hj (by omega) dwm dwd (fl := fl) (by intro s s1 s2; rw [hf2 mu dwm, hf2 dv dwd]; exact hF s s1 s2) (by rw [h50]; exact h0) (by rw [h50]; omega)) ha ⟨by decide, rfl, rfl⟩ rfl rfl ⟨⟨rfl, rfl⟩, ⟨by decide, by decide⟩, ⟨Nat.le_of_ble_eq_true rfl, Nat.le_of_ble_eq_true rfl⟩, Nat.le_of_ble_eq_true rfl⟩ ?_
          rintro _ _ ⟨rfl, ι3, rfl, hf3, hb3⟩
          have hf4 : ∀ b, b ≠ w → ι3 b = ι b := fun b hb => by rw [hf3 b hb]; exact hf2 b hb
          have hK := zIl_yes hq hgn hI (by omega) (by rw [h50]; omega) hb3
          refine r_iinc X 1 (by decide) (by rfl) (by decide) dX8_measure_60 ?_
          refine r_goto X 38 dX8_measure_63 (by decide) ?_
          exact zW.loc5 (by rfl) (by rfl) (by rfl) (by rfl) (by rfl) (ih2 _ _ (by have e := zinc (x := j) (by omega); omega) (by have e := zinc (x := j) (by omega); omega) (by have e := zinc (x := j) (by omega); omega) (by first | exact hf4 | exact hf2) (by have e := zinc (x := j) (by omega); have e2 := zclN (i := j + 1) (by omega); rw [show (j + 1).toNatClampNeg = j.toNatClampNeg + 1 by omega]; exact hK))
    refine r_iload_n X (by rfl) dX8_measure_29 ?_
    refine r_bipush X 49 (by decide) dX8_measure_30 ?_
    refine r_icmp_ge X 72 dX8_measure_32 (by decide) (fun h32 => ?_) (fun h32 => ?_)
    · rw [show Int32.toInt 49 = 49 from rfl] at h32
      refine r_return X hR dX8_measure_72 (Nat.zero_le _) (Nat.zero_le _) ?_
      rw [show i.toNatClampNeg = 49 by omega] at hN
      exact ⟨rfl, _, rfl, hf, zIn_end hq hgn hN⟩
    · rw [show Int32.toInt 49 = 49 from rfl] at h32
      refine r_iconst X 0 (by decide) dX8_measure_35 ?_
      refine r_istore X (by decide) dX8_measure_36 ?_
      exact zW.loc5 (by rfl) (by rfl) (by rfl) (by rfl) (by rfl) (L38 h32 50 0 _ (by decide) (by decide) (by decide) hf (zIl_0 hN))
  have L2 : ∀ (m : Nat) (i : Int32) (ι1 : Nat → Nat → Int32), (49 - i.toInt).toNat < m → 0 ≤ i.toInt → (∀ b, b ≠ w → ι1 b = ι b) → (∀ y : Nat, y < 49 → (y : Int) < i.toInt → ι1 w y = if y = x.toNatClampNeg then 0 else -1) → zW E G 5 (z, τ, ρ, ι1, κ) 0 0 2 [(0, .ref a), (1, .ref w), (2, .int x), (3, .int i)] [] := by
    intro m
    induction m with
    | zero => intro i ι1 h; omega
    | succ m ih => ?_
    intro i ι1 hm h0 hf hz
    have hic := zclN h0
    refine r_iload_n X (by rfl) dX8_measure_2 ?_
    refine r_bipush X 49 (by decide) dX8_measure_3 ?_
    refine r_icmp_ge X 27 dX8_measure_5 (by decide) (fun h5 => ?_) (fun h5 => ?_)
    · rw [show Int32.toInt 49 = 49 from rfl] at h5
      refine r_iconst X 0 (by decide) dX8_measure_27 ?_
      refine r_istore_n X (by decide) dX8_measure_28 ?_
      exact zW.loc4 (by rfl) (by rfl) (by rfl) (by rfl) (L29 50 0 _ (by decide) (by decide) (by decide) hf (zIn_0 hq hgn (fun y hy => hz y hy (by omega))))
    · rw [show Int32.toInt 49 = 49 from rfl] at h5
      refine r_aload_n X (by rfl) dX8_measure_8 ?_
      refine r_iload_n X (by rfl) dX8_measure_9 ?_
      refine r_iload_n X (by rfl) dX8_measure_10 ?_
      refine r_iload_n X (by rfl) dX8_measure_11 ?_
      refine r_icmp_ne X 19 dX8_measure_12 (by decide) (fun h12 => ?_) (fun h12 => ?_)
      · refine r_iconst X (-1) (by decide) dX8_measure_19 ?_
        refine r_iastore X dX8_measure_20 hw (vp_in_iff.mpr ⟨h0, by omega⟩) ?_
        refine r_iinc X 1 (by decide) (by rfl) (by decide) dX8_measure_21 ?_
        refine r_goto X 2 dX8_measure_24 (by decide) ?_
        exact zW.loc4 (by rfl) (by rfl) (by rfl) (by rfl) (ih _ _ (by have e := zinc (x := i) (by omega); omega) (by have e := zinc (x := i) (by omega); omega) (fun b h1 => by simp only [zu_r h1]; exact hf b h1) (fun y hy hk => by
          have e := zinc (x := i) (by omega)
          by_cases q : y = i.toNatClampNeg
          · subst q; rw [zu_s]; first | (rw [if_pos (by rw [h12])]) | (rw [if_neg (fun g => h12 (Int32.toInt_inj.mp (by omega)))])
          · rw [zu_k q]; exact hz y hy (by omega)))
      · refine r_iconst X 0 (by decide) dX8_measure_15 ?_
        refine r_goto X 20 dX8_measure_16 (by decide) ?_
        refine r_iastore X dX8_measure_20 hw (vp_in_iff.mpr ⟨h0, by omega⟩) ?_
        refine r_iinc X 1 (by decide) (by rfl) (by decide) dX8_measure_21 ?_
        refine r_goto X 2 dX8_measure_24 (by decide) ?_
        exact zW.loc4 (by rfl) (by rfl) (by rfl) (by rfl) (ih _ _ (by have e := zinc (x := i) (by omega); omega) (by have e := zinc (x := i) (by omega); omega) (fun b h1 => by simp only [zu_r h1]; exact hf b h1) (fun y hy hk => by
          have e := zinc (x := i) (by omega)
          by_cases q : y = i.toNatClampNeg
          · subst q; rw [zu_s]; first | (rw [if_pos (by rw [h12])]) | (rw [if_neg (fun g => h12 (Int32.toInt_inj.mp (by omega)))])
          · rw [zu_k q]; exact hz y hy (by omega)))
  refine r_iconst X 0 (by decide) dX8_measure_0 ?_
  refine r_istore_n X (by decide) dX8_measure_1 ?_
  exact zW.loc4 (by rfl) (by rfl) (by rfl) (by rfl) (L2 50 _ _ (by decide) (by decide) (fun _ _ => rfl) (fun y _ hk => by rw [show Int32.toInt 0 = 0 from rfl] at hk; omega))
set_option maxHeartbeats 4000000 in
set_option maxRecDepth 100000 in
theorem e_X8_aimAt (l : Launch) (G : zG) (z : Nat) (τ : Nat → Option (Nat × Nat)) (ρ : Nat → Nat → Option Nat) (ι : Nat → Nat → Int32) (κ : Nat → Nat → Int64) {a mu dv aw nw M1 : Nat} {W : Nat → Nat} (ha : τ a = some (8, M1)) (g0 : ρ a 0 = some mu) (g1 : ρ a 1 = some dv) (g2 : ρ a 2 = some aw) (g3 : ρ a 3 = some nw) (hmu : τ mu = some (15, 4)) (hdv : τ dv = some (15, 4)) (haw : τ aw = some (18, 3)) (hnw : τ nw = some (13, 3)) (hW : ∀ j, j < 3 → ρ aw j = some (W j)) (hWt : ∀ j, j < 3 → τ (W j) = some (13, 49)) {fl : Nat → Bool} (hF : zMd ι mu dv fl) {C : Nat → Nat} (hq : zCqF fl C) (hdm : ∀ j, j < 3 → mu ≠ W j ∧ dv ≠ W j) (d01 : W 0 ≠ W 1) (d02 : W 0 ≠ W 2) (d12 : W 1 ≠ W 2) (x y u : Int32) (hx : (-8 ≤ x.toInt ∧ x.toInt ≤ 8)) (hy : (-8 ≤ y.toInt ∧ y.toInt ≤ 8)) (hu : (-8 ≤ u.toInt ∧ u.toInt ≤ 8)) : zM l G yX8_aimAt cX8_aimAt 4 none ({ frames := 2, cells := 0, slots := 0, locals := 47 } : Room) [.ref a, .int x, .int y, .int u] (z, τ, ρ, ι, κ) (fun v s => v = none ∧ ∃ ι2, s = (z, τ, ρ, ι2, κ) ∧ (∀ b, b ≠ W 0 → b ≠ W 1 → b ≠ W 2 → ι2 b = ι b) ∧ zRo (zRw C (x + 24).toNatClampNeg) (ι2 (W 0)) ∧ zRo (zRw C (y + 24).toNatClampNeg) (ι2 (W 1)) ∧ zRo (zRw C (u + 24).toNatClampNeg) (ι2 (W 2))) 0 0 := by
  refine zM_of zCd_X8_aimAt (Nat.le_of_ble_eq_true rfl) ?_
  intro E X hR hE
  subst hE
  show zW E G 4 (z, τ, ρ, ι, κ) 0 0 0 [(0, .ref a), (1, .int x), (2, .int y), (3, .int u)] []
  have ex := zadd_c (x := x) 24 24 rfl (by omega) (by omega)
  have ey := zadd_c (x := y) 24 24 rfl (by omega) (by omega)
  have eu := zadd_c (x := u) 24 24 rfl (by omega) (by omega)
  have n0 := hdm 0 (by decide)
  have n1 := hdm 1 (by decide)
  have n2 := hdm 2 (by decide)
  refine r_aload_n X (by rfl) dX8_aimAt_0 ?_
  refine r_aload_n X (by rfl) dX8_aimAt_1 ?_
  refine r_getR X dX8_aimAt_2 zF_X8_20 ha g2 ?_
  refine r_iconst X 0 (by decide) dX8_aimAt_5 ?_
  refine r_aaload X dX8_aimAt_6 haw (by decide) (vp_in_iff.mpr ⟨by decide, by decide⟩) (hW 0 (by decide)) ?_
  refine r_iload_n X (by rfl) dX8_aimAt_7 ?_
  refine r_bipush X 24 (by decide) dX8_aimAt_8 ?_
  refine r_iadd X dX8_aimAt_10 ?_
  refine r_callV X dX8_aimAt_11 zLV_X8_27 zCd_X8_measure (e_X8_measure _ G z τ ρ _ _ ha g0 g1 g2 g3 hmu hdv haw hnw hW hWt (hWt 0 (by decide)) _ n0.1 n0.2 (fl := fl) hF hq (by omega)) ha ⟨by decide, rfl, rfl⟩ rfl rfl ⟨⟨rfl, rfl⟩, ⟨by decide, by decide⟩, ⟨Nat.le_of_ble_eq_true rfl, Nat.le_of_ble_eq_true rfl⟩, Nat.le_of_ble_eq_true rfl⟩ ?_
  rintro _ _ ⟨rfl, ιa, rfl, fa, qa⟩
  refine r_aload_n X (by rfl) dX8_aimAt_14 ?_
  refine r_aload_n X (by rfl) dX8_aimAt_15 ?_
  refine r_getR X dX8_aimAt_16 zF_X8_20 ha g2 ?_
  refine r_iconst X 1 (by decide) dX8_aimAt_19 ?_
  refine r_aaload X dX8_aimAt_20 haw (by decide) (vp_in_iff.mpr ⟨by decide, by decide⟩) (hW 1 (by decide)) ?_
  refine r_iload_n X (by rfl) dX8_aimAt_21 ?_
  refine r_bipush X 24 (by decide) dX8_aimAt_22 ?_
  refine r_iadd X dX8_aimAt_24 ?_
  refine r_callV X dX8_aimAt_25 zLV_X8_27 zCd_X8_measure (e_X8_measure _ G z τ ρ _ _ ha g0 g1 g2 g3 hmu hdv haw hnw hW hWt (hWt 1 (by decide)) _ n1.1 n1.2 (fl := fl) (by intro s s1 s2; rw [fa mu n0.1, fa dv n0.2]; exact hF s s1 s2) hq (by omega)) ha ⟨by decide, rfl, rfl⟩ rfl rfl ⟨⟨rfl, rfl⟩, ⟨by decide, by decide⟩, ⟨Nat.le_of_ble_eq_true rfl, Nat.le_of_ble_eq_true rfl⟩, Nat.le_of_ble_eq_true rfl⟩ ?_
  rintro _ _ ⟨rfl, ιb, rfl, fb, qb⟩
  refine r_aload_n X (by rfl) dX8_aimAt_28 ?_
  refine r_aload_n X (by rfl) dX8_aimAt_29 ?_
  refine r_getR X dX8_aimAt_30 zF_X8_20 ha g2 ?_
  refine r_iconst X 2 (by decide) dX8_aimAt_33 ?_
  refine r_aaload X dX8_aimAt_34 haw (by decide) (vp_in_iff.mpr ⟨by decide, by decide⟩) (hW 2 (by decide)) ?_
  refine r_iload_n X (by rfl) dX8_aimAt_35 ?_
  refine r_bipush X 24 (by decide) dX8_aimAt_36 ?_
  refine r_iadd X dX8_aimAt_38 ?_
  refine r_callV X dX8_aimAt_39 zLV_X8_27 zCd_X8_measure (e_X8_measure _ G z τ ρ _ _ ha g0 g1 g2 g3 hmu hdv haw hnw hW hWt (hWt 2 (by decide)) _ n2.1 n2.2 (fl := fl) (by intro s s1 s2; rw [fb mu n1.1, fb dv n1.2, fa mu n0.1, fa dv n0.2]; exact hF s s1 s2) hq (by omega)) ha ⟨by decide, rfl, rfl⟩ rfl rfl ⟨⟨rfl, rfl⟩, ⟨by decide, by decide⟩, ⟨Nat.le_of_ble_eq_true rfl, Nat.le_of_ble_eq_true rfl⟩, Nat.le_of_ble_eq_true rfl⟩ ?_
  rintro _ _ ⟨rfl, ιc, rfl, fc, qc⟩
  refine r_return X hR dX8_aimAt_42 (Nat.zero_le _) (Nat.zero_le _) ?_
  exact ⟨rfl, _, rfl, fun b h1 h2 h3 => by rw [fc b h3, fb b h2, fa b h1], zRo_fr qa (by rw [fc _ d02, fb _ d01]), zRo_fr qb (by rw [fc _ d12]), qc⟩
set_option maxHeartbeats 4000000 in
set_option maxRecDepth 100000 in
theorem e_X8_fewestToGoal (l : Launch) (G : zG) (z : Nat) (τ : Nat → Option (Nat × Nat)) (ρ : Nat → Nat → Option Nat) (ι : Nat → Nat → Int32) (κ : Nat → Nat → Int64) {a mu dv aw nw M1 : Nat} {W : Nat → Nat} (ha : τ a = some (8, M1)) (g0 : ρ a 0 = some mu) (g1 : ρ a 1 = some dv) (g2 : ρ a 2 = some aw) (g3 : ρ a 3 = some nw) (hmu : τ mu = some (15, 4)) (hdv : τ dv = some (15, 4)) (haw : τ aw = some (18, 3)) (hnw : τ nw = some (13, 3)) (hW : ∀ j, j < 3 → ρ aw j = some (W j)) (hWt : ∀ j, j < 3 → τ (W j) = some (13, 49)) {R : Nat → Nat} (hR0 : ∀ j, j < 3 → (R j < 999 → (ι (W j) 24).toInt = R j) ∧ (999 ≤ R j → ι (W j) 24 = -1)) (hR9 : ∀ j, j < 3 → R j ≤ 49 ∨ R j = 999) : zM l G yX8_fewestToGoal cX8_fewestToGoal 3 (some .int) ({ frames := 0, cells := 0, slots := 0, locals := 0 } : Room) [.ref a] (z, τ, ρ, ι, κ) (fun v s => ∃ r, v = some (.int r) ∧ s = (z, τ, ρ, ι, κ) ∧ (R 0 + R 1 + R 2 < 999 → r.toInt = ((R 0 + R 1 + R 2 : Nat) : Int)) ∧ (999 ≤ R 0 + R 1 + R 2 → r.toInt = -1)) 0 0 := by
  refine zM_of zCd_X8_fewestToGoal (Nat.le_of_ble_eq_true rfl) ?_
  intro E X hR hE
  subst hE
  show zW E G 3 (z, τ, ρ, ι, κ) 0 0 0 [(0, .ref a)] []
  have L4 : ∀ (m : Nat) (i y : Int32), (3 - i.toInt).toNat < m → 0 ≤ i.toInt → i.toInt ≤ 3 → (∀ j : Nat, (j : Int) < i.toInt → R j ≤ 49) → y.toInt = ((zS3 R i.toNatClampNeg : Nat) : Int) → zW E G 3 (z, τ, ρ, ι, κ) 0 0 4 [(0, .ref a), (1, .int y), (2, .int i)] [] := by
    intro m
    induction m with
    | zero => intro i y h; omega
    | succ m ih => ?_
    intro i y hm h0 h3 h49 hy
    have hic := zclN h0
    have hb3 := zS3_b (R := R) i.toNatClampNeg (fun j hj => h49 j (by omega))
    refine r_iload_n X (by rfl) dX8_fewestToGoal_4 ?_
    refine r_iconst X 3 (by decide) dX8_fewestToGoal_5 ?_
    refine r_icmp_ge X 42 dX8_fewestToGoal_6 (by decide) (fun h6 => ?_) (fun h6 => ?_)
    · rw [show Int32.toInt 3 = 3 from rfl] at h6
      refine r_iload_n X (by rfl) dX8_fewestToGoal_42 ?_
      refine r_ireturn X hR dX8_fewestToGoal_43 rfl (Nat.zero_le _) (Nat.zero_le _) ?_
      have hs0 := h49 0 (by omega)
      have hs1 := h49 1 (by omega)
      have hs2 := h49 2 (by omega)
      rw [show i.toNatClampNeg = 3 by omega] at hy
      have hy2 : y.toInt = ((0 + R 0 + R 1 + R 2 : Nat) : Int) := hy
      exact ⟨_, rfl, rfl, fun h => by omega, fun h => by omega⟩
    · rw [show Int32.toInt 3 = 3 from rfl] at h6
      have hi3 : i.toNatClampNeg < 3 := zcl3 h0 h6
      have hRi0 := hR0 _ hi3
      have hRi9 := hR9 _ hi3
      refine r_aload_n X (by rfl) dX8_fewestToGoal_9 ?_
      refine r_getR X dX8_fewestToGoal_10 zF_X8_20 ha g2 ?_
      refine r_iload_n X (by rfl) dX8_fewestToGoal_13 ?_
      refine r_aaload X dX8_fewestToGoal_14 haw (by decide) (vp_in_iff.mpr ⟨h0, by omega⟩) (hW _ hi3) ?_
      refine r_bipush X 24 (by decide) dX8_fewestToGoal_15 ?_
      refine r_iaload X dX8_fewestToGoal_17 (hWt _ hi3) (vp_in_iff.mpr ⟨by decide, by decide⟩) ?_
      refine r_iconst X (-1) (by decide) dX8_fewestToGoal_18 ?_
      refine r_icmp_ne X 24 dX8_fewestToGoal_19 (by decide) (fun h19 => ?_) (fun h19 => ?_)
      · have hRi : R i.toNatClampNeg ≤ 49 := by
          rcases hRi9 with e | e
          · exact e
          · exact absurd (hRi0.2 (by omega)) h19
        have hRv : (ι (W i.toNatClampNeg) (Int32.toNatClampNeg 24)).toInt = R i.toNatClampNeg := hRi0.1 (by omega)
        refine r_iload_n X (by rfl) dX8_fewestToGoal_24 ?_
        refine r_aload_n X (by rfl) dX8_fewestToGoal_25 ?_
        refine r_getR X dX8_fewestToGoal_26 zF_X8_20 ha g2 ?_
        refine r_iload_n X (by rfl) dX8_fewestToGoal_29 ?_
        refine r_aaload X dX8_fewestToGoal_30 haw (by decide) (vp_in_iff.mpr ⟨h0, by omega⟩) (hW _ hi3) ?_
        refine r_bipush X 24 (by decide) dX8_fewestToGoal_31 ?_
        refine r_iaload X dX8_fewestToGoal_33 (hWt _ hi3) (vp_in_iff.mpr ⟨by decide, by decide⟩) ?_
        refine r_iadd X dX8_fewestToGoal_34 ?_
        refine r_istore_n X (by decide) dX8_fewestToGoal_35 ?_
        refine r_iinc X 1 (by decide) (by rfl) (by decide) dX8_fewestToGoal_36 ?_
        refine r_goto X 4 dX8_fewestToGoal_39 (by decide) ?_
        exact zW.loc3 (by rfl) (by rfl) (by rfl) (ih _ _ (by have e := zinc (x := i) (by omega); omega) (by have e := zinc (x := i) (by omega); omega) (by have e := zinc (x := i) (by omega); omega) (fun j hj => by
          have e := zinc (x := i) (by omega)
          by_cases q : j = i.toNatClampNeg
          · subst q; exact hRi
          · exact h49 j (by omega)) (by have e := zinc (x := i) (by omega); have e2 := zclN (i := i + 1) (by omega); rw [show (i + 1).toNatClampNeg = i.toNatClampNeg + 1 by omega, zS3, zaddI (x := y) (y := ι (W i.toNatClampNeg) (Int32.toNatClampNeg 24)) (by omega) (by omega)]; omega))
      · have hRi : 999 ≤ R i.toNatClampNeg := by
          rcases hRi9 with e | e
          · have h9 := hRi0.1 (by omega)
            rw [show ι (W i.toNatClampNeg) 24 = -1 from h19, show Int32.toInt (-1) = -1 from rfl] at h9
            omega
          · omega
        refine r_iconst X (-1) (by decide) dX8_fewestToGoal_22 ?_
        refine r_ireturn X hR dX8_fewestToGoal_23 rfl (Nat.zero_le _) (Nat.zero_le _) ?_
        have hs9 : 999 ≤ R 0 + R 1 + R 2 := by
          rcases (show i.toNatClampNeg = 0 ∨ i.toNatClampNeg = 1 ∨ i.toNatClampNeg = 2 by omega) with e | e | e <;> rw [e] at hRi <;> omega
        exact ⟨_, rfl, rfl, fun h => by omega, fun _ => rfl⟩
  refine r_iconst X 0 (by decide) dX8_fewestToGoal_0 ?_
  refine r_istore_n X (by decide) dX8_fewestToGoal_1 ?_
  refine r_iconst X 0 (by decide) dX8_fewestToGoal_2 ?_
  refine r_istore_n X (by decide) dX8_fewestToGoal_3 ?_
  exact zW.loc3 (by rfl) (by rfl) (by rfl) (L4 4 _ _ (by decide) (by decide) (by decide) (fun j hj => by rw [show Int32.toInt 0 = 0 from rfl] at hj; omega) (by rfl))
set_option maxHeartbeats 4000000 in
set_option maxRecDepth 100000 in
theorem e_X11_aimSettings (l : Launch) (G : zG) (z : Nat) (τ : Nat → Option (Nat × Nat)) (ρ : Nat → Nat → Option Nat) (ι : Nat → Nat → Int32) (κ : Nat → Nat → Int64) {B c : Nat} (hL : zLay τ ρ B c) (hJ : zJ B c ι) (hRl : zRel B c ι) (x y u : Int32) (hx : (-8 ≤ x.toInt ∧ x.toInt ≤ 8)) (hy : (-8 ≤ y.toInt ∧ y.toInt ≤ 8)) (hu : (-8 ≤ u.toInt ∧ u.toInt ≤ 8)) : zM l G yX11_aimSettings cX11_aimSettings 5 none ({ frames := 3, cells := 0, slots := 0, locals := 70 } : Room) [.ref B, .int x, .int y, .int u] (z, τ, ρ, ι, κ) (fun v s => v = none ∧ ∃ ι2, s = (z, τ, ρ, ι2, κ) ∧ (∀ b, ¬ (B + 20 ≤ b ∧ b ≤ B + 27) → ι2 b = ι b) ∧ zRo (zRw (zSpr (zFs B ι c) 29575) (x + 24).toNatClampNeg) (ι2 (B + 24)) ∧ zRo (zRw (zSpr (zFs B ι c) 29575) (y + 24).toNatClampNeg) (ι2 (B + 25)) ∧ zRo (zRw (zSpr (zFs B ι c) 29575) (u + 24).toNatClampNeg) (ι2 (B + 26)) ∧ zMd ι2 (B + 21) (B + 22) (zFs B ι c)) 0 0 := by
  refine zM_of zCd_X11_aimSettings (Nat.le_of_ble_eq_true rfl) ?_
  intro E X hR hE
  subst hE
  show zW E G 5 (z, τ, ρ, ι, κ) 0 0 0 [(0, .ref B), (1, .int x), (2, .int y), (3, .int u)] []
  obtain ⟨h8, ⟨hc1, hc2, hc3, hc4, hc5⟩, hJm⟩ := id hJ
  have hW : ∀ j, j < 3 → ρ (B + 23) j = some (B + 24 + j) := fun j hj => by
    rcases (show j = 0 ∨ j = 1 ∨ j = 2 by omega) with rfl | rfl | rfl
    · exact (zrf hL 26 rfl)
    · exact (zrf hL 27 rfl)
    · exact (zrf hL 28 rfl)
  have hWt : ∀ j, j < 3 → τ (B + 24 + j) = some (13, 49) := fun j hj => by
    rcases (show j = 0 ∨ j = 1 ∨ j = 2 by omega) with rfl | rfl | rfl
    · exact (zt hL 24 rfl)
    · exact (zt hL 25 rfl)
    · exact (zt hL 26 rfl)
  have L10 : ∀ (m : Nat) (i : Int32) (ι1 : Nat → Nat → Int32), (8 - i.toInt).toNat < m → 0 ≤ i.toInt → i.toInt ≤ (c : Int) → (∀ b, ¬ (B + 20 ≤ b ∧ b ≤ B + 27) → ι1 b = ι b) → (∀ s, 1 ≤ s → s ≤ 3 → ι1 (B + 21) s = (if zLb B ι (Int32.ofNat s) false i.toNatClampNeg = true then 1 else 0) ∧ ι1 (B + 22) s = (if zLb B ι (Int32.ofNat s) true i.toNatClampNeg = true then 1 else 0)) → zW E G 5 (z, τ, ρ, ι1, κ) 0 0 10 [(0, .ref B), (1, .int x), (2, .int y), (3, .int u), (4, .int i)] [] := by
    intro m
    induction m with
    | zero => intro i ι1 h; omega
    | succ m ih => ?_
    intro i ι1 hm h0 hic hf hFl
    have hin := zclN h0
    have h9 : ι1 B 9 = ι B 9 := by rw [hf B (by omega)]
    refine r_iload X (by rfl) dX11_aimSettings_10 ?_
    refine r_aload_n X (by rfl) dX11_aimSettings_12 ?_
    refine r_getI X dX11_aimSettings_13 zF_X11_70 (zt hL 0 rfl) ?_
    refine r_icmp_ge X 65 dX11_aimSettings_16 (by decide) (fun h16 => ?_) (fun h16 => ?_)
    · rw [h9] at h16
      have hie : i.toNatClampNeg = c := by omega
      rw [hie] at hFl
      refine r_aload_n X (by rfl) dX11_aimSettings_65 ?_
      refine r_getR X dX11_aimSettings_66 zF_X11_46 (zt hL 0 rfl) (zrf hL 5 rfl) ?_
      refine r_iload_n X (by rfl) dX11_aimSettings_69 ?_
      refine r_iload_n X (by rfl) dX11_aimSettings_70 ?_
      refine r_iload_n X (by rfl) dX11_aimSettings_71 ?_
      refine r_callV X dX11_aimSettings_72 zLV_X11_277 zCd_X8_aimAt (e_X8_aimAt _ G z τ ρ _ _ (zt hL 20 rfl) (zrf hL 22 rfl) (zrf hL 23 rfl) (zrf hL 24 rfl) (zrf hL 25 rfl) (zt hL 21 rfl) (zt hL 22 rfl) (zt hL 23 rfl) (zt hL 27 rfl) hW hWt (fl := zFs B ι c) (zMd_of hFl) (zCq_spr B ι c) (fun j hj => ⟨by show B + 21 ≠ B + 24 + j; omega, by show B + 22 ≠ B + 24 + j; omega⟩) (by show B + 24 + 0 ≠ B + 24 + 1; omega) (by show B + 24 + 0 ≠ B + 24 + 2; omega) (by show B + 24 + 1 ≠ B + 24 + 2; omega) _ _ _ hx hy hu) (zt hL 20 rfl) ⟨by decide, rfl, rfl⟩ rfl rfl ⟨⟨rfl, rfl⟩, ⟨by decide, by decide⟩, ⟨Nat.le_of_ble_eq_true rfl, Nat.le_of_ble_eq_true rfl⟩, Nat.le_of_ble_eq_true rfl⟩ ?_
      rintro _ _ ⟨rfl, ι4, rfl, hf4, hq0, hq1, hq2⟩
      refine r_return X hR dX11_aimSettings_75 (Nat.zero_le _) (Nat.zero_le _) ?_
      exact ⟨rfl, _, rfl, fun b hb => by rw [hf4 b (by omega) (by omega) (by omega)]; exact hf b hb, hq0, hq1, hq2, fun s s1 s2 => by rw [hf4 (B + 21) (by omega) (by omega) (by omega), hf4 (B + 22) (by omega) (by omega) (by omega)]; exact zMd_of hFl s s1 s2⟩
    · rw [h9] at h16
      obtain ⟨a1, a2, a3, -⟩ := hRl.2.2.2.2 i.toNatClampNeg (by omega)
      have hpk := (hJ.2.2.2.2.2.2 i.toNatClampNeg (by omega)).1
      have f0 : ι1 (B + 63 + 7 * i.toNatClampNeg) = ι (B + 63 + 7 * i.toNatClampNeg) := hf _ (by omega)
      refine r_aload_n X (by rfl) dX11_aimSettings_19 ?_
      refine r_getR X dX11_aimSettings_20 zF_X11_25 (zt hL 0 rfl) (zrf hL 2 rfl) ?_
      refine r_iload X (by rfl) dX11_aimSettings_23 ?_
      refine r_aaload X dX11_aimSettings_25 (zt hL 10 rfl) (by decide) (vp_in_iff.mpr ⟨by omega, by omega⟩) (hL.2.2 i.toNatClampNeg (by omega)).1 ?_
      refine r_getI X dX11_aimSettings_26 zF_X11_134 (hL.2.2 i.toNatClampNeg (by omega)).2.1 ?_
      refine r_if_eq X 59 dX11_aimSettings_29 (by decide) (fun h29 => ?_) (fun h29 => ?_)
      · rw [f0, a1] at h29
        have hFl2 := zFl_no hFl h29
        refine r_iinc X 1 (by decide) (by rfl) (by decide) dX11_aimSettings_59 ?_
        refine r_goto X 10 dX11_aimSettings_62 (by decide) ?_
        exact zW.loc5 (by rfl) (by rfl) (by rfl) (by rfl) (by rfl) (ih _ _ (by have e := zinc (x := i) (by omega); omega) (by have e := zinc (x := i) (by omega); omega) (by have e := zinc (x := i) (by omega); omega) (by first | exact hf3 | exact hf) (by have e := zinc (x := i) (by omega); have e2 := zclN (i := i + 1) (by omega); rw [show (i + 1).toNatClampNeg = i.toNatClampNeg + 1 by omega]; exact hFl2))
      · rw [f0, a1] at h29
        refine r_aload_n X (by rfl) dX11_aimSettings_32 ?_
        refine r_getR X dX11_aimSettings_33 zF_X11_46 (zt hL 0 rfl) (zrf hL 5 rfl) ?_
        refine r_aload_n X (by rfl) dX11_aimSettings_36 ?_
        refine r_getR X dX11_aimSettings_37 zF_X11_25 (zt hL 0 rfl) (zrf hL 2 rfl) ?_
        refine r_iload X (by rfl) dX11_aimSettings_40 ?_
        refine r_aaload X dX11_aimSettings_42 (zt hL 10 rfl) (by decide) (vp_in_iff.mpr ⟨by omega, by omega⟩) (hL.2.2 i.toNatClampNeg (by omega)).1 ?_
        refine r_getI X dX11_aimSettings_43 zF_X11_267 (hL.2.2 i.toNatClampNeg (by omega)).2.1 ?_
        refine r_aload_n X (by rfl) dX11_aimSettings_46 ?_
        refine r_getR X dX11_aimSettings_47 zF_X11_25 (zt hL 0 rfl) (zrf hL 2 rfl) ?_
        refine r_iload X (by rfl) dX11_aimSettings_50 ?_
        refine r_aaload X dX11_aimSettings_52 (zt hL 10 rfl) (by decide) (vp_in_iff.mpr ⟨by omega, by omega⟩) (hL.2.2 i.toNatClampNeg (by omega)).1 ?_
        refine r_getI X dX11_aimSettings_53 zF_X11_270 (hL.2.2 i.toNatClampNeg (by omega)).2.1 ?_
        refine r_callV X dX11_aimSettings_56 zLV_X11_273 zCd_X8_allow (e_X8_allow _ G z τ ρ _ _ (zt hL 20 rfl) (zrf hL 22 rfl) (zrf hL 23 rfl) (zrf hL 24 rfl) (zrf hL 25 rfl) (zt hL 21 rfl) (zt hL 22 rfl) (zt hL 23 rfl) (zt hL 27 rfl) hW hWt (by omega) _ _ (by rw [f0, a2]; exact hpk)) (zt hL 20 rfl) ⟨by decide, rfl, rfl⟩ rfl rfl ⟨⟨rfl, rfl⟩, ⟨by decide, by decide⟩, ⟨Nat.le_of_ble_eq_true rfl, Nat.le_of_ble_eq_true rfl⟩, Nat.le_of_ble_eq_true rfl⟩ ?_
        rintro _ _ ⟨rfl, ι3, rfl, hf3', hd3, hm3⟩
        have hf3 : ∀ b, ¬ (B + 20 ≤ b ∧ b ≤ B + 27) → ι3 b = ι b := fun b hb => by rw [hf3' b (by omega) (by omega)]; exact hf b hb
        rw [f0, a2] at hd3
        rw [f0, a2, a3] at hm3
        have hFl2 := zFl_yes hFl hpk h29 hd3 hm3
        refine r_iinc X 1 (by decide) (by rfl) (by decide) dX11_aimSettings_59 ?_
        refine r_goto X 10 dX11_aimSettings_62 (by decide) ?_
        exact zW.loc5 (by rfl) (by rfl) (by rfl) (by rfl) (by rfl) (ih _ _ (by have e := zinc (x := i) (by omega); omega) (by have e := zinc (x := i) (by omega); omega) (by have e := zinc (x := i) (by omega); omega) (by first | exact hf3 | exact hf) (by have e := zinc (x := i) (by omega); have e2 := zclN (i := i + 1) (by omega); rw [show (i + 1).toNatClampNeg = i.toNatClampNeg + 1 by omega]; exact hFl2))
  refine r_aload_n X (by rfl) dX11_aimSettings_0 ?_
  refine r_getR X dX11_aimSettings_1 zF_X11_46 (zt hL 0 rfl) (zrf hL 5 rfl) ?_
  refine r_callV X dX11_aimSettings_4 zLV_X11_264 zCd_X8_forgetParts (e_X8_forgetParts _ G z τ ρ _ _ (zt hL 20 rfl) (zrf hL 22 rfl) (zrf hL 23 rfl) (zrf hL 24 rfl) (zrf hL 25 rfl) (zt hL 21 rfl) (zt hL 22 rfl) (zt hL 23 rfl) (zt hL 27 rfl) hW hWt (by omega)) (zt hL 20 rfl) ⟨by decide, rfl, rfl⟩ rfl rfl ⟨⟨rfl, rfl⟩, ⟨by decide, by decide⟩, ⟨Nat.le_of_ble_eq_true rfl, Nat.le_of_ble_eq_true rfl⟩, Nat.le_of_ble_eq_true rfl⟩ ?_
  rintro _ _ ⟨rfl, ι2, rfl, hf2, hz2⟩
  refine r_iconst X 0 (by decide) dX11_aimSettings_7 ?_
  refine r_istore X (by decide) dX11_aimSettings_8 ?_
  exact zW.loc5 (by rfl) (by rfl) (by rfl) (by rfl) (by rfl) (L10 9 0 _ (by decide) (by decide) (by rw [show Int32.toInt 0 = 0 from rfl]; omega) (fun b hb => hf2 b (by omega) (by omega)) (fun s s1 s3 => ⟨by rw [(hz2 s (by omega)).1]; rfl, by rw [(hz2 s (by omega)).2]; rfl⟩))
set_option maxHeartbeats 4000000 in
set_option maxRecDepth 100000 in
theorem e_X11_fewest (l : Launch) (G : zG) (z : Nat) (τ : Nat → Option (Nat × Nat)) (ρ : Nat → Nat → Option Nat) (ι : Nat → Nat → Int32) (κ : Nat → Nat → Int64) {B c : Nat} (hL : zLay τ ρ B c) (hJ : zJ B c ι) (hRl : zRel B c ι) (x y u : Int32) : zM l G yX11_fewest cX11_fewest 4 (some .int) ({ frames := 4, cells := 0, slots := 0, locals := 94 } : Room) [.ref B, .int x, .int y, .int u] (z, τ, ρ, ι, κ) (fun v s => ∃ r ι2 κ2, v = some (.int r) ∧ s = (z, τ, ρ, ι2, κ2) ∧ zFc B c ι ι2 ∧ ((¬ ((-8 ≤ x.toInt ∧ x.toInt ≤ 8) ∧ (-8 ≤ y.toInt ∧ y.toInt ≤ 8) ∧ (-8 ≤ u.toInt ∧ u.toInt ≤ 8)) ∧ r = -2) ∨ (((-8 ≤ x.toInt ∧ x.toInt ≤ 8) ∧ (-8 ≤ y.toInt ∧ y.toInt ≤ 8) ∧ (-8 ≤ u.toInt ∧ u.toInt ≤ 8)) ∧ ((zSpr (zFs B ι c) 29575) (32 + x.toInt).toNat + (zSpr (zFs B ι c) 29575) (32 + y.toInt).toNat + (zSpr (zFs B ι c) 29575) (32 + u.toInt).toNat < 999 → r.toInt = (((zSpr (zFs B ι c) 29575) (32 + x.toInt).toNat + (zSpr (zFs B ι c) 29575) (32 + y.toInt).toNat + (zSpr (zFs B ι c) 29575) (32 + u.toInt).toNat : Nat) : Int)) ∧ (999 ≤ (zSpr (zFs B ι c) 29575) (32 + x.toInt).toNat + (zSpr (zFs B ι c) 29575) (32 + y.toInt).toNat + (zSpr (zFs B ι c) 29575) (32 + u.toInt).toNat → r.toInt = -1)))) 0 0 := by
  refine zM_of zCd_X11_fewest (Nat.le_of_ble_eq_true rfl) ?_
  intro E X hR hE
  subst hE
  show zW E G 4 (z, τ, ρ, ι, κ) 0 0 0 [(0, .ref B), (1, .int x), (2, .int y), (3, .int u)] []
  have hW : ∀ j, j < 3 → ρ (B + 23) j = some (B + 24 + j) := fun j hj => by
    rcases (show j = 0 ∨ j = 1 ∨ j = 2 by omega) with rfl | rfl | rfl
    · exact (zrf hL 26 rfl)
    · exact (zrf hL 27 rfl)
    · exact (zrf hL 28 rfl)
  have hWt : ∀ j, j < 3 → τ (B + 24 + j) = some (13, 49) := fun j hj => by
    rcases (show j = 0 ∨ j = 1 ∨ j = 2 by omega) with rfl | rfl | rfl
    · exact (zt hL 24 rfl)
    · exact (zt hL 25 rfl)
    · exact (zt hL 26 rfl)
  refine r_iload_n X (by rfl) dX11_fewest_0 ?_
  refine r_callS X dX11_fewest_1 zLS_X11_202 zCd_X11_isPower (c_X11_isPower _ G z τ ρ _ _ _) rfl rfl ⟨⟨rfl, rfl⟩, ⟨by decide, by decide⟩, ⟨Nat.le_of_ble_eq_true rfl, Nat.le_of_ble_eq_true rfl⟩, Nat.le_of_ble_eq_true rfl⟩ ?_
  rintro _ _ ⟨rfl, rfl⟩
  refine r_if_eq X 21 dX11_fewest_4 (by decide) (fun h4 => ?_) (fun h4 => ?_)
  · refine r_bipush X (-2) (by decide) dX11_fewest_21 ?_
    refine r_ireturn X hR dX11_fewest_23 rfl (Nat.zero_le _) (Nat.zero_le _) ?_
    exact ⟨_, _, _, rfl, rfl, zFc.rfl hJ, Or.inl ⟨fun hP => by first | exact zif0 h4 hP.1 | exact zif0 h11 hP.2.1 | exact zif0 h18 hP.2.2, rfl⟩⟩
  · refine r_iload_n X (by rfl) dX11_fewest_7 ?_
    refine r_callS X dX11_fewest_8 zLS_X11_202 zCd_X11_isPower (c_X11_isPower _ G z τ ρ _ _ _) rfl rfl ⟨⟨rfl, rfl⟩, ⟨by decide, by decide⟩, ⟨Nat.le_of_ble_eq_true rfl, Nat.le_of_ble_eq_true rfl⟩, Nat.le_of_ble_eq_true rfl⟩ ?_
    rintro _ _ ⟨rfl, rfl⟩
    refine r_if_eq X 21 dX11_fewest_11 (by decide) (fun h11 => ?_) (fun h11 => ?_)
    · refine r_bipush X (-2) (by decide) dX11_fewest_21 ?_
      refine r_ireturn X hR dX11_fewest_23 rfl (Nat.zero_le _) (Nat.zero_le _) ?_
      exact ⟨_, _, _, rfl, rfl, zFc.rfl hJ, Or.inl ⟨fun hP => by first | exact zif0 h4 hP.1 | exact zif0 h11 hP.2.1 | exact zif0 h18 hP.2.2, rfl⟩⟩
    · refine r_iload_n X (by rfl) dX11_fewest_14 ?_
      refine r_callS X dX11_fewest_15 zLS_X11_202 zCd_X11_isPower (c_X11_isPower _ G z τ ρ _ _ _) rfl rfl ⟨⟨rfl, rfl⟩, ⟨by decide, by decide⟩, ⟨Nat.le_of_ble_eq_true rfl, Nat.le_of_ble_eq_true rfl⟩, Nat.le_of_ble_eq_true rfl⟩ ?_
      rintro _ _ ⟨rfl, rfl⟩
      refine r_if_ne X 24 dX11_fewest_18 (by decide) (fun h18 => ?_) (fun h18 => ?_)
      · refine r_aload_n X (by rfl) dX11_fewest_24 ?_
        refine r_iload_n X (by rfl) dX11_fewest_25 ?_
        refine r_iload_n X (by rfl) dX11_fewest_26 ?_
        refine r_iload_n X (by rfl) dX11_fewest_27 ?_
        refine r_callV X dX11_fewest_28 zLV_X11_205 zCd_X11_aimSettings (e_X11_aimSettings _ G z τ ρ _ _ hL hJ hRl _ _ _ (zif1 h4) (zif1 h11) (zif1 h18)) (zt hL 0 rfl) ⟨by decide, rfl, rfl⟩ rfl rfl ⟨⟨rfl, rfl⟩, ⟨by decide, by decide⟩, ⟨Nat.le_of_ble_eq_true rfl, Nat.le_of_ble_eq_true rfl⟩, Nat.le_of_ble_eq_true rfl⟩ ?_
        rintro _ _ ⟨rfl, ι2, rfl, hf2, hq0, hq1, hq2, -⟩
        have hc9 := (zCq_spr B ι c).2.1
        obtain ⟨C, hC⟩ : ∃ C, zSpr (zFs B ι c) 29575 = C := ⟨_, rfl⟩
        rw [hC] at hq0 hq1 hq2 hc9
        have w0 := zRw_24 hq0 (zif1 h4)
        have w1 := zRw_24 hq1 (zif1 h11)
        have w2 := zRw_24 hq2 (zif1 h18)
        refine r_aload_n X (by rfl) dX11_fewest_31 ?_
        refine r_getR X dX11_fewest_32 zF_X11_46 (zt hL 0 rfl) (zrf hL 5 rfl) ?_
        refine r_callV X dX11_fewest_35 zLV_X11_208 zCd_X8_fewestToGoal (e_X8_fewestToGoal _ G z τ ρ _ _ (zt hL 20 rfl) (zrf hL 22 rfl) (zrf hL 23 rfl) (zrf hL 24 rfl) (zrf hL 25 rfl) (zt hL 21 rfl) (zt hL 22 rfl) (zt hL 23 rfl) (zt hL 27 rfl) hW hWt (R := (fun j => match j with | 0 => C (32 + x.toInt).toNat | 1 => C (32 + y.toInt).toNat | _ => C (32 + u.toInt).toNat)) (by intro j hj; rcases (show j = 0 ∨ j = 1 ∨ j = 2 by omega) with rfl | rfl | rfl <;> first | exact w0 | exact w1 | exact w2) (by intro j hj; have k4 := zif1 h4; have k11 := zif1 h11; have k18 := zif1 h18; rcases (show j = 0 ∨ j = 1 ∨ j = 2 by omega) with rfl | rfl | rfl <;> exact hc9 _ (by omega))) (zt hL 20 rfl) ⟨by decide, rfl, rfl⟩ rfl rfl ⟨⟨rfl, rfl⟩, ⟨by decide, by decide⟩, ⟨Nat.le_of_ble_eq_true rfl, Nat.le_of_ble_eq_true rfl⟩, Nat.le_of_ble_eq_true rfl⟩ ?_
        rintro _ _ ⟨r, rfl, rfl, hr1, hr2⟩
        refine r_ireturn X hR dX11_fewest_38 rfl (Nat.zero_le _) (Nat.zero_le _) ?_
        exact ⟨_, _, _, rfl, rfl, zFc_fr hJ (fun b q => hf2 b (by unfold zCx at q; omega)), Or.inr ⟨⟨zif1 h4, zif1 h11, zif1 h18⟩, by rw [hC]; exact hr1, by rw [hC]; exact hr2⟩⟩
      · refine r_bipush X (-2) (by decide) dX11_fewest_21 ?_
        refine r_ireturn X hR dX11_fewest_23 rfl (Nat.zero_le _) (Nat.zero_le _) ?_
        exact ⟨_, _, _, rfl, rfl, zFc.rfl hJ, Or.inl ⟨fun hP => by first | exact zif0 h4 hP.1 | exact zif0 h11 hP.2.1 | exact zif0 h18 hP.2.2, rfl⟩⟩
def zDq_fewest (B : Nat) (ι : Nat → Nat → Int32) (c : Nat) (x y u r : Int32) : Prop := (¬ ((-8 ≤ x.toInt ∧ x.toInt ≤ 8) ∧ (-8 ≤ y.toInt ∧ y.toInt ≤ 8) ∧ (-8 ≤ u.toInt ∧ u.toInt ≤ 8)) ∧ r = -2) ∨ (((-8 ≤ x.toInt ∧ x.toInt ≤ 8) ∧ (-8 ≤ y.toInt ∧ y.toInt ≤ 8) ∧ (-8 ≤ u.toInt ∧ u.toInt ≤ 8)) ∧ (zSpr (zFs B ι c) 29575 (32 + x.toInt).toNat + zSpr (zFs B ι c) 29575 (32 + y.toInt).toNat + zSpr (zFs B ι c) 29575 (32 + u.toInt).toNat < 999 → r.toInt = ((zSpr (zFs B ι c) 29575 (32 + x.toInt).toNat + zSpr (zFs B ι c) 29575 (32 + y.toInt).toNat + zSpr (zFs B ι c) 29575 (32 + u.toInt).toNat : Nat) : Int)) ∧ (999 ≤ zSpr (zFs B ι c) 29575 (32 + x.toInt).toNat + zSpr (zFs B ι c) 29575 (32 + y.toInt).toNat + zSpr (zFs B ι c) 29575 (32 + u.toInt).toNat → r.toInt = -1))
theorem zFs_ec {B c : Nat} {ι ι1 : Nat → Nat → Int32} (h : zEc B ι ι1) : zFs B ι1 c = zFs B ι c := by
  have e : ∀ s neg n, zLb B ι1 s neg n = zLb B ι s neg n := by
    intro s neg n
    induction n with
    | zero => rfl
    | succ n ih => rw [zLb, zLb, ih, h (B + 39) n (by unfold zCc; omega) (by omega), h (B + 40) n (by unfold zCc; omega) (by omega), h (B + 42) n (by unfold zCc; omega) (by omega)]
  unfold zFs
  simp only [e]
theorem zT_fewest {B c : Nat} {ι ι1 : Nat → Nat → Int32} (hE : zEc B ι ι1) {x y u r1 r2 : Int32} (h1 : zDq_fewest B ι c x y u r1) (h2 : zDq_fewest B ι1 c x y u r2) : r1 = r2 := by
  unfold zDq_fewest at h1 h2
  rw [zFs_ec hE] at h2
  rcases h1 with ⟨h0, rfl⟩ | ⟨h0, h1, h3⟩ <;> rcases h2 with ⟨g0, rfl⟩ | ⟨g0, g1, g3⟩
  · rfl
  · exact absurd g0 h0
  · exact absurd h0 g0
  · refine Int32.toInt_inj.mp ?_
    rcases Nat.lt_or_ge (zSpr (zFs B ι c) 29575 (32 + x.toInt).toNat + zSpr (zFs B ι c) 29575 (32 + y.toInt).toNat + zSpr (zFs B ι c) 29575 (32 + u.toInt).toNat) 999 with q | q
    · rw [h1 q, g1 q]
    · rw [h3 q, g3 q]
