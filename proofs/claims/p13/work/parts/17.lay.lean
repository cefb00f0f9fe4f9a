/-! where everything lies (wip/gen/spec_l.py) -/
def ztl : List (Nat × Nat × Nat) := [(0, 11, 0), (1, 2, 0), (2, 1000, 900), (3, 1001, 900), (4, 10, 0), (5, 10, 0), (6, 10, 0), (7, 10, 0), (8, 5, 0), (9, 13, 900), (10, 16, 8), (11, 0, 0), (12, 6, 0), (13, 13, 12), (14, 14, 4), (15, 4, 0), (16, 0, 0), (17, 6, 0), (18, 13, 12), (19, 14, 4), (20, 8, 0), (21, 15, 4), (22, 15, 4), (23, 18, 3), (24, 13, 49), (25, 13, 49), (26, 13, 49), (27, 13, 3), (28, 17, 2), (29, 3, 0), (30, 1, 0), (31, 13, 60), (32, 9, 0), (33, 6, 0), (34, 13, 60), (35, 9, 0), (36, 6, 0), (37, 13, 60), (38, 12, 0), (39, 15, 8), (40, 13, 8), (41, 13, 8), (42, 15, 8), (43, 13, 8), (44, 13, 32), (45, 13, 32), (46, 13, 32), (47, 13, 12), (48, 13, 2), (49, 13, 120), (50, 1002, 6), (51, 1003, 6), (52, 14, 6), (53, 14, 6), (54, 14, 6), (55, 14, 6), (56, 14, 6), (57, 14, 6), (58, 13, 800008), (59, 13, 900), (60, 13, 12), (61, 13, 65), (62, 13, 61)]
def zrl : List (Nat × Nat × Nat) := [(0, 0, 1), (0, 1, 8), (0, 2, 10), (0, 3, 11), (0, 4, 15), (0, 5, 20), (0, 6, 28), (0, 7, 29), (0, 8, 30), (1, 0, 2), (1, 1, 3), (1, 2, 4), (1, 3, 5), (1, 4, 6), (8, 1, 9), (11, 0, 12), (11, 3, 14), (12, 0, 13), (15, 10, 16), (16, 0, 17), (16, 3, 19), (17, 0, 18), (20, 0, 21), (20, 1, 22), (20, 2, 23), (20, 3, 27), (23, 0, 24), (23, 1, 25), (23, 2, 26), (28, 0, 32), (28, 1, 35), (30, 0, 31), (32, 0, 33), (33, 0, 34), (35, 0, 36), (36, 0, 37), (38, 2, 39), (38, 3, 40), (38, 4, 41), (38, 5, 42), (38, 6, 43), (38, 7, 44), (38, 8, 45), (38, 9, 46), (38, 12, 47), (38, 13, 48), (38, 14, 49), (38, 15, 50), (38, 16, 51), (38, 17, 52), (38, 18, 53), (38, 19, 54), (38, 20, 55), (38, 21, 56), (38, 22, 57), (38, 23, 58), (38, 25, 59), (38, 27, 60), (38, 28, 61), (38, 29, 62)]
/-- the cells of a SCALE at S -/
def zSc (τ : Nat → Option (Nat × Nat)) (ρ : Nat → Nat → Option Nat) (S : Nat) : Prop := τ S = some (7, 0) ∧ ρ S 4 = some (S + 1) ∧ ρ S 6 = some (S + 3) ∧ ρ S 7 = some (S + 4) ∧ ρ S 8 = some (S + 5) ∧ ρ S 9 = some (S + 6) ∧ τ (S + 1) = some (6, 0) ∧ ρ (S + 1) 0 = some (S + 2) ∧ τ (S + 2) = some (13, 400) ∧ τ (S + 3) = some (13, 4) ∧ τ (S + 4) = some (13, 4) ∧ τ (S + 5) = some (13, 4) ∧ τ (S + 6) = some (13, 400)
def zLay (τ : Nat → Option (Nat × Nat)) (ρ : Nat → Nat → Option Nat) (B c : Nat) : Prop := (∀ q ∈ ztl, τ (B + q.1) = some q.2) ∧ (∀ q ∈ zrl, ρ (B + q.1) q.2.1 = some (B + q.2.2)) ∧ ∀ j, j < c → ρ (B + 10) j = some (B + 63 + 7 * j) ∧ zSc τ ρ (B + 63 + 7 * j)
theorem zt {τ : Nat → Option (Nat × Nat)} {ρ : Nat → Nat → Option Nat} {B c : Nat} (hL : zLay τ ρ B c) (k : Nat) {t : Nat × Nat} (h : ztl[k]? = some (k, t)) : τ (B + k) = some t := hL.1 _ (List.mem_of_getElem? h)
theorem zrf {τ : Nat → Option (Nat × Nat)} {ρ : Nat → Nat → Option Nat} {B c : Nat} (hL : zLay τ ρ B c) (n : Nat) {k j b : Nat} (h : zrl[n]? = some (k, j, b)) : ρ (B + k) j = some (B + b) := hL.2.1 _ (List.mem_of_getElem? h)
/-- the model's stores, those of chain and pairs with them -/
def zCm0 (B b k : Nat) : Prop := (b = B + 38 ∧ k = 26) ∨ (B + 59 ≤ b ∧ b ≤ B + 62)
/-- the model's stores, the plain scale's left out -/
def zCm (B b k : Nat) : Prop := B + 60 ≤ b ∧ b ≤ B + 62
/-- the store of PLACES -/
def zCq (B b k : Nat) : Prop := b = B + 58 ∨ (b = B + 38 ∧ k = 24)
/-- both -/
def zCw (B b k : Nat) : Prop := (b = B + 38 ∧ k = 24) ∨ b = B + 58 ∨ (B + 60 ≤ b ∧ b ≤ B + 62)
/-- the class's stores -/
def zCc0 (B b k : Nat) : Prop := b = B + 8 ∨ b = B + 9 ∨ b = B + 11 ∨ b = B + 15 ∨ b = B + 16 ∨ (B + 20 ≤ b ∧ b ≤ B + 27) ∨ b = B + 29 ∨ (b = B + 31 ∧ 0 ≤ k)
/-- the plain scale left out -/
def zCc (B b k : Nat) : Prop := b = B + 11 ∨ b = B + 15 ∨ b = B + 16 ∨ (B + 20 ≤ b ∧ b ≤ B + 27) ∨ b = B + 29 ∨ (b = B + 31 ∧ 0 ≤ k)
/-- the stores of PLACES with them -/
def zCcw (B b k : Nat) : Prop := b = B + 11 ∨ b = B + 15 ∨ b = B + 16 ∨ (B + 20 ≤ b ∧ b ≤ B + 27) ∨ b = B + 29 ∨ b = B + 31 ∨ (B + 63 ≤ b ∧ (((b - B - 63) % 7 = 0 ∧ (k = 10 ∨ k = 11)) ∨ (b - B - 63) % 7 = 6))
def zFm0 (B : Nat) (ι ι2 : Nat → Nat → Int32) : Prop := ∀ b k, ¬ zCm0 B b k → ι2 b k = ι b k
def zFc0 (B c : Nat) (ι ι2 : Nat → Nat → Int32) : Prop := (∀ b k, ¬ zCc0 B b k → ι2 b k = ι b k) ∧ ∀ j, j < c → 0 ≤ (ι2 (B + 63 + 7 * j) 10).toInt ∧ (ι2 (B + 63 + 7 * j) 10).toInt ≤ (ι (B + 63 + 7 * j + 1) 1).toInt
theorem zFm0.rfl {B : Nat} {ι : Nat → Nat → Int32} : zFm0 B ι ι := fun _ _ _ => Eq.refl _
theorem zFm0.tr {B : Nat} {ι ι2 ι3 : Nat → Nat → Int32} (h : zFm0 B ι ι2) (h2 : zFm0 B ι2 ι3) : zFm0 B ι ι3 := fun b k q => (h2 b k q).trans (h b k q)
theorem zFm0.u {B b k : Nat} {v : Int32} {ι ι2 : Nat → Nat → Int32} (h : zFm0 B ι ι2) (hc : zCm0 B b k) : zFm0 B ι (zu ι2 b k v) := fun b2 k2 q => by
  rw [← h b2 k2 q]
  by_cases e : b2 = b ∧ k2 = k
  · obtain ⟨rfl, rfl⟩ := e; exact absurd hc q
  · exact if_neg e
def zFm (B : Nat) (ι ι2 : Nat → Nat → Int32) : Prop := ∀ b k, ¬ zCm B b k → ι2 b k = ι b k
def zFc (B c : Nat) (ι ι2 : Nat → Nat → Int32) : Prop := (∀ b k, ¬ zCc B b k → ι2 b k = ι b k) ∧ ∀ j, j < c → 0 ≤ (ι2 (B + 63 + 7 * j) 10).toInt ∧ (ι2 (B + 63 + 7 * j) 10).toInt ≤ (ι (B + 63 + 7 * j + 1) 1).toInt
theorem zFm.rfl {B : Nat} {ι : Nat → Nat → Int32} : zFm B ι ι := fun _ _ _ => Eq.refl _
theorem zFm.tr {B : Nat} {ι ι2 ι3 : Nat → Nat → Int32} (h : zFm B ι ι2) (h2 : zFm B ι2 ι3) : zFm B ι ι3 := fun b k q => (h2 b k q).trans (h b k q)
theorem zFm.u {B b k : Nat} {v : Int32} {ι ι2 : Nat → Nat → Int32} (h : zFm B ι ι2) (hc : zCm B b k) : zFm B ι (zu ι2 b k v) := fun b2 k2 q => by
  rw [← h b2 k2 q]
  by_cases e : b2 = b ∧ k2 = k
  · obtain ⟨rfl, rfl⟩ := e; exact absurd hc q
  · exact if_neg e
theorem zuo {ι : Nat → Nat → Int32} {b k b2 k2 : Nat} {v : Int32} (h : ¬ (b2 = b ∧ k2 = k)) : zu ι b k v b2 k2 = ι b2 k2 := if_neg h
def zFq (B : Nat) (ι ι2 : Nat → Nat → Int32) : Prop := ∀ b k, ¬ zCq B b k → ι2 b k = ι b k
theorem zFq.rfl {B : Nat} {ι : Nat → Nat → Int32} : zFq B ι ι := fun _ _ _ => Eq.refl _
theorem zFq.tr {B : Nat} {ι ι2 ι3 : Nat → Nat → Int32} (h : zFq B ι ι2) (h2 : zFq B ι2 ι3) : zFq B ι ι3 := fun b k q => (h2 b k q).trans (h b k q)
theorem zFq.u {B b k : Nat} {v : Int32} {ι ι2 : Nat → Nat → Int32} (h : zFq B ι ι2) (hc : zCq B b k) : zFq B ι (zu ι2 b k v) := fun b2 k2 q => by
  rw [← h b2 k2 q]
  by_cases e : b2 = b ∧ k2 = k
  · obtain ⟨rfl, rfl⟩ := e; exact absurd hc q
  · exact if_neg e
theorem zFm.w {B : Nat} {ι ι2 : Nat → Nat → Int32} (h : zFm B ι ι2) : zFm0 B ι ι2 := fun b k q => h b k (by unfold zCm; unfold zCm0 at q; omega)
theorem zFc.w {B c : Nat} {ι ι2 : Nat → Nat → Int32} (h : zFc B c ι ι2) : zFc0 B c ι ι2 := ⟨fun b k q => h.1 b k (by unfold zCc; unfold zCc0 at q; omega), h.2⟩
/-- the model's plain scale is not cut yet, or is cut by the table -/
def zPkM (B : Nat) (ι : Nat → Nat → Int32) : Prop := (ι (B + 38) 26).toInt < 100 ∨ ∀ k, k < 900 → ι (B + 59) k = zPl9 (ι (B + 38) 26) k
/-- the model's plain scale alone -/
def zFp (B : Nat) (ι ι2 : Nat → Nat → Int32) : Prop := ∀ b k, b ≠ B + 59 → ¬ (b = B + 38 ∧ k = 26) → ι2 b k = ι b k
theorem zFp.rfl {B : Nat} {ι : Nat → Nat → Int32} : zFp B ι ι := fun _ _ _ _ => Eq.refl _
theorem zFp.tr {B : Nat} {ι ι2 ι3 : Nat → Nat → Int32} (h : zFp B ι ι2) (h2 : zFp B ι2 ι3) : zFp B ι ι3 := fun b k q1 q2 => (h2 b k q1 q2).trans (h b k q1 q2)
theorem zFp.w {B : Nat} {ι ι2 : Nat → Nat → Int32} (h : zFp B ι ι2) : zFm0 B ι ι2 := fun b k q => h b k (fun e => q (by unfold zCm0; omega)) (fun e => q (by unfold zCm0; omega))
theorem zPkM_fm {B : Nat} {ι ι2 : Nat → Nat → Int32} (h : zFm B ι ι2) (hP : zPkM B ι) : zPkM B ι2 := by
  unfold zPkM
  rw [h (B + 38) 26 (by unfold zCm; omega)]
  rcases hP with q | q
  · exact Or.inl q
  · exact Or.inr (fun k hk => by rw [h (B + 59) k (by unfold zCm; omega)]; exact q k hk)
/-- a SPAN of the model -/
def zSp (B : Nat) (ι : Nat → Nat → Int32) (k : Nat) : Prop := 100 ≤ (ι (B + 44) k).toInt ∧ (ι (B + 44) k).toInt ≤ (ι (B + 45) k).toInt ∧ (ι (B + 45) k).toInt ≤ 100000 ∧ 1 ≤ (ι (B + 46) k).toInt ∧ (ι (B + 46) k).toInt ≤ 10000
/-- a SCALE of the model -/
def zJk (B : Nat) (ι : Nat → Nat → Int32) (j : Nat) : Prop := (1 ≤ (ι (B + 40) j).toInt ∧ (ι (B + 40) j).toInt ≤ 3) ∧ (10 ≤ (ι (B + 41) j).toInt ∧ (ι (B + 41) j).toInt ≤ 990) ∧ (0 ≤ (ι (B + 43) j).toInt ∧ (ι (B + 43) j).toInt ≤ 4) ∧ ∀ k : Nat, (k : Int) < (ι (B + 43) j).toInt → zSp B ι (4 * j + k)
/-- a SCALE of the class, at S -/
def zJs (ι : Nat → Nat → Int32) (S : Nat) : Prop := (0 ≤ (ι (S + 1) 1).toInt ∧ (ι (S + 1) 1).toInt ≤ 400) ∧ (0 ≤ (ι S 5).toInt ∧ (ι S 5).toInt ≤ 4) ∧ 0 ≤ (ι S 10).toInt ∧ (ι S 10).toInt ≤ (ι (S + 1) 1).toInt
def zJm (B c : Nat) (ι : Nat → Nat → Int32) : Prop := (ι (B + 38) 1).toInt = c ∧ (0 ≤ (ι (B + 38) 11).toInt ∧ (ι (B + 38) 11).toInt ≤ 12) ∧ (∀ k : Nat, (k : Int) < (ι (B + 38) 11).toInt → 100 ≤ (ι (B + 47) k).toInt ∧ (ι (B + 47) k).toInt ≤ 999) ∧ (∀ k, k < 2 → 0 ≤ (ι (B + 48) k).toInt ∧ (ι (B + 48) k).toInt ≤ 60) ∧ ∀ j, j < c → zJk B ι j
def zJc (B c : Nat) (ι : Nat → Nat → Int32) : Prop := (ι B 9).toInt = c ∧ (0 ≤ (ι (B + 12) 1).toInt ∧ (ι (B + 12) 1).toInt ≤ 12) ∧ (0 ≤ (ι (B + 33) 1).toInt ∧ (ι (B + 33) 1).toInt ≤ 60) ∧ (0 ≤ (ι (B + 36) 1).toInt ∧ (ι (B + 36) 1).toInt ≤ 60) ∧ ∀ j, j < c → zJs ι (B + 63 + 7 * j)
def zJ (B c : Nat) (ι : Nat → Nat → Int32) : Prop := c ≤ 8 ∧ zJc B c ι ∧ zJm B c ι
theorem zJm_of {B c : Nat} {ι ι2 : Nat → Nat → Int32} (h : ∀ b k, B + 38 ≤ b → b ≤ B + 57 → ¬ (b = B + 38 ∧ (k = 24 ∨ k = 26)) → ι2 b k = ι b k) (hJ : zJm B c ι) : zJm B c ι2 := by
  obtain ⟨a1, a2, a3, a4, a5⟩ := hJ
  have e1 : ι2 (B + 38) 1 = ι (B + 38) 1 := h _ _ (by omega) (by omega) (by omega)
  have e2 : ι2 (B + 38) 11 = ι (B + 38) 11 := h _ _ (by omega) (by omega) (by omega)
  refine ⟨by rw [e1]; exact a1, by rw [e2]; exact a2, fun k hk => ?_, fun k hk => ?_, fun j hj => ?_⟩
  · rw [h (B + 47) k (by omega) (by omega) (by omega)]
    exact a3 k (by rw [← e2]; exact hk)
  · rw [h (B + 48) k (by omega) (by omega) (by omega)]
    exact a4 k hk
  · obtain ⟨b1, b2, b3, b4⟩ := a5 j hj
    have e3 : ι2 (B + 43) j = ι (B + 43) j := h _ _ (by omega) (by omega) (by omega)
    refine ⟨by rw [h (B + 40) j (by omega) (by omega) (by omega)]; exact b1, by rw [h (B + 41) j (by omega) (by omega) (by omega)]; exact b2, by rw [e3]; exact b3, fun k hk => ?_⟩
    have := b4 k (by rw [← e3]; exact hk)
    unfold zSp
    rw [h (B + 44) _ (by omega) (by omega) (by omega), h (B + 45) _ (by omega) (by omega) (by omega), h (B + 46) _ (by omega) (by omega) (by omega)]
    exact this
theorem zJs_of {S : Nat} {ι ι2 : Nat → Nat → Int32} (h : ι2 (S + 1) 1 = ι (S + 1) 1) (h2 : ι2 S 5 = ι S 5) (h3 : 0 ≤ (ι2 S 10).toInt ∧ (ι2 S 10).toInt ≤ (ι (S + 1) 1).toInt) (hJ : zJs ι S) : zJs ι2 S := by
  unfold zJs
  rw [h, h2]
  exact ⟨hJ.1, hJ.2.1, h3⟩
theorem zJ_g {B c : Nat} {ι ι2 : Nat → Nat → Int32} (hJ : zJ B c ι) (h : ∀ b k, ¬ (B + 58 ≤ b ∧ b ≤ B + 62) → ¬ (b = B + 38 ∧ (k = 24 ∨ k = 26)) → ι2 b k = ι b k) : zJ B c ι2 := by
  obtain ⟨h8, ⟨a1, a2, a3, a4, a5⟩, hm⟩ := hJ
  have h' := h
  refine ⟨h8, ⟨by rw [h' B 9 (by omega) (by omega)]; exact a1, by rw [h' _ 1 (by omega) (by omega)]; exact a2, by rw [h' _ 1 (by omega) (by omega)]; exact a3, by rw [h' _ 1 (by omega) (by omega)]; exact a4, fun j hj => zJs_of (h' _ _ (by omega) (by omega)) (h' _ _ (by omega) (by omega)) (by rw [h' _ 10 (by omega) (by omega)]; exact (a5 j hj).2.2) (a5 j hj)⟩, zJm_of (fun b k q1 q2 q3 => h' b k (by omega) (by omega)) hm⟩
theorem zJ_fm0 {B c : Nat} {ι ι2 : Nat → Nat → Int32} (hJ : zJ B c ι) (h : zFm0 B ι ι2) : zJ B c ι2 := zJ_g hJ (fun b k q1 q2 => h b k (by unfold zCm0; omega))
theorem zJ_fq {B c : Nat} {ι ι2 : Nat → Nat → Int32} (hJ : zJ B c ι) (h : zFq B ι ι2) : zJ B c ι2 := zJ_g hJ (fun b k q1 q2 => h b k (by unfold zCq; omega))
theorem zJ_fc0 {B c : Nat} {ι ι2 : Nat → Nat → Int32} (hJ : zJ B c ι) (h : zFc0 B c ι ι2) : zJ B c ι2 := by
  obtain ⟨h8, ⟨a1, a2, a3, a4, a5⟩, hm⟩ := hJ
  have h' := h.1
  refine ⟨h8, ⟨by rw [h' B 9 (by unfold zCc0; omega)]; exact a1, by rw [h' _ 1 (by unfold zCc0; omega)]; exact a2, by rw [h' _ 1 (by unfold zCc0; omega)]; exact a3, by rw [h' _ 1 (by unfold zCc0; omega)]; exact a4, fun j hj => zJs_of (h' _ _ (by unfold zCc0; omega)) (h' _ _ (by unfold zCc0; omega)) (h.2 j hj) (a5 j hj)⟩, zJm_of (fun b k q1 q2 q3 => h' b k (by unfold zCc0; omega)) hm⟩
theorem zJ_fm {B c : Nat} {ι ι2 : Nat → Nat → Int32} (hJ : zJ B c ι) (h : zFm B ι ι2) : zJ B c ι2 := zJ_fm0 hJ h.w
theorem zJ_fc {B c : Nat} {ι ι2 : Nat → Nat → Int32} (hJ : zJ B c ι) (h : zFc B c ι ι2) : zJ B c ι2 := zJ_fc0 hJ h.w
theorem zif1 {p : Prop} [Decidable p] (h : ¬ (if p then (1 : Int32) else 0) = 0) : p := by
  by_cases q : p
  · exact q
  · exact absurd (if_neg q) h
theorem zif01 {p : Prop} [Decidable p] : (if p then (1 : Int32) else 0) = 0 ∨ (if p then (1 : Int32) else 0) = 1 := by
  by_cases q : p
  · exact Or.inr (if_pos q)
  · exact Or.inl (if_neg q)
/-- how many MARKS span k of the model comes to -/
def zSm (B : Nat) (ι : Nat → Nat → Int32) (k : Nat) : Int := ((ι (B + 45) k).toInt - (ι (B + 44) k).toInt) / (ι (B + 46) k).toInt + 1
def zMk (B : Nat) (ι : Nat → Nat → Int32) (j : Nat) : Nat → Int
  | 0 => 0
  | n + 1 => zMk B ι j n + zSm B ι (4 * j + n)
theorem zSm_b {B k : Nat} {ι : Nat → Nat → Int32} (h : zSp B ι k) : 1 ≤ zSm B ι k ∧ zSm B ι k ≤ 99901 := by
  obtain ⟨h1, h2, h3, h4, h5⟩ := h
  unfold zSm
  have e1 : 0 ≤ ((ι (B + 45) k).toInt - (ι (B + 44) k).toInt) / (ι (B + 46) k).toInt := Int.ediv_nonneg (by omega) (by omega)
  have e2 : ((ι (B + 45) k).toInt - (ι (B + 44) k).toInt) / (ι (B + 46) k).toInt ≤ (ι (B + 45) k).toInt - (ι (B + 44) k).toInt := Int.ediv_le_self _ (by omega)
  omega
theorem zdivI {x y : Int32} (h1 : 0 ≤ x.toInt) (h2 : 0 < y.toInt) : (x / y).toInt = x.toInt / y.toInt := by
  have h3 := x.toInt_lt
  have h4 : x.toInt / y.toInt ≤ x.toInt := Int.ediv_le_self _ h1
  have h5 : 0 ≤ x.toInt / y.toInt := Int.ediv_nonneg h1 (by omega)
  rw [Int32.toInt_div, Int.tdiv_eq_ediv_of_nonneg h1, Int.bmod_eq_of_le (by omega) (by omega)]
theorem zSm_v {f t b : Int32} (h1 : 100 ≤ f.toInt) (h2 : f.toInt ≤ t.toInt) (h3 : t.toInt ≤ 100000) (h4 : 1 ≤ b.toInt) : ((t - f) / b + 1).toInt = (t.toInt - f.toInt) / b.toInt + 1 := by
  have e1 : (t - f).toInt = t.toInt - f.toInt := zsubI (by omega) (by omega)
  have e2 : ((t - f) / b).toInt = (t.toInt - f.toInt) / b.toInt := by rw [zdivI (x := t - f) (y := b) (by omega) (by omega), e1]
  have e3 : 0 ≤ (t.toInt - f.toInt) / b.toInt := Int.ediv_nonneg (by omega) (by omega)
  have e4 : (t.toInt - f.toInt) / b.toInt ≤ t.toInt - f.toInt := Int.ediv_le_self _ (by omega)
  rw [zadd_c (x := (t - f) / b) 1 1 rfl (by omega) (by omega), e2]
theorem zMk_b {B j n : Nat} {ι : Nat → Nat → Int32} (h : ∀ k, k < n → zSp B ι (4 * j + k)) : (n : Int) ≤ zMk B ι j n ∧ zMk B ι j n ≤ 99901 * (n : Int) := by
  induction n with
  | zero => exact ⟨Int.le_refl _, Int.le_refl _⟩
  | succ n ih =>
    have h1 := ih (fun k hk => h k (by omega))
    have h2 := zSm_b (h n (by omega))
    rw [zMk]
    omega
theorem zMk_fm {B j : Nat} {ι ι2 : Nat → Nat → Int32} (h : zFm B ι ι2) (n : Nat) : zMk B ι2 j n = zMk B ι j n := by
  induction n with
  | zero => rfl
  | succ n ih =>
    rw [zMk, zMk, ih, zSm, zSm, h _ _ (by unfold zCm; omega), h _ _ (by unfold zCm; omega), h _ _ (by unfold zCm; omega)]
theorem zMk_fq {B j : Nat} {ι ι2 : Nat → Nat → Int32} (h : zFq B ι ι2) (n : Nat) : zMk B ι2 j n = zMk B ι j n := by
  induction n with
  | zero => rfl
  | succ n ih =>
    rw [zMk, zMk, ih, zSm, zSm, h _ _ (by unfold zCq; omega), h _ _ (by unfold zCq; omega), h _ _ (by unfold zCq; omega)]
theorem zix {x q : Int32} (h0 : 0 ≤ x.toInt) (h1 : x.toInt < 8) (h2 : 0 ≤ q.toInt) (h3 : q.toInt ≤ 4) : (4 * x + q).toInt = 4 * x.toInt + q.toInt ∧ (4 * x + q).toNatClampNeg = 4 * x.toNatClampNeg + q.toNatClampNeg := by
  have e1 : (4 * x).toInt = 4 * x.toInt := by rw [zmulI (x := 4) (y := x) (by rw [show (4 : Int32).toInt = 4 from rfl]; omega) (by rw [show (4 : Int32).toInt = 4 from rfl]; omega)]; rfl
  have e2 : (4 * x + q).toInt = 4 * x.toInt + q.toInt := by rw [zaddI (x := 4 * x) (y := q) (by omega) (by omega), e1]
  refine ⟨e2, ?_⟩
  generalize 4 * x + q = w at *
  have := zclN h0
  have := zclN h2
  have := zclN (i := w) (by omega)
  omega
theorem zix60 {x q : Int32} (h0 : 0 ≤ x.toInt) (h1 : x.toInt < 2) (h2 : 0 ≤ q.toInt) (h3 : q.toInt ≤ 60) : (60 * x + q).toInt = 60 * x.toInt + q.toInt ∧ (60 * x + q).toNatClampNeg = 60 * x.toNatClampNeg + q.toNatClampNeg := by
  have e1 : (60 * x).toInt = 60 * x.toInt := by rw [zmulI (x := 60) (y := x) (by rw [show (60 : Int32).toInt = 60 from rfl]; omega) (by rw [show (60 : Int32).toInt = 60 from rfl]; omega)]; rfl
  have e2 : (60 * x + q).toInt = 60 * x.toInt + q.toInt := by rw [zaddI (x := 60 * x) (y := q) (by omega) (by omega), e1]
  refine ⟨e2, ?_⟩
  generalize 60 * x + q = w at *
  have := zclN h0
  have := zclN h2
  have := zclN (i := w) (by omega)
  omega
theorem zixF {x v : Int32} (h0 : 0 ≤ x.toInt) (h1 : x.toInt < 8) (h2 : 100 ≤ v.toInt) (h3 : v.toInt ≤ 100000) : ∃ w, 100001 * x + v = w ∧ 0 ≤ w.toInt ∧ w.toInt < 800008 := by
  refine ⟨_, rfl, ?_⟩
  have e1 : (100001 * x).toInt = 100001 * x.toInt := by rw [zmulI (x := 100001) (y := x) (by rw [show (100001 : Int32).toInt = 100001 from rfl]; omega) (by rw [show (100001 : Int32).toInt = 100001 from rfl]; omega)]; rfl
  rw [zaddI (x := 100001 * x) (y := v) (by rw [e1]; omega) (by rw [e1]; omega), e1]
  omega
theorem zL10 {x : Int32} (h0 : 10 ≤ x.toInt) (h1 : x.toInt ≤ 990) : 1 ≤ ((10 : Int64) * x.toInt64).toInt ∧ ((10 : Int64) * x.toInt64).toInt ≤ 1000000 := by
  rw [zmulJ (x := 10) (y := x.toInt64) (by rw [Int32.toInt_toInt64, show (10 : Int64).toInt = 10 from rfl]; omega) (by rw [Int32.toInt_toInt64, show (10 : Int64).toInt = 10 from rfl]; omega), Int32.toInt_toInt64, show (10 : Int64).toInt = 10 from rfl]
  omega
/-- MARK number e of a span -/
theorem zmk_le {f t b e : Int} (h1 : f ≤ t) (h2 : 1 ≤ b) (h3 : 0 ≤ e) (h4 : e < (t - f) / b + 1) : 0 ≤ e * b ∧ e * b ≤ t - f := by
  refine ⟨Int.mul_nonneg h3 (by omega), ?_⟩
  have h5 : e * b ≤ (t - f) / b * b := Int.mul_le_mul_of_nonneg_right (by omega) (by omega)
  exact Int.le_trans h5 (Int.ediv_mul_le _ (by omega))
