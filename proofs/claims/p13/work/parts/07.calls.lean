/-! ROWS: arrays, returns, calls, new -/
section ZA
variable {E : zE} {G : zG} {cc : ByteArray} {nL : Nat} {own : String} {rm : Room} {n k pc nx : Nat} {L : List (Nat × Value)} {st : List Value} {z : Nat} {τ : Nat → Option (Nat × Nat)} {ρ : Nat → Nat → Option Nat} {ι : Nat → Nat → Int32} {κ : Nat → Nat → Int64} {a t N : Nat} {i : Int32}
theorem r_iaload (X : zX E G cc nL own rm) (d : zd cc pc .iaload 1 nx) (hτ : τ a = some (13, N)) (hin : vp_in i N) (kk : zW E G nL (z, τ, ρ, ι, κ) n k nx L (.int (ι a i.toNatClampNeg) :: st)) : zW E G nL (z, τ, ρ, ι, κ) n k pc L (.int i :: .ref a :: st) := by
  obtain ⟨p, l, e, R, u, m, args, below, meth, c, Q⟩ := E
  obtain ⟨hx, hb, hml, hown, hts, hK, hN, hlk, hB, rfl⟩ := X
  obtain ⟨d, rfl⟩ := d
  intro H locs ls hH hS hl
  have hat := (hH.2.2.1 a (show τ a ≠ none by rw [hτ]; simp)).2
  rw [zc_int hτ] at hat
  exact va_iald hx hb hK (zsing hat) 0 0 rfl rfl hin d (kk H locs ls hH hS hl)
theorem r_zaload (X : zX E G cc nL own rm) (d : zd cc pc .baload 1 nx) (hτ : τ a = some (15, N)) (hin : vp_in i N) (kk : zW E G nL (z, τ, ρ, ι, κ) n k nx L (.int (ι a i.toNatClampNeg) :: st)) : zW E G nL (z, τ, ρ, ι, κ) n k pc L (.int i :: .ref a :: st) := by
  obtain ⟨p, l, e, R, u, m, args, below, meth, c, Q⟩ := E
  obtain ⟨hx, hb, hml, hown, hts, hK, hN, hlk, hB, rfl⟩ := X
  obtain ⟨d, rfl⟩ := d
  intro H locs ls hH hS hl
  have hat := (hH.2.2.1 a (show τ a ≠ none by rw [hτ]; simp)).2
  rw [zc_bool hτ] at hat
  exact va_zald hx hb hK (zsing hat) 0 2 rfl rfl hin d (kk H locs ls hH hS hl)
theorem r_laload (X : zX E G cc nL own rm) (d : zd cc pc .laload 1 nx) (hτ : τ a = some (14, N)) (hin : vp_in i N) (kk : zW E G nL (z, τ, ρ, ι, κ) n k nx L (.long (κ a i.toNatClampNeg) :: st)) : zW E G nL (z, τ, ρ, ι, κ) n k pc L (.int i :: .ref a :: st) := by
  obtain ⟨p, l, e, R, u, m, args, below, meth, c, Q⟩ := E
  obtain ⟨hx, hb, hml, hown, hts, hK, hN, hlk, hB, rfl⟩ := X
  obtain ⟨d, rfl⟩ := d
  intro H locs ls hH hS hl
  have hat := (hH.2.2.1 a (show τ a ≠ none by rw [hτ]; simp)).2
  rw [zc_long hτ] at hat
  exact va_lald hx hb hK (zsing hat) 0 1 rfl rfl hin d (kk H locs ls hH hS hl)
theorem r_laloadF {f : Nat} (X : zX E G cc nL own rm) (d : zd cc pc .laload 1 nx) (hτ : τ a = some (1000 + f, N)) (hin : vp_in i N) (kk : zW E G nL (z, τ, ρ, ι, κ) n k nx L (.long (zFz f i.toNatClampNeg) :: st)) : zW E G nL (z, τ, ρ, ι, κ) n k pc L (.int i :: .ref a :: st) := by
  obtain ⟨p, l, e, R, u, m, args, below, meth, c, Q⟩ := E
  obtain ⟨hx, hb, hml, hown, hts, hK, hN, hlk, hB, rfl⟩ := X
  obtain ⟨d, rfl⟩ := d
  intro H locs ls hH hS hl
  have hat := (hH.2.2.1 a (show τ a ≠ none by rw [hτ]; simp)).2
  rw [zc_frz hτ] at hat
  exact va_lald hx hb hK (zsing hat) 0 1 rfl rfl hin d (kk H locs ls hH hS hl)
theorem zarrV {c : ClassId} {N : Nat} {f g : Nat → Value} (h : ∀ k, k < N → f k = g k) : arrV c N f = arrV c N g := by
  have e : (fun j : Fin N => f j.val) = fun j => g j.val := funext fun j => h j.val j.isLt
  unfold arrV
  rw [e]
/-- nothing writes it any more -/
theorem zH_frz {f : Nat} {H : Heap} (hH : zH G (z, τ, ρ, ι, κ) H) (hτ : τ a = some (14, N)) (hf : ∀ k, k < N → κ a k = zFz f k) : zH G (z, fun b => if b = a then some (1000 + f, N) else τ b, ρ, ι, κ) H := by
  have hlt := zH_lt hH (a := a) (show τ a ≠ none by rw [hτ]; simp)
  refine ⟨hH.1, hH.2.1, fun b hb => ?_, fun b hb => ?_⟩
  · by_cases e : b = a
    · subst e
      have h := hH.2.2.1 b (show τ b ≠ none by rw [hτ]; simp)
      refine ⟨h.1, ?_⟩
      have h2 := h.2
      rw [zc_long hτ] at h2
      rw [zc_frz (f := f) (N := N) (if_pos rfl)]
      show H[b]? = some (vp_cell _ _)
      have h3 : H[b]? = some (vp_cell (G.2.1 1) (N, .inr (.inl (κ b)))) := h2
      rw [h3, vp_cell_l, vp_cell_l, zarrV (fun k hk => by rw [hf k hk])]
    · have hb2 : τ b ≠ none := by
        have h : (if b = a then some (1000 + f, N) else τ b) ≠ none := hb
        rw [if_neg e] at h
        exact h
      have h := hH.2.2.1 b hb2
      refine ⟨h.1, ?_⟩
      have e2 : zc G (z, fun b => if b = a then some (1000 + f, N) else τ b, ρ, ι, κ) b = zc G (z, τ, ρ, ι, κ) b := by
        simp only [zc]
        rw [if_neg e]
      rw [e2]; exact h.2
  · have h := hH.2.2.2 b hb
    have hz : z ≤ b := hb
    have hlt2 : a < z := hlt
    exact ⟨by show (if b = a then some (1000 + f, N) else τ b) = none; rw [if_neg (by omega)]; exact h.1, h.2⟩
theorem zW_frz {f : Nat} (hτ : τ a = some (14, N)) (hf : ∀ k, k < N → κ a k = zFz f k) (kk : zW E G nL (z, fun b => if b = a then some (1000 + f, N) else τ b, ρ, ι, κ) n k pc L st) : zW E G nL (z, τ, ρ, ι, κ) n k pc L st := by
  obtain ⟨p, l, e, R, u, m, args, below, meth, c, Q⟩ := E
  intro H locs ls hH hS hl
  exact kk H locs ls (zH_frz hH hτ hf) hS hl
theorem zaaload {v : Value} {q : Nat} {ty : FieldType} (X : zX E G cc nL own rm) (d : zd cc pc .aaload 1 nx) (hτ : τ a = some (t, N)) (ht : 16 ≤ t ∧ t ≤ 18) (hq : (ztys G)[q]? = some (G.2.1 (t - 13), ty)) (hty : ty.isReference = true) (hin : vp_in i N) (hv : va_rf (ρ a i.toNatClampNeg) = v) (kk : zW E G nL (z, τ, ρ, ι, κ) n k nx L (v :: st)) : zW E G nL (z, τ, ρ, ι, κ) n k pc L (.int i :: .ref a :: st) := by
  obtain ⟨p, l, e, R, u, m, args, below, meth, c, Q⟩ := E
  obtain ⟨hx, hb, hml, hown, hts, hK, hN, hlk, hB, rfl⟩ := X
  obtain ⟨d, rfl⟩ := d
  intro H locs ls hH hS hl
  have hat := (hH.2.2.1 a (show τ a ≠ none by rw [hτ]; simp)).2
  rw [zc_ref hτ ht] at hat
  have hlt : i.toNatClampNeg < N := Nat.not_le.mp fun q => hin (Or.inr q)
  subst hv
  exact W.aald (v := va_rf (ρ a i.toNatClampNeg)) (ty := ty) hx hb hat ((hK.2 q _ hq).1 N (fun j => va_rf (ρ a j))) hty (fun q => by cases q) (by show ¬ (i < 0 ∨ (arrV _ _ _).slots.size ≤ _); rw [arrV_size]; exact hin) (by show (arrV _ _ _).slots[_]? = _; rw [arrV_read _ _ hlt]) rfl rfl d (kk H locs ls hH hS hl)
theorem r_aaload {b : Nat} (X : zX E G cc nL own rm) (d : zd cc pc .aaload 1 nx) (hτ : τ a = some (t, N)) (ht : 16 ≤ t ∧ t ≤ 18) (hin : vp_in i N) (hv : ρ a i.toNatClampNeg = some b) (kk : zW E G nL (z, τ, ρ, ι, κ) n k nx L (.ref b :: st)) : zW E G nL (z, τ, ρ, ι, κ) n k pc L (.int i :: .ref a :: st) := by
  obtain ⟨h1, h2⟩ := ht
  obtain rfl | rfl | rfl : t = 16 ∨ t = 17 ∨ t = 18 := by omega
  · exact zaaload (q := 3) X d hτ (by decide) rfl rfl hin (by rw [hv]; rfl) kk
  · exact zaaload (q := 4) X d hτ (by decide) rfl rfl hin (by rw [hv]; rfl) kk
  · exact zaaload (q := 5) X d hτ (by decide) rfl rfl hin (by rw [hv]; rfl) kk
theorem r_alen (X : zX E G cc nL own rm) (d : zd cc pc .arraylength 1 nx) (hτ : τ a = some (13, N)) (kk : zW E G nL (z, τ, ρ, ι, κ) n k nx L (.int (Int32.ofNat N) :: st)) : zW E G nL (z, τ, ρ, ι, κ) n k pc L (.ref a :: st) := by
  obtain ⟨p, l, e, R, u, m, args, below, meth, c, Q⟩ := E
  obtain ⟨hx, hb, hml, hown, hts, hK, hN, hlk, hB, rfl⟩ := X
  obtain ⟨d, rfl⟩ := d
  intro H locs ls hH hS hl
  have hat := (hH.2.2.1 a (show τ a ≠ none by rw [hτ]; simp)).2
  rw [zc_int hτ] at hat
  exact va_alen hx hb hK (zsing hat) 0 0 rfl rfl rfl d (kk H locs ls hH hS hl)
theorem zup_fun {f : Nat → Nat → Int32} {x : Int32} {q : Nat} : zu f a q x a = upd (f a) q x := by
  funext j
  by_cases h : j = q
  · subst h; simp [zu, upd]
  · simp [zu, upd, h]
theorem zup_funL {f : Nat → Nat → Int64} {x : Int64} {q : Nat} : zu f a q x a = fun j => if j = q then x else f a j := zu_ra
theorem r_iastore {x : Int32} (X : zX E G cc nL own rm) (d : zd cc pc .iastore 1 nx) (hτ : τ a = some (13, N)) (hin : vp_in i N) (kk : zW E G nL (z, τ, ρ, zu ι a i.toNatClampNeg x, κ) n k nx L st) : zW E G nL (z, τ, ρ, ι, κ) n k pc L (.int x :: .int i :: .ref a :: st) := by
  obtain ⟨p, l, e, R, u, m, args, below, meth, c, Q⟩ := E
  obtain ⟨hx, hb, hml, hown, hts, hK, hN, hlk, hB, rfl⟩ := X
  obtain ⟨d, rfl⟩ := d
  intro H locs ls hH hS hl
  have ha : τ a ≠ none := by rw [hτ]; simp
  obtain ⟨hA, hat⟩ := hH.2.2.1 a ha
  rw [zc_int hτ] at hat
  refine W.iast hx hb hat ((hK.2 0 _ rfl).1 N (fun j => .int (ι a j))) (fun q => by cases q) (by show ¬ (i < 0 ∨ (arrV _ _ _).slots.size ≤ _); rw [arrV_size]; exact hin) rfl rfl d fun H1 e1 e2 e3 => ?_
  refine kk H1 _ ls (zH_up (e := .inl (G.2.1 0, N, .inl (zu ι a i.toNatClampNeg x a))) hH ha ⟨rfl, rfl, fun b hb => ⟨zc_congr rfl (zu_r hb) rfl, rfl, zu_r hb, rfl⟩, zc_int hτ⟩ ?_ e2 e3) (hS.put e2 e3 hA) hl
  show H1[a]? = some (vp_cell _ _)
  rw [e1]
  rw [vp_cell_i, vp_cell_i, arrV_store]
  congr 2
  funext q
  by_cases hq : q = i.toNatClampNeg
  · subst hq; simp [updV, zu]
  · simp [updV, zu, hq]
theorem r_zastore {x : Int32} (X : zX E G cc nL own rm) (d : zd cc pc .bastore 1 nx) (hτ : τ a = some (15, N)) (hin : vp_in i N) (hx01 : x = 0 ∨ x = 1) (kk : zW E G nL (z, τ, ρ, zu ι a i.toNatClampNeg x, κ) n k nx L st) : zW E G nL (z, τ, ρ, ι, κ) n k pc L (.int x :: .int i :: .ref a :: st) := by
  obtain ⟨p, l, e, R, u, m, args, below, meth, c, Q⟩ := E
  obtain ⟨hx, hb, hml, hown, hts, hK, hN, hlk, hB, rfl⟩ := X
  obtain ⟨d, rfl⟩ := d
  intro H locs ls hH hS hl
  have ha : τ a ≠ none := by rw [hτ]; simp
  obtain ⟨hA, hat⟩ := hH.2.2.1 a ha
  rw [zc_bool hτ] at hat
  have hnar : narrow .boolean (.int x) = .int x := by rcases hx01 with rfl | rfl <;> decide +kernel
  refine W.zast hx hb hat ((hK.2 2 _ rfl).1 N (fun j => .int (ι a j))) (fun q => by cases q) (by show ¬ (i < 0 ∨ (arrV _ _ _).slots.size ≤ _); rw [arrV_size]; exact hin) rfl rfl d fun H1 e1 e2 e3 => ?_
  refine kk H1 _ ls (zH_up (e := .inl (G.2.1 2, N, .inl (zu ι a i.toNatClampNeg x a))) hH ha ⟨rfl, rfl, fun b hb => ⟨zc_congr rfl (zu_r hb) rfl, rfl, zu_r hb, rfl⟩, zc_bool hτ⟩ ?_ e2 e3) (hS.put e2 e3 hA) hl
  show H1[a]? = some (vp_cell _ _)
  rw [e1, hnar]
  rw [vp_cell_i, vp_cell_i, arrV_store]
  congr 2
  funext q
  by_cases hq : q = i.toNatClampNeg
  · subst hq; simp [updV, zu]
  · simp [updV, zu, hq]
theorem r_lastore {x : Int64} (X : zX E G cc nL own rm) (d : zd cc pc .lastore 1 nx) (hτ : τ a = some (14, N)) (hin : vp_in i N) (kk : zW E G nL (z, τ, ρ, ι, zu κ a i.toNatClampNeg x) n k nx L st) : zW E G nL (z, τ, ρ, ι, κ) n k pc L (.long x :: .int i :: .ref a :: st) := by
  obtain ⟨p, l, e, R, u, m, args, below, meth, c, Q⟩ := E
  obtain ⟨hx, hb, hml, hown, hts, hK, hN, hlk, hB, rfl⟩ := X
  obtain ⟨d, rfl⟩ := d
  intro H locs ls hH hS hl
  have ha : τ a ≠ none := by rw [hτ]; simp
  obtain ⟨hA, hat⟩ := hH.2.2.1 a ha
  rw [zc_long hτ] at hat
  refine W.last hx hb hat ((hK.2 1 _ rfl).1 N (fun j => .long (κ a j))) (fun q => by cases q) (by show ¬ (i < 0 ∨ (arrV _ _ _).slots.size ≤ _); rw [arrV_size]; exact hin) rfl rfl d fun H1 e1 e2 e3 => ?_
  refine kk H1 _ ls (zH_up (e := .inl (G.2.1 1, N, .inr (.inl (zu κ a i.toNatClampNeg x a)))) hH ha ⟨rfl, rfl, fun b hb => ⟨zc_congr rfl rfl (zu_r hb), rfl, rfl, zu_r hb⟩, zc_long hτ⟩ ?_ e2 e3) (hS.put e2 e3 hA) hl
  show H1[a]? = some (vp_cell _ _)
  rw [e1]
  rw [vp_cell_l, vp_cell_l, arrV_store]
  congr 2
  funext q
  by_cases hq : q = i.toNatClampNeg
  · subst hq; simp [updV, zu]
  · simp [updV, zu, hq]
/-- a cell of class ci into an array of references of that class -/
theorem r_aastore {q ci N2 : Nat} {b : Nat} (X : zX E G cc nL own rm) (d : zd cc pc .aastore 1 nx) (hτ : τ a = some (t, N)) (ht : 16 ≤ t ∧ t ≤ 18) (hq : (ztys G)[q]? = some (G.2.1 (t - 13), .object (zr ci).1)) (hci : ci < 13) (hcl : vwCl[ci]? = some (zr ci)) (hb0 : τ b = some (ci, N2)) (hin : vp_in i N) (kk : zW E G nL (z, τ, zu ρ a i.toNatClampNeg (some b), ι, κ) n k nx L st) : zW E G nL (z, τ, ρ, ι, κ) n k pc L (.ref b :: .int i :: .ref a :: st) := by
  obtain ⟨p, l, e, R, u, m, args, below, meth, c, Q⟩ := E
  obtain ⟨hx, hb, hml, hown, hts, hK, hN, hlk, hB, rfl⟩ := X
  obtain ⟨d, rfl⟩ := d
  intro H locs ls hH hS hl
  have ha : τ a ≠ none := by rw [hτ]; simp
  obtain ⟨hA, hat⟩ := hH.2.2.1 a ha
  have hatb := (hH.2.2.1 b (show τ b ≠ none by rw [hb0]; simp)).2
  rw [zc_ref hτ ht] at hat
  rw [zc_obj hb0 hci] at hatb
  have hlt : i.toNatClampNeg < N := Nat.not_le.mp fun q => hin (Or.inr q)
  have h0 : ¬ i < 0 := fun q => hin (Or.inl q)
  obtain ⟨r', hr', cellV, g1, g2, g3, -⟩ := hatb
  have hcls := (hK.1 ci _ hcl).2
  obtain ⟨kA, comp, k1, k2, k3, -⟩ := (hK.2 q _ hq).2
  obtain rfl : comp = G.1.1 ci := Option.some.inj (k3.symm.trans hcls.1)
  obtain ⟨kC, hkC, -⟩ := hcls.2
  refine W.aast hx hb hat (fun q h => by cases h) (fun h => by cases h) k1 k2 rfl hkC ⟨h0, by show _ < (arrV _ _ _).slots.size; rw [arrV_size]; exact hlt⟩ g1 (fun q h => by rw [g3] at h; cases h) (by rw [g2]; exact hkC) (by rw [g2]; exact va_assign hcls) rfl rfl d fun H1 e1 e2 e3 => ?_
  refine kk H1 _ ls (zH_up (e := .inl (G.2.1 (t - 13), N, .inr (.inr (.inr (.inr (zu ρ a i.toNatClampNeg (some b) a)))))) hH ha ⟨rfl, rfl, fun b hb => ⟨zc_congr (zu_r hb) rfl rfl, zu_r hb, rfl, rfl⟩, zc_ref hτ ht⟩ ?_ e2 e3) (hS.put e2 e3 hA) hl
  show H1[a]? = some (vp_cell _ _)
  rw [e1]
  rw [vp_cell_q, vp_cell_q, arrV_store]
  congr 2
  funext q
  by_cases hq : q = i.toNatClampNeg
  · subst hq; simp [updV, zu, va_rf]
  · simp [updV, zu, hq]
end ZA
section ZC
variable {E : zE} {G : zG} {cc : ByteArray} {nL : Nat} {own : String} {rm : Room} {n k pc nx : Nat} {L : List (Nat × Value)} {st : List Value} {s : zS} {P : Option Value → zS → Prop} {mc ms : Nat} {ret : Option FieldType}
theorem r_ireturn {ty : FieldType} {v : Int32} (X : zX E G cc nL own rm) (hR : zR E G P mc ms (some ty)) (d : zd cc pc .ireturn 1 nx) (hnar : narrow ty (.int v) = .int v) (hn : n ≤ mc) (hk : k ≤ ms) (hp : P (some (.int v)) s) : zW E G nL s n k pc L [.int v] := by
  obtain ⟨p, l, e, R, u, m, args, below, meth, c, Q⟩ := E
  obtain ⟨hx, hb, hml, hown, hts, hK, hN, hlk, hB, rfl⟩ := X
  obtain ⟨d, rfl⟩ := d
  obtain ⟨rfl, hr⟩ := hR
  intro H locs ls hH hS hl
  refine W.widen hn hk ?_
  exact W.zret hx hb hr hnar (fun t ht hW => ⟨⟨_, s, rfl, hp, zI.warm (by rw [ht]; exact hH) hK hN hW⟩, hS.F ht⟩) hS.2.2 d
theorem r_lreturn {v : Int64} (X : zX E G cc nL own rm) (hR : zR E G P mc ms (some .long)) (d : zd cc pc .lreturn 1 nx) (hn : n ≤ mc) (hk : k ≤ ms) (hp : P (some (.long v)) s) : zW E G nL s n k pc L [.long v] := by
  obtain ⟨p, l, e, R, u, m, args, below, meth, c, Q⟩ := E
  obtain ⟨hx, hb, hml, hown, hts, hK, hN, hlk, hB, rfl⟩ := X
  obtain ⟨d, rfl⟩ := d
  obtain ⟨rfl, hr⟩ := hR
  intro H locs ls hH hS hl
  refine W.widen hn hk ?_
  exact W.lret hx hb hr (fun t ht hW => ⟨⟨_, s, rfl, hp, zI.warm (by rw [ht]; exact hH) hK hN hW⟩, hS.F ht⟩) hS.2.2 d
theorem r_return (X : zX E G cc nL own rm) (hR : zR E G P mc ms none) (d : zd cc pc .return_ 1 nx) (hn : n ≤ mc) (hk : k ≤ ms) (hp : P none s) : zW E G nL s n k pc L [] := by
  obtain ⟨p, l, e, R, u, m, args, below, meth, c, Q⟩ := E
  obtain ⟨hx, hb, hml, hown, hts, hK, hN, hlk, hB, rfl⟩ := X
  obtain ⟨d, rfl⟩ := d
  obtain ⟨rfl, hr⟩ := hR
  intro H locs ls hH hS hl
  refine W.widen hn hk ?_
  exact W.vret hx hb hr (fun t ht hW => ⟨⟨_, s, rfl, hp, zI.warm (by rw [ht]; exact hH) hK hN hW⟩, hS.F ht⟩) hS.2.2 d
theorem r_areturn {C : String} {v : Value} (X : zX E G cc nL own rm) (hR : zR E G P mc ms (some (.object C))) (hv : v = .null ∨ ∃ a, v = .ref a) (d : zd cc pc .areturn 1 nx) (hn : n ≤ mc) (hk : k ≤ ms) (hp : P (some v) s) : zW E G nL s n k pc L [v] := by
  obtain ⟨p, l, e, R, u, m, args, below, meth, c, Q⟩ := E
  obtain ⟨hx, hb, hml, hown, hts, hK, hN, hlk, hB, rfl⟩ := X
  obtain ⟨d, rfl⟩ := d
  obtain ⟨rfl, hr⟩ := hR
  intro H locs ls hH hS hl
  refine W.widen hn hk ?_
  exact W.aret hx hb hr (Or.inl ⟨C, rfl⟩) hv (fun t ht hW => ⟨⟨_, s, rfl, hp, zI.warm (by rw [ht]; exact hH) hK hN hW⟩, hS.F ht⟩) hS.2.2 d
/-- behind a call -/
theorem zcall {p : Program} {l : Launch} {e : Env} {R : Room} {u : State} {m : MethodId} {args : Array Value} {below : List Frame} {meth : Method} {c : Code} {Q : State → Prop} {H : Heap} {locs : List Loc} {ls : Array Slot} {st0 : List Value} {av : Array Value} (hr : va_Run p l e R u m args below meth c H locs n k mc ms (F0 m pc ls st0) st (zQ G P av) (zA G)) (hS : va_S (zA G) u.heap H locs)
    (kk : ∀ v s2, P v s2 → ∀ (H1 : Heap) (locs1 : List Loc), zH G s2 H1 → va_S (zA G) u.heap H1 locs1 → W p l e R u m args below meth c H1 locs1 (n + mc) (k + ms) Q (F0 m (pc + 3) ls (v.toList ++ st))) : W p l e R u m args below meth c H locs n k Q (F0 m pc ls st0) := by
  intro T hT X
  obtain ⟨v, st₀, t, T', L, h0, X', hL, e1, e2, ⟨⟨v2, s2, hv, hp, hI⟩, hz, hk⟩, hst⟩ := hr T hT X
  obtain rfl : v = v2 := by cases hv; rfl
  rw [h0] at hz hk
  obtain ⟨t2, a1, b1⟩ := kk v s2 hp T'.heap (locs ++ L) (by rw [e1]; exact hI.1) ⟨Nat.le_trans hS.1 (by rw [e1]; exact hz), fun q h1 h2 => by rw [e1, hk q (Nat.lt_of_lt_of_le h1 hS.1) h2]; exact hS.2.1 q h1 h2, fun q hq => by
      rcases List.mem_append.mp hq with h | h
      · exact hS.2.2 q h
      · exact hL q h⟩ T' rfl X'
  exact ⟨t2, hst t2 a1, b1⟩
theorem zgood {y : MethodName} {cy : ByteArray} {ml : Nat} (h : Cond.code y cy ml ret ∈ zT) : GoodIn zT (Cond.code y cy ml ret :: zT) := fun w hw => by
  rcases List.mem_cons.mp hw with rfl | hw
  · exact ⟨h, zT_good _ h⟩
  · exact ⟨hw, zT_good _ hw⟩
/-- the room that a call wants: frames, words, cells, places; the words that stand below its arguments -/
def zRm (crm rm : Room) (ml mc ms n k : Nat) (st : List Value) : Prop := (crm.cells = mc ∧ crm.slots = ms) ∧ (crm.frames + 1 ≤ rm.frames ∧ 8 + (ml + 11) + crm.locals ≤ rm.locals) ∧ (n + mc ≤ rm.cells ∧ k + ms ≤ rm.slots) ∧ (st.map fun v => v.category).sum ≤ 8
theorem r_callV {i b t N na ml : Nat} {y : MethodName} {cy : ByteArray} {crm : Room} {stk As : List Value} (X : zX E G cc nL own rm) (d : zd cc pc (.invokevirtual i) 3 nx) (lk : zLV own i y) (hc : zCd y cy ml ret na) (hM : zM E.2.1 G y cy ml ret crm (.ref b :: As) s P mc ms) (hτ : s.2.1 b = some (t, N)) (ht : t < 13 ∧ vwCl[t]? = some (zr t) ∧ (zr t).1 = y.cls) (hst : stk = As.reverse ++ .ref b :: st) (hna : As.length = na) (hr : zRm crm rm ml mc ms n k st) (kk : ∀ v s2, P v s2 → zW E G nL s2 (n + mc) (k + ms) nx L (v.toList ++ st)) : zW E G nL s n k pc L stk := by
  obtain ⟨p, l, e, R, u, m, args, below, meth, c, Q⟩ := E
  obtain ⟨hx, hb, hml, hown, hts, hK, hN, hlk, hB, rfl⟩ := X
  obtain ⟨d, rfl⟩ := d
  obtain ⟨z, τ, ρ, ι, κ⟩ := s
  intro H locs ls hH hS hl
  have hat := (hH.2.2.1 b (show τ b ≠ none by rw [show τ b = _ from hτ]; simp)).2
  rw [zc_obj hτ ht.1] at hat
  have hrecv := va_recv hK (zsing hat) (ci := t) (q0 := 0) ht.2.1 rfl
  rw [ht.2.2] at hrecv
  refine zcall (va_runV (C := y.cls) (b := b) (n := na) (As := As) (rest := st) ⟨hx, hb, hml, hown, hts⟩ hM ⟨callB_of na hts (zgood hc.1) rfl hr.1.1 hr.1.2 (hts _ lk.2.2.2) (hts _ lk.1) ⟨hc.2.1.1, hc.2.1.2, hc.2.2.1⟩ hr.2.1, hts _ lk.2.1, hts _ lk.2.2.1⟩ ⟨zI.blind, hrecv, fun U hU hW => ⟨rfl, zI.warm (by rw [hU]; exact hH) hK hN hW⟩⟩ rfl hna (hl.1.trans rfl) hst (lv_room hr.2.2.2) d hr.2.2.1) hS (fun v s2 hp H1 locs1 hH1 hS1 => kk v s2 hp H1 locs1 ls hH1 hS1 hl)
theorem r_callS {i na ml : Nat} {y : MethodName} {cy : ByteArray} {crm : Room} {stk As : List Value} (X : zX E G cc nL own rm) (d : zd cc pc (.invokestatic i) 3 nx) (lk : zLS own i y) (hc : zCd y cy ml ret na) (hM : zM E.2.1 G y cy ml ret crm As s P mc ms) (hst : stk = As.reverse ++ st) (hna : As.length = na) (hr : zRm crm rm ml mc ms n k st) (kk : ∀ v s2, P v s2 → zW E G nL s2 (n + mc) (k + ms) nx L (v.toList ++ st)) : zW E G nL s n k pc L stk := by
  obtain ⟨p, l, e, R, u, m, args, below, meth, c, Q⟩ := E
  obtain ⟨hx, hb, hml, hown, hts, hK, hN, hlk, hB, rfl⟩ := X
  obtain ⟨d, rfl⟩ := d
  intro H locs ls hH hS hl
  refine zcall (va_runS (n := na) (As := As) (rest := st) ⟨hx, hb, hml, hown, hts⟩ hM ⟨callB_of na hts (zgood hc.1) rfl hr.1.1 hr.1.2 (hts _ lk.2.2) (hts _ lk.1) ⟨hc.2.1.1, hc.2.1.2, hc.2.2.1⟩ hr.2.1, hts _ lk.2.1⟩ ⟨zI.blind, fun U hU hW => ⟨rfl, zI.warm (by rw [hU]; exact hH) hK hN hW⟩⟩ rfl hna (hl.1.trans rfl) hst (lv_room hr.2.2.2) d hr.2.2.1) hS (fun v s2 hp H1 locs1 hH1 hS1 => kk v s2 hp H1 locs1 ls hH1 hS1 hl)
theorem r_callI {i b na ml : Nat} {y : MethodName} {cy : ByteArray} {crm : Room} {stk As : List Value} (X : zX E G cc nL own rm) (d : zd cc pc (.invokespecial i) 3 nx) (lk : zLI own i y) (hy : y.name = "<init>") (hc : zCd y cy ml none na) (hM : zM E.2.1 G y cy ml none crm (.ref b :: As) s P mc ms) (hst : stk = As.reverse ++ .ref b :: st) (hna : As.length = na) (hr : zRm crm rm ml mc ms n k st) (kk : ∀ v s2, P v s2 → zW E G nL s2 (n + mc) (k + ms) nx L (v.toList ++ st)) : zW E G nL s n k pc L stk := by
  obtain ⟨p, l, e, R, u, m, args, below, meth, c, Q⟩ := E
  obtain ⟨hx, hb, hml, hown, hts, hK, hN, hlk, hB, rfl⟩ := X
  obtain ⟨d, rfl⟩ := d
  intro H locs ls hH hS hl
  refine zcall (va_runI (b := b) (n := na) (As := As) (rest := st) ⟨hx, hb, hml, hown, hts⟩ hM ⟨callB_of na hts (zgood hc.1) rfl hr.1.1 hr.1.2 (hts _ lk.2.2) (hts _ lk.1) ⟨hc.2.1.1, hc.2.1.2, hc.2.2.1⟩ hr.2.1, hy, hts _ lk.2.1⟩ ⟨zI.blind, fun U hU hW => ⟨rfl, zI.warm (by rw [hU]; exact hH) hK hN hW⟩⟩ rfl hna (hl.1.trans rfl) hst (lv_room hr.2.2.2) d hr.2.2.1) hS (fun v s2 hp H1 locs1 hH1 hS1 => kk v s2 hp H1 locs1 ls hH1 hS1 hl)
theorem r_callIN {i b na ml : Nat} {y : MethodName} {host : String} {cy : ByteArray} {crm : Room} {stk As : List Value} (X : zX E G cc nL own rm) (d : zd cc pc (.invokespecial i) 3 nx) (lk : (own, i, y, host) ∈ zNest) (hini : Cond.initialized y.cls ∈ zT) (hinst : Cond.instanceMethod y ∈ zT) (hy : y.name = "<init>") (hc : zCd y cy ml none na) (hM : zM E.2.1 G y cy ml none crm (.ref b :: As) s P mc ms) (hst : stk = As.reverse ++ .ref b :: st) (hna : As.length = na) (hr : zRm crm rm ml mc ms n k st) (kk : ∀ v s2, P v s2 → zW E G nL s2 (n + mc) (k + ms) nx L (v.toList ++ st)) : zW E G nL s n k pc L stk := by
  obtain ⟨p, l, e, R, u, m, args, below, meth, c, Q⟩ := E
  obtain ⟨hx, hb, hml, hown, hts, hK, hN, hlk, hB, rfl⟩ := X
  obtain ⟨d, rfl⟩ := d
  intro H locs ls hH hS hl
  refine zcall (va_runIN (b := b) (n := na) (As := As) (rest := st) (host := host) ⟨hx, hb, hml, hown, hts⟩ hM ⟨va_cnB na hts (zgood hc.1) rfl hr.1.1 hr.1.2 (hN.1 _ lk) (hts _ hini) ⟨hc.2.1.1, hc.2.1.2, hc.2.2.1⟩ hr.2.1, hy, hts _ hinst⟩ ⟨zI.blind, fun U hU hW => ⟨rfl, zI.warm (by rw [hU]; exact hH) hK hN hW⟩⟩ rfl hna (hl.1.trans rfl) hst (lv_room hr.2.2.2) d hr.2.2.1) hS (fun v s2 hp H1 locs1 hH1 hS1 => kk v s2 hp H1 locs1 ls hH1 hS1 hl)
theorem r_callSN {i na ml : Nat} {y : MethodName} {host : String} {cy : ByteArray} {crm : Room} {stk As : List Value} (X : zX E G cc nL own rm) (d : zd cc pc (.invokestatic i) 3 nx) (lk : (own, i, y, host) ∈ zNest) (hini : Cond.initialized y.cls ∈ zT) (hstat : Cond.static y ∈ zT) (hc : zCd y cy ml ret na) (hM : zM E.2.1 G y cy ml ret crm As s P mc ms) (hst : stk = As.reverse ++ st) (hna : As.length = na) (hr : zRm crm rm ml mc ms n k st) (kk : ∀ v s2, P v s2 → zW E G nL s2 (n + mc) (k + ms) nx L (v.toList ++ st)) : zW E G nL s n k pc L stk := by
  obtain ⟨p, l, e, R, u, m, args, below, meth, c, Q⟩ := E
  obtain ⟨hx, hb, hml, hown, hts, hK, hN, hlk, hB, rfl⟩ := X
  obtain ⟨d, rfl⟩ := d
  intro H locs ls hH hS hl
  refine zcall (va_runSN (n := na) (As := As) (rest := st) (host := host) ⟨hx, hb, hml, hown, hts⟩ hM ⟨va_cnB na hts (zgood hc.1) rfl hr.1.1 hr.1.2 (hN.1 _ lk) (hts _ hini) ⟨hc.2.1.1, hc.2.1.2, hc.2.2.1⟩ hr.2.1, hts _ hstat, trivial⟩ ⟨zI.blind, fun U hU hW => ⟨rfl, zI.warm (by rw [hU]; exact hH) hK hN hW⟩⟩ rfl hna (hl.1.trans rfl) hst (lv_room hr.2.2.2) d hr.2.2.1) hS (fun v s2 hp H1 locs1 hH1 hS1 => kk v s2 hp H1 locs1 ls hH1 hS1 hl)
theorem r_objInit {i a : Nat} (X : zX E G cc nL own rm) (d : zd cc pc (.invokespecial i) 3 nx) (lk : Cond.methodLink own i objectInit ∈ zT) (hf : 1 ≤ rm.frames) (hr : (st.map fun v => v.category).sum + 12 ≤ rm.locals) (kk : zW E G nL s n k nx L st) : zW E G nL s n k pc L (.ref a :: st) := by
  obtain ⟨p, l, e, R, u, m, args, below, meth, c, Q⟩ := E
  obtain ⟨hx, hb, hml, hown, hts, hK, hN, hlk, hB, rfl⟩ := X
  obtain ⟨d, rfl⟩ := d
  intro H locs ls hH hS hl
  exact W.objInit hx hb hown (hts _ lk) (hts _ zobI) (hts _ zobC) rfl (by rw [hml]; exact hl.1) rfl d hf (by show 2 * 0 + _ + 12 ≤ _; omega) (kk H locs ls hH hS hl)
end ZC
