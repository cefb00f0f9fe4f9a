/-! ROWS that touch the store -/
theorem zc_obj {G : zG} {z : Nat} {τ : Nat → Option (Nat × Nat)} {ρ : Nat → Nat → Option Nat} {ι : Nat → Nat → Int32} {κ : Nat → Nat → Int64} {a t N : Nat} (h : τ a = some (t, N)) (ht : t < 13) : zc G (z, τ, ρ, ι, κ) a = .inr (t, zfs t (ρ a) (ι a) (κ a)) := by
  simp only [zc, h, if_pos ht]
theorem zc_int {G : zG} {z : Nat} {τ : Nat → Option (Nat × Nat)} {ρ : Nat → Nat → Option Nat} {ι : Nat → Nat → Int32} {κ : Nat → Nat → Int64} {a N : Nat} (h : τ a = some (13, N)) : zc G (z, τ, ρ, ι, κ) a = .inl (G.2.1 0, N, .inl (ι a)) := by
  simp [zc, h]
theorem zc_long {G : zG} {z : Nat} {τ : Nat → Option (Nat × Nat)} {ρ : Nat → Nat → Option Nat} {ι : Nat → Nat → Int32} {κ : Nat → Nat → Int64} {a N : Nat} (h : τ a = some (14, N)) : zc G (z, τ, ρ, ι, κ) a = .inl (G.2.1 1, N, .inr (.inl (κ a))) := by
  simp [zc, h]
theorem zc_bool {G : zG} {z : Nat} {τ : Nat → Option (Nat × Nat)} {ρ : Nat → Nat → Option Nat} {ι : Nat → Nat → Int32} {κ : Nat → Nat → Int64} {a N : Nat} (h : τ a = some (15, N)) : zc G (z, τ, ρ, ι, κ) a = .inl (G.2.1 2, N, .inl (ι a)) := by
  simp [zc, h]
theorem zc_ref {G : zG} {z : Nat} {τ : Nat → Option (Nat × Nat)} {ρ : Nat → Nat → Option Nat} {ι : Nat → Nat → Int32} {κ : Nat → Nat → Int64} {a t N : Nat} (h : τ a = some (t, N)) (ht : 16 ≤ t ∧ t ≤ 18) : zc G (z, τ, ρ, ι, κ) a = .inl (G.2.1 (t - 13), N, .inr (.inr (.inr (.inr (ρ a))))) := by
  simp only [zc, h]
  rw [if_neg (by omega), if_neg (by omega), if_neg (by omega), if_neg (by omega), if_neg (by omega)]
/-- an array that nothing writes any more -/
theorem zc_frz {G : zG} {z : Nat} {τ : Nat → Option (Nat × Nat)} {ρ : Nat → Nat → Option Nat} {ι : Nat → Nat → Int32} {κ : Nat → Nat → Int64} {a f N : Nat} (h : τ a = some (1000 + f, N)) : zc G (z, τ, ρ, ι, κ) a = .inl (G.2.1 1, N, .inr (.inl (zFz f))) := by
  simp only [zc, h]
  rw [if_neg (by omega), if_neg (by omega), if_neg (by omega), if_neg (by omega), if_pos (by omega), show 1000 + f - 1000 = f by omega]
theorem zfs_get {t k : Nat} {r : Nat → Option Nat} {i : Nat → Int32} {j : Nat → Int64} (hk : k < zn t) : (zfs t r i j)[k]? = some (zv (zkd t k) (r k) (i k) (j k)) := by
  simp [zfs, List.getElem?_map, List.getElem?_range hk]
theorem zfs_len {t : Nat} {r : Nat → Option Nat} {i : Nat → Int32} {j : Nat → Int64} : (zfs t r i j).length = zn t := by simp [zfs]
theorem zfs_set {t k : Nat} {r r2 : Nat → Option Nat} {i i2 : Nat → Int32} {j j2 : Nat → Int64} {v : Value} (hv : zv (zkd t k) (r2 k) (i2 k) (j2 k) = v) (ho : ∀ q, q ≠ k → r2 q = r q ∧ i2 q = i q ∧ j2 q = j q) : zfs t r2 i2 j2 = (zfs t r i j).set k v := by
  apply List.ext_getElem?
  intro q
  by_cases hq : q < zn t
  · by_cases e : q = k
    · subst e
      rw [zfs_get hq, List.getElem?_set_self (by rw [zfs_len]; exact hq), hv]
    · rw [zfs_get hq, List.getElem?_set_ne (Ne.symm e), zfs_get hq, (ho q e).1, (ho q e).2.1, (ho q e).2.2]
  · rw [List.getElem?_eq_none (by rw [zfs_len]; omega), List.getElem?_eq_none (by rw [List.length_set, zfs_len]; omega)]
theorem zsing {D : va_G} {cl : List vw_C} {q : Nat × va_E} {H : Heap} (h : va_at D cl q H) : va_P D cl [q] H := fun k x hx => by
  have hk : k < 1 := (List.getElem?_eq_some_iff.mp hx).1
  rw [show k = 0 by omega] at hx
  cases hx
  exact h
/-- one cell of the store is another -/
def zUp (G : zG) (s s2 : zS) (a : Nat) (e : va_E) : Prop := s2.1 = s.1 ∧ s2.2.1 = s.2.1 ∧ (∀ b, b ≠ a → zc G s2 b = zc G s b ∧ s2.2.2.1 b = s.2.2.1 b ∧ s2.2.2.2.1 b = s.2.2.2.1 b ∧ s2.2.2.2.2 b = s.2.2.2.2 b) ∧ zc G s2 a = e
theorem zH_lt {G : zG} {s : zS} {H : Heap} {a : Nat} (hH : zH G s H) (ha : s.2.1 a ≠ none) : a < s.1 := by
  have := (hH.2.2.1 a ha).2.lt
  rw [← hH.1]; exact this
theorem zH_up {G : zG} {s s2 : zS} {H H1 : Heap} {a : Nat} {e : va_E} (hH : zH G s H) (ha : s.2.1 a ≠ none) (hu : zUp G s s2 a e) (hat : va_at G.1 vwCl (a, e) H1) (hz : H1.size = H.size) (oq : ∀ q : Nat, q ≠ a → H1[q]? = H[q]?) : zH G s2 H1 := by
  obtain ⟨u1, u2, u3, u4⟩ := hu
  have hlt := zH_lt hH ha
  refine ⟨by rw [hz, hH.1, u1], by rw [u1]; exact hH.2.1, fun b hb => ?_, fun b hb => ?_⟩
  · rw [u2] at hb
    refine ⟨(hH.2.2.1 b hb).1, ?_⟩
    by_cases e2 : b = a
    · subst e2
      rw [u4]; exact hat
    · rw [(u3 b e2).1]
      exact (hH.2.2.1 b hb).2.kept (oq b e2)
  · rw [u1] at hb
    have e2 : b ≠ a := by omega
    have h := hH.2.2.2 b hb
    exact ⟨by rw [u2]; exact h.1, by rw [(u3 b e2).2.1]; exact h.2.1, by rw [(u3 b e2).2.2.1]; exact h.2.2.1, by rw [(u3 b e2).2.2.2]; exact h.2.2.2⟩
theorem zc_congr {G : zG} {z : Nat} {τ : Nat → Option (Nat × Nat)} {ρ ρ2 : Nat → Nat → Option Nat} {ι ι2 : Nat → Nat → Int32} {κ κ2 : Nat → Nat → Int64} {b : Nat} (h1 : ρ2 b = ρ b) (h2 : ι2 b = ι b) (h3 : κ2 b = κ b) : zc G (z, τ, ρ2, ι2, κ2) b = zc G (z, τ, ρ, ι, κ) b := by
  simp only [zc, h1, h2, h3]
section ZH
variable {E : zE} {G : zG} {cc : ByteArray} {nL : Nat} {own : String} {rm : Room} {n k pc nx : Nat} {L : List (Nat × Value)} {st : List Value} {z : Nat} {τ : Nat → Option (Nat × Nat)} {ρ : Nat → Nat → Option Nat} {ι : Nat → Nat → Int32} {κ : Nat → Nat → Int64} {a t N i j : Nat}
theorem zUp_I {v : Int32} (hτ : τ a = some (t, N)) (ht : t < 13) (hk : zkd t j = 0) : zUp G (z, τ, ρ, ι, κ) (z, τ, ρ, zu ι a j v, κ) a (.inr (t, (zfs t (ρ a) (ι a) (κ a)).set j (.int v))) :=
  ⟨rfl, rfl, fun b hb => ⟨zc_congr rfl (zu_r hb) rfl, rfl, zu_r hb, rfl⟩, by
    rw [zc_obj hτ ht]
    exact congrArg (fun x => Sum.inr (t, x)) (zfs_set (by rw [hk]; exact congrArg Value.int zu_s) (fun q hq => ⟨rfl, zu_k hq, rfl⟩))⟩
theorem zUp_J {v : Int64} (hτ : τ a = some (t, N)) (ht : t < 13) (hk : zkd t j = 1) : zUp G (z, τ, ρ, ι, κ) (z, τ, ρ, ι, zu κ a j v) a (.inr (t, (zfs t (ρ a) (ι a) (κ a)).set j (.long v))) :=
  ⟨rfl, rfl, fun b hb => ⟨zc_congr rfl rfl (zu_r hb), rfl, rfl, zu_r hb⟩, by
    rw [zc_obj hτ ht]
    exact congrArg (fun x => Sum.inr (t, x)) (zfs_set (by rw [hk]; exact congrArg Value.long zu_s) (fun q hq => ⟨rfl, rfl, zu_k hq⟩))⟩
theorem zUp_R {v : Option Nat} (hτ : τ a = some (t, N)) (ht : t < 13) (hk : zkd t j = 2) : zUp G (z, τ, ρ, ι, κ) (z, τ, zu ρ a j v, ι, κ) a (.inr (t, (zfs t (ρ a) (ι a) (κ a)).set j (va_rf v))) :=
  ⟨rfl, rfl, fun b hb => ⟨zc_congr (zu_r hb) rfl rfl, zu_r hb, rfl, rfl⟩, by
    rw [zc_obj hτ ht]
    exact congrArg (fun x => Sum.inr (t, x)) (zfs_set (by rw [hk]; exact congrArg va_rf zu_s) (fun q hq => ⟨zu_k hq, rfl, rfl⟩))⟩
theorem zgetG (X : zX E G cc nL own rm) {kd : Nat} {v : Value} (d : zd cc pc (.getfield i) 3 nx) (f : zF own i t j kd) (hτ : τ a = some (t, N)) (hv : zv kd (ρ a j) (ι a j) (κ a j) = v) (kk : zW E G nL (z, τ, ρ, ι, κ) n k nx L (v :: st)) : zW E G nL (z, τ, ρ, ι, κ) n k pc L (.ref a :: st) := by
  obtain ⟨p, l, e, R, u, m, args, below, meth, c, Q⟩ := E
  obtain ⟨hx, hb, hml, hown, hts, hK, hN, hlk, hB, rfl⟩ := X
  obtain ⟨d, rfl⟩ := d
  obtain ⟨ht, ⟨c1, c2, c3, c4, c5⟩, hk, hkd, hlink⟩ := f
  intro H locs ls hH hS hl
  have hat := (hH.2.2.1 a (show τ a ≠ none by rw [hτ]; simp)).2
  rw [zc_obj hτ ht] at hat
  refine va_get (D := G.1) (cl := vwCl) (C := (zr t).1) (T := (zr t).2.1) (N := (zr t).2.2) hx hb hts c5 hown hK (zsing hat) 0 rfl c1 j hk (hts _ hlink) (fun _ h => h) (v := v) ?_ d (kk H locs ls hH hS hl)
  rw [zfs_get (by rw [c2]; exact hk), hkd, hv]
theorem r_getI (X : zX E G cc nL own rm) (d : zd cc pc (.getfield i) 3 nx) (f : zF own i t j 0) (hτ : τ a = some (t, N)) (kk : zW E G nL (z, τ, ρ, ι, κ) n k nx L (.int (ι a j) :: st)) : zW E G nL (z, τ, ρ, ι, κ) n k pc L (.ref a :: st) := zgetG X d f hτ rfl kk
theorem r_getJ (X : zX E G cc nL own rm) (d : zd cc pc (.getfield i) 3 nx) (f : zF own i t j 1) (hτ : τ a = some (t, N)) (kk : zW E G nL (z, τ, ρ, ι, κ) n k nx L (.long (κ a j) :: st)) : zW E G nL (z, τ, ρ, ι, κ) n k pc L (.ref a :: st) := zgetG X d f hτ rfl kk
theorem r_getR (X : zX E G cc nL own rm) {b : Nat} (d : zd cc pc (.getfield i) 3 nx) (f : zF own i t j 2) (hτ : τ a = some (t, N)) (hρ : ρ a j = some b) (kk : zW E G nL (z, τ, ρ, ι, κ) n k nx L (.ref b :: st)) : zW E G nL (z, τ, ρ, ι, κ) n k pc L (.ref a :: st) := zgetG X d f hτ (by rw [hρ]; rfl) kk
theorem zputG (X : zX E G cc nL own rm) {kd : Nat} {v : Value} {s2 : zS} (d : zd cc pc (.putfield i) 3 nx) (f : zF own i t j kd) (hτ : τ a = some (t, N)) (hfin : ((zr t).2.1 j).2.2.2 = false) (hn : narrow (zty t j) v = v) (hfit : fits (zty t j) v = true) (hu : zUp G (z, τ, ρ, ι, κ) s2 a (.inr (t, (zfs t (ρ a) (ι a) (κ a)).set j v))) (kk : zW E G nL s2 n k nx L st) : zW E G nL (z, τ, ρ, ι, κ) n k pc L (v :: .ref a :: st) := by
  obtain ⟨p, l, e, R, u, m, args, below, meth, c, Q⟩ := E
  obtain ⟨hx, hb, hml, hown, hts, hK, hN, hlk, hB, rfl⟩ := X
  obtain ⟨d, rfl⟩ := d
  obtain ⟨ht, ⟨c1, c2, c3, c4, c5⟩, hk, hkd, hlink⟩ := f
  intro H locs ls hH hS hl
  have ha : τ a ≠ none := by rw [hτ]; simp
  obtain ⟨hA, hat⟩ := hH.2.2.1 a ha
  rw [zc_obj hτ ht] at hat
  have hap := va_apart (own := own) (C := (zr t).1) (T := (zr t).2.1) (N := (zr t).2.2) hts c5 (zty t) c3 c4 hK c1
  obtain ⟨r, h1, cell, q1, q2, q3, q4⟩ := hat
  obtain rfl : r = zr t := Option.some.inj (h1.symm.trans c1)
  obtain ⟨hSl, hfc, kC, hkC, hkind⟩ := hK.1 t _ c1
  obtain ⟨cf, kf, fi, f2, hi, hsl⟩ := hSl j hk
  have hlay := hts _ (c5 _ (u_in_lay hk))
  unfold u_lay at hlay
  rw [if_neg (by rw [hfin]; decide)] at hlay
  have hst := (u_facts hfc hkC (u_lays hts c5 hk) hi).1
  have h6 := u_store hfc hkC hkind hlay hi (c3 j hk) hn hfit
  refine W.putK hx hb (f := f2) ⟨hown, hts _ hlink, ⟨_, _, _, hi⟩, hst⟩ (by rw [q2]; exact h6) q1 q3 (by rw [hsl]; exact k2_hasslot (q4 j hk)) rfl rfl d fun H' e1 e2 e3 => ?_
  rw [hsl] at e1 ⊢
  exact kk H' _ ls (zH_up hH ha hu ⟨_, c1, t_OB.to (V := updV (vp_V (zfs t (ρ a) (ι a) (κ a))) j v) ⟨_, e1, q2, q3, t_set q4 hap hk v⟩ (fun q _ => vp_updV_set (by rw [zfs_len, c2]; exact hk) v q)⟩ e2 e3) (hS.put e2 e3 hA) hl
theorem r_putI (X : zX E G cc nL own rm) {v : Int32} (d : zd cc pc (.putfield i) 3 nx) (f : zF own i t j 0) (hτ : τ a = some (t, N)) (hfin : ((zr t).2.1 j).2.2.2 = false) (hty : zty t j = .int) (kk : zW E G nL (z, τ, ρ, zu ι a j v, κ) n k nx L st) : zW E G nL (z, τ, ρ, ι, κ) n k pc L (.int v :: .ref a :: st) :=
  zputG X d f hτ hfin (by rw [hty]; rfl) (by rw [hty]; rfl) (zUp_I hτ f.1 f.2.2.2.1) kk
theorem r_putJ (X : zX E G cc nL own rm) {v : Int64} (d : zd cc pc (.putfield i) 3 nx) (f : zF own i t j 1) (hτ : τ a = some (t, N)) (hfin : ((zr t).2.1 j).2.2.2 = false) (hty : zty t j = .long) (kk : zW E G nL (z, τ, ρ, ι, zu κ a j v) n k nx L st) : zW E G nL (z, τ, ρ, ι, κ) n k pc L (.long v :: .ref a :: st) :=
  zputG X d f hτ hfin (by rw [hty]; rfl) (by rw [hty]; rfl) (zUp_J hτ f.1 f.2.2.2.1) kk
theorem zputF (X : zX E G cc nL own rm) {P : Option Value → zS → Prop} {mc ms : Nat} {ret : Option FieldType} (hin : E.2.2.2.2.2.2.2.2.1.name = "<init>") {kd : Nat} {v : Value} {s2 : zS} (d : zd cc pc (.putfield i) 3 nx) (f : zF own i t j kd) (hτ : τ a = some (t, N)) (hfin : ((zr t).2.1 j).2.2.2 = true) (hdecl : ((zr t).2.1 j).1 = own) (hn : narrow (zty t j) v = v) (hfit : fits (zty t j) v = true) (hu : zUp G (z, τ, ρ, ι, κ) s2 a (.inr (t, (zfs t (ρ a) (ι a) (κ a)).set j v))) (kk : zW E G nL s2 n k nx L st) : zW E G nL (z, τ, ρ, ι, κ) n k pc L (v :: .ref a :: st) := by
  obtain ⟨p, l, e, R, u, m, args, below, meth, c, Q⟩ := E
  obtain ⟨hx, hb, hml, hown, hts, hK, hN, hlk, hB, rfl⟩ := X
  obtain ⟨d, rfl⟩ := d
  obtain ⟨ht, ⟨c1, c2, c3, c4, c5⟩, hk, hkd, hlink⟩ := f
  intro H locs ls hH hS hl
  have ha : τ a ≠ none := by rw [hτ]; simp
  obtain ⟨hA, hat⟩ := hH.2.2.1 a ha
  rw [zc_obj hτ ht] at hat
  have hap := va_apart (own := own) (C := (zr t).1) (T := (zr t).2.1) (N := (zr t).2.2) hts c5 (zty t) c3 c4 hK c1
  obtain ⟨r, h1, cell, q1, q2, q3, q4⟩ := hat
  obtain rfl : r = zr t := Option.some.inj (h1.symm.trans c1)
  obtain ⟨hSl, hfc, kC, hkC, hkind⟩ := hK.1 t _ c1
  obtain ⟨cf, kf, fi, f2, hi, hsl⟩ := hSl j hk
  have hlay := hts _ (c5 _ (u_in_lay hk))
  unfold u_lay at hlay
  rw [if_pos hfin] at hlay
  have hst := (u_facts hfc hkC (u_lays hts c5 hk) hi).1
  have hcf : m.cls = cf := by
    obtain ⟨_, _, c', _, _, _, -, -, hf', -, -, -, hown2, -⟩ := Cond.laysFinal_spec hlay
    have e1 : c' = cf := by have := hi.symm.trans hf'; simp at this; exact this.1.symm
    rw [hdecl] at hown2
    rw [← e1]; exact Option.some.inj (hown.symm.trans hown2)
  have h6 := u_fits hfc hkC hkind (Or.inr hlay) hi (c3 j hk) hn hfit
  refine W.putFinK hx hb hown (hts _ hlink) hi hst hcf hin (by rw [q2]; exact h6) q1 q3 (by rw [hsl]; exact k2_hasslot (q4 j hk)) rfl rfl d fun H' e1 e2 e3 => ?_
  rw [hsl] at e1 ⊢
  exact kk H' _ ls (zH_up hH ha hu ⟨_, c1, t_OB.to (V := updV (vp_V (zfs t (ρ a) (ι a) (κ a))) j v) ⟨_, e1, q2, q3, t_set q4 hap hk v⟩ (fun q _ => vp_updV_set (by rw [zfs_len, c2]; exact hk) v q)⟩ e2 e3) (hS.put e2 e3 hA) hl
theorem r_putFR (X : zX E G cc nL own rm) (hin : E.2.2.2.2.2.2.2.2.1.name = "<init>") {v : Nat} (d : zd cc pc (.putfield i) 3 nx) (f : zF own i t j 2) (hτ : τ a = some (t, N)) (hfin : ((zr t).2.1 j).2.2.2 = true) (hdecl : ((zr t).2.1 j).1 = own) (hn : narrow (zty t j) (.ref v) = .ref v) (hfit : fits (zty t j) (.ref v) = true) (kk : zW E G nL (z, τ, zu ρ a j (some v), ι, κ) n k nx L st) : zW E G nL (z, τ, ρ, ι, κ) n k pc L (.ref v :: .ref a :: st) :=
  zputF (P := fun _ _ => True) (mc := 0) (ms := 0) (ret := none) X hin d f hτ hfin hdecl hn hfit (zUp_R hτ f.1 f.2.2.2.1) kk
theorem r_putFI (X : zX E G cc nL own rm) (hin : E.2.2.2.2.2.2.2.2.1.name = "<init>") {v : Int32} (d : zd cc pc (.putfield i) 3 nx) (f : zF own i t j 0) (hτ : τ a = some (t, N)) (hfin : ((zr t).2.1 j).2.2.2 = true) (hdecl : ((zr t).2.1 j).1 = own) (hn : narrow (zty t j) (.int v) = .int v) (hfit : fits (zty t j) (.int v) = true) (kk : zW E G nL (z, τ, ρ, zu ι a j v, κ) n k nx L st) : zW E G nL (z, τ, ρ, ι, κ) n k pc L (.int v :: .ref a :: st) :=
  zputF (P := fun _ _ => True) (mc := 0) (ms := 0) (ret := none) X hin d f hτ hfin hdecl hn hfit (zUp_I hτ f.1 f.2.2.2.1) kk
end ZH
