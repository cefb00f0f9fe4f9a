/-! ROWS: new cells -/
def zp (τ : Nat → Option (Nat × Nat)) (z : Nat) (v : Nat × Nat) : Nat → Option (Nat × Nat) := fun a => if a = z then some v else τ a
theorem zp_s {τ : Nat → Option (Nat × Nat)} {z : Nat} {v : Nat × Nat} : zp τ z v z = some v := if_pos rfl
theorem zp_o {τ : Nat → Option (Nat × Nat)} {z a : Nat} {v : Nat × Nat} (h : a ≠ z) : zp τ z v a = τ a := if_neg h
section ZN
variable {E : zE} {G : zG} {cc : ByteArray} {nL : Nat} {own : String} {rm : Room} {n k pc nx : Nat} {L : List (Nat × Value)} {st : List Value} {z : Nat} {τ : Nat → Option (Nat × Nat)} {ρ : Nat → Nat → Option Nat} {ι : Nat → Nat → Int32} {κ : Nat → Nat → Int64} {t N i : Nat}
theorem zH_new {H H1 : Heap} (hH : zH G (z, τ, ρ, ι, κ) H) (e : va_at G.1 vwCl (z, zc G (z + 1, zp τ z (t, N), ρ, ι, κ) z) H1) (z1 : H1.size = z + 1) (o1 : ∀ q : Nat, q < z → H1[q]? = H[q]?) : zH G (z + 1, zp τ z (t, N), ρ, ι, κ) H1 := by
  have hB : G.2.2 ≤ z := hH.2.1
  refine ⟨z1, Nat.le_succ_of_le hB, fun a ha => ?_, fun a ha => ?_⟩
  · by_cases q : a = z
    · subst q; exact ⟨hB, e⟩
    · have ha2 : τ a ≠ none := by rw [← zp_o (τ := τ) (v := (t, N)) q]; exact ha
      have hlt := zH_lt hH ha2
      obtain ⟨h1, h2⟩ := hH.2.2.1 a ha2
      refine ⟨h1, ?_⟩
      have ec : zc G (z + 1, zp τ z (t, N), ρ, ι, κ) a = zc G (z, τ, ρ, ι, κ) a := by simp only [zc, zp_o q]
      rw [ec]; exact h2.kept (o1 a hlt)
  · have ha' : z + 1 ≤ a := ha
    have h := hH.2.2.2 a (show z ≤ a by omega)
    exact ⟨(zp_o (by omega)).trans h.1, h.2⟩
theorem r_new (X : zX E G cc nL own rm) (N : Nat) (d : zd cc pc (.new i) 3 nx) (hc : zCl t) (ht : t < 13) (hl0 : Cond.classLink own i (zr t).1 ∈ zT) (his : Cond.instantiable (zr t).1 (zr t).2.2 ∈ zT) (hini : Cond.initialized (zr t).1 ∈ zT) (hd : ∀ j, j < zn t → defaultValue (zty t j) = zv (zkd t j) none 0 0) (hn : n + 1 ≤ rm.cells) (hk : k + zn t ≤ rm.slots)
    (kk : (∀ j, ρ z j = none ∧ ι z j = 0 ∧ κ z j = 0) → zW E G nL (z + 1, zp τ z (t, N), ρ, ι, κ) (n + 1) (k + zn t) nx L (.ref z :: st)) : zW E G nL (z, τ, ρ, ι, κ) n k pc L st := by
  obtain ⟨p, l, e, R, u, m, args, below, meth, c, Q⟩ := E
  obtain ⟨hx, hb, hml, hown, hts, hK, hN, hlk, hB, rfl⟩ := X
  obtain ⟨d, rfl⟩ := d
  obtain ⟨c1, c2, c3, c4, c5⟩ := hc
  intro H locs ls hH hS hl
  have hKn := hK.1 t _ c1
  have hz : H.size = z := hH.1
  have hdf : τ z = none ∧ (ρ z = fun _ => none) ∧ (ι z = fun _ => 0) ∧ (κ z = fun _ => 0) := hH.2.2.2 z (Nat.le_refl _)
  refine W.newcK hx hb hown (hts _ hl0) (hts _ his) (hts _ hini) rfl d hn (by rw [← c2]; exact hk) hKn.2.1 hz fun H1 kC hkC e1 z1 o1 => ?_
  rw [← c2]
  refine kk (fun j => ⟨by rw [hdf.2.1], by rw [hdf.2.2.1], by rw [hdf.2.2.2]⟩) H1 locs ls (zH_new hH ?_ z1 o1) ⟨Nat.le_trans hS.1 (by omega), fun x h1 h2 => (o1 x (by rw [← hz]; exact Nat.lt_of_lt_of_le h1 hS.1)).trans (hS.2.1 x h1 h2), hS.2.2⟩ hl
  rw [zc_obj (zp_s (τ := τ)) ht]
  refine ⟨zr t, c1, (u_born (zty t) hts c5 hKn hkC e1 c3).to fun j hj => ?_⟩
  rw [← c2] at hj
  show _ = (zfs t (ρ z) (ι z) (κ z)).getD j .null
  rw [List.getD_eq_getElem?_getD, zfs_get hj, hdf.2.1, hdf.2.2.1, hdf.2.2.2]
  exact hd j hj
theorem zS_new {u : State} {H H1 : Heap} {locs : List Loc} (hz : H.size = z) (z1 : H1.size = z + 1) (o1 : ∀ q : Nat, q < z → H1[q]? = H[q]?) (hS : va_S (zA G) u.heap H locs) : va_S (zA G) u.heap H1 locs :=
  ⟨Nat.le_trans hS.1 (by omega), fun x h1 h2 => (o1 x (by rw [← hz]; exact Nat.lt_of_lt_of_le h1 hS.1)).trans (hS.2.1 x h1 h2), hS.2.2⟩
theorem r_newI {x : Int32} (X : zX E G cc nL own rm) (d : zd cc pc (.newarray .int) 2 nx) (h0 : ¬ x < 0) (hN : x.toNatClampNeg = N) (hby : N * 4 ≤ 536870912) (hn : n + 1 ≤ rm.cells) (hk : k + N ≤ rm.slots)
    (kk : (∀ j, ρ z j = none ∧ ι z j = 0 ∧ κ z j = 0) → zW E G nL (z + 1, zp τ z (13, N), ρ, ι, κ) (n + 1) (k + N) nx L (.ref z :: st)) : zW E G nL (z, τ, ρ, ι, κ) n k pc L (.int x :: st) := by
  obtain ⟨p, l, e, R, u, m, args, below, meth, c, Q⟩ := E
  obtain ⟨hx, hb, hml, hown, hts, hK, hNs, hlk, hB, rfl⟩ := X
  obtain ⟨d, rfl⟩ := d
  intro H locs ls hH hS hl
  have hz : H.size = z := hH.1
  have hdf : τ z = none ∧ (ρ z = fun _ => none) ∧ (ι z = fun _ => 0) ∧ (κ z = fun _ => 0) := hH.2.2.2 z (Nat.le_refl _)
  refine va_newaK (atype := .int) hx hb (hts _ zar_I) rfl d rfl h0 hN hby hn hk hz fun H1 cA e1 z1 o1 hAr hNm => ?_
  have hc : cA = G.2.1 0 := Option.some.inj (hNm.symm.trans (hK.2 0 _ rfl).2)
  refine kk (fun j => ⟨by rw [hdf.2.1], by rw [hdf.2.2.1], by rw [hdf.2.2.2]⟩) H1 locs ls (zH_new hH ?_ z1 o1) (zS_new hz z1 o1 hS) hl
  rw [zc_int (zp_s (τ := τ))]
  show H1[z]? = some (vp_cell (G.2.1 0) (N, .inl (ι z)))
  rw [e1, hc, hdf.2.2.1]
  rfl
theorem r_newJ {x : Int32} (X : zX E G cc nL own rm) (d : zd cc pc (.newarray .long) 2 nx) (h0 : ¬ x < 0) (hN : x.toNatClampNeg = N) (hby : N * 8 ≤ 536870912) (hn : n + 1 ≤ rm.cells) (hk : k + N ≤ rm.slots)
    (kk : (∀ j, ρ z j = none ∧ ι z j = 0 ∧ κ z j = 0) → zW E G nL (z + 1, zp τ z (14, N), ρ, ι, κ) (n + 1) (k + N) nx L (.ref z :: st)) : zW E G nL (z, τ, ρ, ι, κ) n k pc L (.int x :: st) := by
  obtain ⟨p, l, e, R, u, m, args, below, meth, c, Q⟩ := E
  obtain ⟨hx, hb, hml, hown, hts, hK, hNs, hlk, hB, rfl⟩ := X
  obtain ⟨d, rfl⟩ := d
  intro H locs ls hH hS hl
  have hz : H.size = z := hH.1
  have hdf : τ z = none ∧ (ρ z = fun _ => none) ∧ (ι z = fun _ => 0) ∧ (κ z = fun _ => 0) := hH.2.2.2 z (Nat.le_refl _)
  refine va_newaK (atype := .long) hx hb (hts _ zar_J) rfl d rfl h0 hN hby hn hk hz fun H1 cA e1 z1 o1 hAr hNm => ?_
  have hc : cA = G.2.1 1 := Option.some.inj (hNm.symm.trans (hK.2 1 _ rfl).2)
  refine kk (fun j => ⟨by rw [hdf.2.1], by rw [hdf.2.2.1], by rw [hdf.2.2.2]⟩) H1 locs ls (zH_new hH ?_ z1 o1) (zS_new hz z1 o1 hS) hl
  rw [zc_long (zp_s (τ := τ))]
  show H1[z]? = some (vp_cell (G.2.1 1) (N, .inr (.inl (κ z))))
  rw [e1, hc, hdf.2.2.2]
  rfl
theorem r_newZ {x : Int32} (X : zX E G cc nL own rm) (d : zd cc pc (.newarray .boolean) 2 nx) (h0 : ¬ x < 0) (hN : x.toNatClampNeg = N) (hby : N * 1 ≤ 536870912) (hn : n + 1 ≤ rm.cells) (hk : k + N ≤ rm.slots)
    (kk : (∀ j, ρ z j = none ∧ ι z j = 0 ∧ κ z j = 0) → zW E G nL (z + 1, zp τ z (15, N), ρ, ι, κ) (n + 1) (k + N) nx L (.ref z :: st)) : zW E G nL (z, τ, ρ, ι, κ) n k pc L (.int x :: st) := by
  obtain ⟨p, l, e, R, u, m, args, below, meth, c, Q⟩ := E
  obtain ⟨hx, hb, hml, hown, hts, hK, hNs, hlk, hB, rfl⟩ := X
  obtain ⟨d, rfl⟩ := d
  intro H locs ls hH hS hl
  have hz : H.size = z := hH.1
  have hdf : τ z = none ∧ (ρ z = fun _ => none) ∧ (ι z = fun _ => 0) ∧ (κ z = fun _ => 0) := hH.2.2.2 z (Nat.le_refl _)
  refine va_newaK (atype := .boolean) hx hb (hts _ zar_Z) rfl d rfl h0 hN hby hn hk hz fun H1 cA e1 z1 o1 hAr hNm => ?_
  have hc : cA = G.2.1 2 := Option.some.inj (hNm.symm.trans (hK.2 2 _ rfl).2)
  refine kk (fun j => ⟨by rw [hdf.2.1], by rw [hdf.2.2.1], by rw [hdf.2.2.2]⟩) H1 locs ls (zH_new hH ?_ z1 o1) (zS_new hz z1 o1 hS) hl
  rw [zc_bool (zp_s (τ := τ))]
  show H1[z]? = some (vp_cell (G.2.1 2) (N, .inl (ι z)))
  rw [e1, hc, hdf.2.2.1]
  rfl
theorem zrfs {N : Nat} {r : Nat → Option Nat} (h : r = fun _ => none) (cA : ClassId) : vp_cell cA (N, .inr (.inr (.inr (.inr r)))) = arrV cA N (fun _ => .null) := by
  subst h; rfl
/-- a new array of references to cells of class C: q its place in ztys -/
theorem r_newR {x : Int32} {q : Nat} {C : String} (X : zX E G cc nL own rm) (d : zd cc pc (.anewarray i) 3 nx) (hl0 : Cond.classLink own i C ∈ zT) (hao : ∀ U, zNs U → va_AO C U) (ht : 16 ≤ t ∧ t ≤ 18) (hq : (ztys G)[q]? = some (G.2.1 (t - 13), .object C)) (h0 : ¬ x < 0) (hN : x.toNatClampNeg = N) (hby : N * 4 ≤ 536870912) (hn : n + 1 ≤ rm.cells) (hk : k + N ≤ rm.slots)
    (kk : (∀ j, ρ z j = none ∧ ι z j = 0 ∧ κ z j = 0) → zW E G nL (z + 1, zp τ z (t, N), ρ, ι, κ) (n + 1) (k + N) nx L (.ref z :: st)) : zW E G nL (z, τ, ρ, ι, κ) n k pc L (.int x :: st) := by
  obtain ⟨p, l, e, R, u, m, args, below, meth, c, Q⟩ := E
  obtain ⟨hx, hb, hml, hown, hts, hK, hNs, hlk, hB, rfl⟩ := X
  obtain ⟨d, rfl⟩ := d
  subst hN
  intro H locs ls hH hS hl
  have hz : H.size = z := hH.1
  have hdf : τ z = none ∧ (ρ z = fun _ => none) ∧ (ι z = fun _ => 0) ∧ (κ z = fun _ => 0) := hH.2.2.2 z (Nat.le_refl _)
  refine W.anew hx hb hown (hts _ hl0) (va_AO.use (hao _ hNs)) rfl d rfl h0 hby hn hk fun cA kA comp f1 f2 f3 f4 => ?_
  obtain ⟨kA', comp', g1, g2, g3, g4⟩ := (hK.2 q _ hq).2
  have hc : cA = G.2.1 (t - 13) := Option.some.inj (f1.symm.trans g4)
  generalize hH1 : H.push ({ cls := cA, slots := Array.replicate x.toNatClampNeg .null, vm := .none } : Cell) = H1
  have z1 : H1.size = z + 1 := by rw [← hH1, Array.size_push, hz]
  have e1 : H1[z]? = some (arrV cA x.toNatClampNeg (fun _ => .null)) := by rw [← hH1, ← hz, Array.getElem?_push_size, ← arrV_new]
  have o1 : ∀ q : Nat, q < z → H1[q]? = H[q]? := fun q hq => by rw [← hH1, Array.getElem?_push, if_neg (by rw [hz]; exact Nat.ne_of_lt hq)]
  rw [hz]
  refine kk (fun j => ⟨by rw [hdf.2.1], by rw [hdf.2.2.1], by rw [hdf.2.2.2]⟩) H1 locs ls (zH_new hH ?_ z1 o1) (zS_new hz z1 o1 hS) hl
  rw [zc_ref (zp_s (τ := τ)) ht]
  show H1[z]? = some (vp_cell (G.2.1 (t - 13)) (_, .inr (.inr (.inr (.inr (ρ z))))))
  rw [e1, hc, zrfs hdf.2.1]
end ZN
section ZM
variable {E : CtlPost} {e : Env} {d : Bool} {acts : List Action} {s : State}
theorem zwp_new {c comp : ClassId} {k : Class} {ty : FieldType} {len : Nat} {v : Value} (hk : s.vm.classes[c]? = some k) (hkind : k.kind = .array comp ty) (hv : fits ty v = true) (hd : v.isDefault = true) (hl : ¬ len > e.platform.arrayLengthLimit) (hh : ¬ len * componentBytes ty > e.platform.maxHeapBytes) (h1 : s.heap.size < e.platform.maxCells) (h2 : s.slotsUsed + len ≤ e.platform.maxSlots) {Q : Addr → Pre}
    (hq : Q s.heap.size d acts (s.pushCell { cls := c, slots := Array.replicate len v, vm := .none })) : wp (newArray c len v) Q E e d acts s := by
  have hf : ∀ i w, (Array.replicate len v)[i]? = some w → s.fitsSlot c .none i w = true := by
    intro i w hw
    have hw2 : w = v := by
      rw [Array.getElem?_replicate] at hw
      by_cases q : i < len
      · rw [if_pos q] at hw; exact (Option.some.inj hw).symm
      · rw [if_neg q] at hw; cases hw
    subst hw2
    simp [State.fitsSlot, State.slotType?, hk, hkind, hv]
  have ha : allocActs (Array.replicate len v) s.heap.size acts = acts := by
    unfold allocActs
    rw [if_pos (by rw [Array.all_replicate]; by_cases q : len = 0 <;> simp [q, hd])]
  simp only [newArray, arrayFits, wp_bind', W.ask, W.ite, hl, if_false, wp_pure', W.theClass, hk, hkind, hh, W.alloc, W.stop, Option.some.injEq, exists_eq_left', Array.size_replicate, ha]
  rw [if_neg (by omega)]
  exact ⟨h1, h2, hf, hq⟩
/-- a row of 49 ints -/
theorem zwp_row {cI comp2 : ClassId} {kI : Class} {Q : Addr → Pre} (hkI : s.vm.classes[cI]? = some kI) (hI : kI.kind = .array comp2 .int) (hl : ¬ 49 > e.platform.arrayLengthLimit) (hh : ¬ 49 * 4 > e.platform.maxHeapBytes) (h1 : s.heap.size < e.platform.maxCells) (h2 : s.slotsUsed + 49 ≤ e.platform.maxSlots)
    (hq : Q s.heap.size d acts (s.pushCell { cls := cI, slots := Array.replicate 49 (.int 0), vm := .none })) : wp (multianewarray.make cI [49]) Q E e d acts s := by
  rw [multianewarray.make]
  simp only [wp_bind', W.ite, show ¬ (49 : Int32) < 0 by decide, if_false, wp_pure', W.theClass, hkI, hI, Option.some.injEq, exists_eq_left']
  exact zwp_new hkI hI (by rfl) (by rfl) hl hh h1 h2 hq
end ZM
section ZM2
variable {E : CtlPost} {e : Env} {d : Bool} {acts : List Action} {s : State}
def zO (cA : ClassId) (z : Nat) : Nat → Cell
  | 0 => { cls := cA, slots := Array.replicate 3 .null, vm := .none }
  | i + 1 => (zO cA z i).setSlot i (.ref (z + 1 + i))
def zIc (cI : ClassId) : Cell := { cls := cI, slots := Array.replicate 49 (.int 0), vm := .none }
/-- the heap behind the first i rows -/
def zMs (s : State) (cA cI : ClassId) : Nat → State
  | 0 => s.pushCell (zO cA s.heap.size 0)
  | i + 1 => ((zMs s cA cI i).pushCell (zIc cI)).setCell s.heap.size ((zO cA s.heap.size i).setSlot i (.ref (zMs s cA cI i).heap.size))
theorem zO_at (cA : ClassId) (z i : Nat) : (zO cA z i).cls = cA ∧ (zO cA z i).vm = .none ∧ (zO cA z i).slots.size = 3 := by
  induction i with
  | zero => exact ⟨rfl, rfl, rfl⟩
  | succ i ih => exact ⟨ih.1, ih.2.1, by simp only [zO, Cell.setSlot, Array.size_setIfInBounds]; exact ih.2.2⟩
theorem zMs_at (s : State) (cA cI : ClassId) (i : Nat) : (zMs s cA cI i).heap.size = s.heap.size + 1 + i ∧ (zMs s cA cI i).heap[s.heap.size]? = some (zO cA s.heap.size i) ∧ (zMs s cA cI i).vm = s.vm ∧ (zMs s cA cI i).slotsUsed = s.slotsUsed + 3 + 49 * i := by
  induction i with
  | zero => exact ⟨by simp [zMs], by simp [zMs], rfl, by simp [zMs, zO]⟩
  | succ i ih =>
    obtain ⟨a, b, c, u⟩ := ih
    have hlt : s.heap.size < (zMs s cA cI i).heap.size := by omega
    have hb : ((zMs s cA cI i).pushCell (zIc cI)).heap[s.heap.size]? = some (zO cA s.heap.size i) := by rw [State.heap_pushCell_of_lt (h := hlt)]; exact b
    refine ⟨by simp [zMs, State.setCell, a]; omega, ?_, by simp [zMs, c], by simp [zMs, u, zIc]; omega⟩
    rw [zMs, State.heap_setCell_self hb, zO, a]
theorem zwp_mna {cA cI comp2 : ClassId} {kA kI : Class} {t : FieldType} {Q : Addr → Pre} (hkA : s.vm.classes[cA]? = some kA) (hA : kA.kind = .array cI t) (ht : t.isReference = true) (hkI : s.vm.classes[cI]? = some kI) (hI : kI.kind = .array comp2 .int)
    (hl : ¬ 49 > e.platform.arrayLengthLimit) (hh : ¬ 49 * 4 > e.platform.maxHeapBytes) (hl3 : ¬ 3 > e.platform.arrayLengthLimit) (hh3 : ¬ 3 * componentBytes t > e.platform.maxHeapBytes) (h1 : s.heap.size + 4 ≤ e.platform.maxCells) (h2 : s.slotsUsed + 150 ≤ e.platform.maxSlots)
    (hq : ∀ d' acts', Q s.heap.size d' acts' (zMs s cA cI 3)) : wp (multianewarray.make cA [3, 49]) Q E e d acts s := by
  rw [multianewarray.make]
  simp only [wp_bind', W.ite, show ¬ (3 : Int32) < 0 by decide, if_false, wp_pure', W.theClass, hkA, hA, Option.some.injEq, exists_eq_left']
  have hfn : fits t .null = true := by cases t <;> simp [FieldType.isReference] at ht <;> rfl
  refine zwp_new hkA hA hfn rfl hl3 hh3 (by omega) (by show s.slotsUsed + 3 ≤ _; omega) ?_
  simp only [show ((3 : Int32) == 0) = false from rfl, Bool.false_eq_true, if_false, wp_bind', wp_pure', Std.Legacy.Range.forIn_eq_forIn_range', show ([:(3 : Int32).toNatClampNeg] : Std.Legacy.Range).size = 3 from rfl, List.range'_succ, List.range'_zero, List.forIn_cons, List.forIn_nil]
  have step : ∀ (i : Nat) (d' : Bool) (acts' : List Action) (R : ForInStep PUnit → Pre), i < 3 → (∀ d2 acts2, R (ForInStep.yield PUnit.unit) d2 acts2 (zMs s cA cI (i + 1))) → wp (multianewarray.make cI [49]) (fun a => wp (do writeLoc s.heap.size i (Value.ref a); Pure.pure (ForInStep.yield PUnit.unit)) R E e) E e d' acts' (zMs s cA cI i) := by
    intro i d' acts' R hi hR
    obtain ⟨a1, a2, a3, a4⟩ := zMs_at s cA cI i
    obtain ⟨b1, b2, b3⟩ := zO_at cA s.heap.size i
    refine zwp_row (by rw [a3]; exact hkI) hI hl hh (by rw [a1]; omega) (by rw [a4]; omega) ?_
    have hz : s.heap.size < (zMs s cA cI i).heap.size := by rw [a1]; omega
    simp only [wp_bind', W.writeLoc, wp_pure']
    refine ⟨zO cA s.heap.size i, by rw [State.heap_pushCell_of_lt (h := hz)]; exact a2, by rw [b2]; simp, by rw [b3]; exact hi, ?_, hR _ _⟩
    rw [b1, b2]
    cases t <;> simp [FieldType.isReference] at ht <;> simp [State.fitsSlot, State.slotType?, a3, hkA, hA, fits]
  refine step 0 _ _ _ (by decide) fun d1 acts1 => ?_
  simp only [wp_bind', wp_pure']
  refine step 1 _ _ _ (by decide) fun d1 acts1 => ?_
  simp only [wp_bind', wp_pure']
  refine step 2 _ _ _ (by decide) fun d1 acts1 => ?_
  simp only [wp_bind', wp_pure']
  exact hq _ _
end ZM2
theorem zMs_setTop (s : State) (f : JFrame) (cA cI : ClassId) (i : Nat) : zMs (s.setTop f) cA cI i = (zMs s cA cI i).setTop f := by
  induction i with
  | zero => rfl
  | succ i ih => simp only [zMs, ih, State.heap_setTop, State.pushCell_setTop, State.setCell_setTop]
theorem zMs_old (s : State) (cA cI : ClassId) {a : Nat} (ha : a < s.heap.size) (i : Nat) : (zMs s cA cI i).heap[a]? = s.heap[a]? := by
  induction i with
  | zero => exact State.heap_pushCell_of_lt _ _ ha
  | succ i ih =>
    have h1 := (zMs_at s cA cI i).1
    have h2 : a < (zMs s cA cI i).heap.size := by omega
    rw [zMs, State.heap_setCell_other (Nat.ne_of_gt ha), State.heap_pushCell_of_lt (h := h2)]
    exact ih
theorem zMs_in (s : State) (cA cI : ClassId) (i : Nat) : ∀ j, j < i → (zMs s cA cI i).heap[s.heap.size + 1 + j]? = some (zIc cI) := by
  induction i with
  | zero => intro j h; omega
  | succ i ih =>
    intro j h
    have h1 := (zMs_at s cA cI i).1
    rw [zMs, State.heap_setCell_other (show s.heap.size ≠ s.heap.size + 1 + j by omega)]
    by_cases e : j = i
    · subst e
      rw [← h1]
      exact State.heap_pushCell_size _ _
    · have h2 : s.heap.size + 1 + j < (zMs s cA cI i).heap.size := by omega
      rw [State.heap_pushCell_of_lt (h := h2)]
      exact ih j (by omega)
theorem zMs_X {p : Program} {l : Launch} {e : Env} {R : Room} {s : State} {m : MethodId} {args : Array Value} {below : List Frame} {meth : Method} {c : Code} {T : State} {locs : List Loc} {cells slots : Nat} (X : Stand p l e R s m args below meth c T locs cells slots) (cA cI : ClassId) (i : Nat) :
    ∃ ls : List Loc, (∀ q ∈ ls, q.base = T.heap.size) ∧ Stand p l e R s m args below meth c (zMs T cA cI i) (locs ++ ls) (cells + 1 + i) (slots + 3 + 49 * i) := by
  induction i with
  | zero => exact ⟨[], fun q h => absurd h List.not_mem_nil, by rw [List.append_nil]; exact X.pushed (zO cA T.heap.size 0)⟩
  | succ i ih =>
    obtain ⟨ls, h1, Xi⟩ := ih
    obtain ⟨a1, a2, a3, a4⟩ := zMs_at T cA cI i
    have hz : T.heap.size < (zMs T cA cI i).heap.size := by omega
    have hc : ((zMs T cA cI i).pushCell (zIc cI)).heap[T.heap.size]? = some (zO cA T.heap.size i) := by rw [State.heap_pushCell_of_lt (h := hz)]; exact a2
    have h := (Xi.pushed (zIc cI)).stored hc i (.ref (zMs T cA cI i).heap.size)
    refine ⟨ls ++ [⟨T.heap.size, i⟩], fun q hq => ?_, ?_⟩
    · rcases List.mem_append.mp hq with h2 | h2
      · exact h1 q h2
      · rw [List.mem_singleton.mp h2]
    · rw [← List.append_assoc, show slots + 3 + 49 * (i + 1) = slots + 3 + 49 * i + 49 by omega]
      exact h
theorem zW_mna {p : Program} {l : Launch} {e : Env} {R : Room} {s : State} {m : MethodId} {args : Array Value} {below : List Frame} {meth : Method} {c : Code} {H : Heap} {locs : List Loc} {cells slots : Nat} {Q : State → Prop} {cc : ByteArray} (hexec : p.tables.exec = Jvm.exec) (hb : c.code = cc) {own : String} {index : Nat} (hown : s.vm.findClass own = some m.cls) (hclink : (Cond.classLink own index "[[I").before args s = true)
    {cA cI comp2 : ClassId} {kA kI : Class} (hfA : s.vm.findClass "[[I" = some cA) (hkA : s.vm.classes[cA]? = some kA) (hA : kA.kind = .array cI (.array .int)) (hkI : s.vm.classes[cI]? = some kI) (hI : kI.kind = .array comp2 .int)
    {g : JFrame} (hg : g.method = m) {rest : List Value} (hstack : g.stack = .int 49 :: .int 3 :: rest) (hdg : decode cc g.pc = .ok (.multianewarray index 2, 4)) (hcells : cells + 4 ≤ R.cells) (hslots : slots + 150 ≤ R.slots)
    (kk : ∀ (H' : Heap) (ls : List Loc), H'.size = H.size + 4 → (∀ q, q < H.size → H'[q]? = H[q]?) → H'[H.size]? = some (zO cA H.size 3) → (∀ j, j < 3 → H'[H.size + 1 + j]? = some (zIc cI)) → (∀ q ∈ ls, q.base = H.size) →
      W p l e R s m args below meth c H' (locs ++ ls) (cells + 4) (slots + 150) Q { g with pc := g.pc + 4, stack := .ref H.size :: rest }) : W p l e R s m args below meth c H locs cells slots Q g := by
  intro T hT X
  subst hT; subst hb; subst hg
  have hpl : e.platform.magicAccessors = ({} : Platform).magicAccessors := by rw [X.admits.platform]
  obtain ⟨c0, hfc0, hcl⟩ := Cond.classLink_spec hown hclink e.platform hpl
  cases hfA.symm.trans hfc0
  obtain ⟨hg₁, hwarm₁, hready₁⟩ := State.classEntry (e := e) X.warmed hcl
  generalize T.vm.noted g.method.cls index (.cls cA) = vm₁ at hg₁ hwarm₁ hready₁
  have hal : s.vm.Alike vm₁ := hwarm₁.alike
  obtain ⟨kA₁, hkA₁, heA⟩ := hal.2.2 _ _ hkA
  obtain ⟨kI₁, hkI₁, heI⟩ := hal.2.2 _ _ hkI
  have hA₁ : kA₁.kind = .array cI (.array .int) := by rw [heA]; exact hA
  have hI₁ : kI₁.kind = .array comp2 .int := by rw [heI]; exact hI
  have X₁ := X.noted hwarm₁
  obtain ⟨hr1, hr2⟩ := X.roomAbove hcells hslots
  obtain ⟨ls, hls, X₂⟩ := zMs_X X₁ cA cI 3
  obtain ⟨a1, a2, a3, a4⟩ := zMs_at (T.setVm vm₁) cA cI 3
  obtain ⟨t, st, hq⟩ := kk (zMs (T.setVm vm₁) cA cI 3).heap ls (by rw [a1]; rfl) (fun q h => zMs_old (T.setVm vm₁) cA cI h 3) a2 (zMs_in (T.setVm vm₁) cA cI 3) hls (zMs (T.setVm vm₁) cA cI 3) rfl X₂
  refine ⟨t, ?_, hq⟩
  have hl : ¬ 49 > e.platform.arrayLengthLimit := by rw [Launch.admits_arrayLengthLimit X.admits]; omega
  have hh : ¬ 49 * 4 > e.platform.maxHeapBytes := by rw [Launch.admits_maxHeapBytes X.admits]; omega
  have hl3 : ¬ 3 > e.platform.arrayLengthLimit := by rw [Launch.admits_arrayLengthLimit X.admits]; omega
  have hh3 : ¬ 3 * componentBytes (.array .int) > e.platform.maxHeapBytes := by rw [Launch.admits_maxHeapBytes X.admits]; show ¬ 3 * 4 > 536870912; omega
  jvm_step X.here [hexec, hdg]
  simp only [multianewarray.sem, wp_bind', W.resolveClassAt_links (State.method?_setTop g X.here.top) hg₁]
  rw [W.popN, if_neg (by decide)]
  refine ⟨g, State.topJava?_setTop' (s := T.setVm vm₁) g X.here.top, [.int 3, .int 49], rest, rfl, hstack, ?_⟩
  simp only [List.mapM_cons, List.mapM_nil, wp_bind', wp_pure']
  refine zwp_mna (kA := kA₁) (kI := kI₁) (cI := cI) (comp2 := comp2) (t := .array .int) hkA₁ hA₁ rfl hkI₁ hI₁ hl hh hl3 hh3 (by show T.heap.size + 4 ≤ _; omega) (by show T.slotsUsed + 150 ≤ _; omega) (fun d' acts' => ?_)
  have eS : ((T.setTop g).setVm vm₁).setTop { g with stack := rest } = (T.setVm vm₁).setTop { g with stack := rest } := by
    show ((T.setVm vm₁).setTop g).setTop _ = _
    rw [State.setTop_setTop]
  rw [eS, zMs_setTop]
  simp only [wp_bind', W.mark, W.pushRef, State.topJava?_setTop' _ X₂.here.top, Option.some.injEq, exists_eq_left', State.setTop_setTop, State.heap_setTop]
  intro acts
  simp [jvm, X₂.here.top]
  exact st
theorem zO_arr (cA : ClassId) (z : Nat) : zO cA z 3 = arrV cA 3 (updV (updV (updV (fun _ => .null) 0 (.ref (z + 1 + 0))) 1 (.ref (z + 1 + 1))) 2 (.ref (z + 1 + 2))) := by
  rw [zO, zO, zO, zO, arrV_new, arrV_store, arrV_store, arrV_store]
section ZM3
variable {E : zE} {G : zG} {cc : ByteArray} {nL : Nat} {own : String} {rm : Room} {n k pc nx : Nat} {L : List (Nat × Value)} {st : List Value} {z : Nat} {τ : Nat → Option (Nat × Nat)} {ρ : Nat → Nat → Option Nat} {ι : Nat → Nat → Int32} {κ : Nat → Nat → Int64} {t N i : Nat}
/-- the array of three arrays of 49 ints -/
theorem r_mna (X : zX E G cc nL own rm) (d : zd cc pc (.multianewarray i 2) 4 nx) (hl0 : Cond.classLink own i "[[I" ∈ zT) (hn : n + 4 ≤ rm.cells) (hk : k + 150 ≤ rm.slots)
    (kk : (∀ j q, ρ (z + q) j = none ∧ ι (z + q) j = 0 ∧ κ (z + q) j = 0) → zW E G nL (z + 4, zp (zp (zp (zp τ z (18, 3)) (z + 1) (13, 49)) (z + 2) (13, 49)) (z + 3) (13, 49), zu (zu (zu ρ z 0 (some (z + 1))) z 1 (some (z + 2))) z 2 (some (z + 3)), ι, κ) (n + 4) (k + 150) nx L (.ref z :: st)) : zW E G nL (z, τ, ρ, ι, κ) n k pc L (.int 49 :: .int 3 :: st) := by
  obtain ⟨p, l, e, R, u, m, args, below, meth, c, Q⟩ := E
  obtain ⟨hx, hb, hml, hown, hts, hK, hNs, hlk, hB, rfl⟩ := X
  obtain ⟨d, rfl⟩ := d
  intro H locs ls hH hS hl
  have hz : H.size = z := hH.1
  have hdf : ∀ a : Nat, z ≤ a → τ a = none ∧ (ρ a = fun _ => none) ∧ (ι a = fun _ => 0) ∧ (κ a = fun _ => 0) := hH.2.2.2
  obtain ⟨cA, kA, cI, g1, g2, g3, g4⟩ := hNs.2.2.2
  have hcI : cI = G.2.1 0 := Option.some.inj (g4.symm.trans (hK.2 0 _ rfl).2)
  have hcA : cA = G.2.1 5 := Option.some.inj (g1.symm.trans (hK.2 5 _ rfl).2)
  obtain ⟨-, kI, q1, comp2, q2⟩ := (hK.2 0 _ rfl).1 0 (fun _ => .null)
  have q1' : u.vm.classes[cI]? = some kI := by rw [hcI]; exact q1
  refine zW_mna hx hb hown (hts _ hl0) g1 g2 g3 q1' q2 rfl rfl d hn hk fun H' lc z1 o1 e0 e1 hlc => ?_
  rw [hz] at z1 o1 e0 e1 hlc ⊢
  have r0 := e1 0 (by decide)
  have r1 := e1 1 (by decide)
  have r2 := e1 2 (by decide)
  have row : ∀ a : Nat, z ≤ a → H'[a]? = some (zIc cI) → H'[a]? = some (vp_cell (G.2.1 0) (49, .inl (ι a))) := fun a ha h => by
    rw [h, vp_cell_i, (hdf a ha).2.2.1, ← hcI]
    exact congrArg some (arrV_new cI 49 (.int 0))
  refine kk (fun j q => by rw [(hdf (z + q) (by omega)).2.1, (hdf (z + q) (by omega)).2.2.1, (hdf (z + q) (by omega)).2.2.2]; exact ⟨rfl, rfl, rfl⟩) H' _ ls ⟨z1, Nat.le_trans hH.2.1 (Nat.le_add_right _ _), fun a ha => ?_, fun a ha => ?_⟩ ⟨Nat.le_trans hS.1 (by omega), fun x h1 h2 => (o1 x (by rw [← hz]; exact Nat.lt_of_lt_of_le h1 hS.1)).trans (hS.2.1 x h1 h2), fun q hq => ?_⟩ hl
  · have hB2 : G.2.2 ≤ z := hH.2.1
    by_cases c3 : a = z + 3
    · subst c3
      refine ⟨show G.2.2 ≤ z + 3 by omega, ?_⟩
      rw [zc_int (N := 49) zp_s]
      exact row _ (by omega) r2
    · by_cases c2 : a = z + 2
      · subst c2
        refine ⟨show G.2.2 ≤ z + 2 by omega, ?_⟩
        rw [zc_int (N := 49) ((zp_o c3).trans zp_s)]
        exact row _ (by omega) r1
      · by_cases c1 : a = z + 1
        · subst c1
          refine ⟨show G.2.2 ≤ z + 1 by omega, ?_⟩
          rw [zc_int (N := 49) ((zp_o c3).trans ((zp_o c2).trans zp_s))]
          exact row _ (by omega) r0
        · by_cases c0 : a = z
          · subst c0
            refine ⟨hB2, ?_⟩
            rw [zc_ref (t := 18) (N := 3) ((zp_o c3).trans ((zp_o c2).trans ((zp_o c1).trans zp_s))) (by decide)]
            show H'[a]? = some (vp_cell (G.2.1 5) (3, .inr (.inr (.inr (.inr _)))))
            rw [e0, zO_arr, vp_cell_q, ← hcA]
            congr 2
            funext q
            have h0 := (hdf a (Nat.le_refl a)).2.1
            simp only [updV, zu, h0, va_rf]
            by_cases d2 : q = 2
            · subst d2; simp
            · by_cases d1 : q = 1
              · subst d1; simp
              · by_cases d0 : q = 0
                · subst d0; simp
                · simp [d0, d1, d2]
          · have ha2 : τ a ≠ none := by
              have h := ha
              rw [show (z + 4, zp (zp (zp (zp τ z (18, 3)) (z + 1) (13, 49)) (z + 2) (13, 49)) (z + 3) (13, 49), zu (zu (zu ρ z 0 (some (z + 1))) z 1 (some (z + 2))) z 2 (some (z + 3)), ι, κ).2.1 a = τ a from (zp_o c3).trans ((zp_o c2).trans ((zp_o c1).trans (zp_o c0)))] at h
              exact h
            have hlt := zH_lt hH ha2
            obtain ⟨w1, w2⟩ := hH.2.2.1 a ha2
            refine ⟨w1, ?_⟩
            have ec : zc G (z + 4, zp (zp (zp (zp τ z (18, 3)) (z + 1) (13, 49)) (z + 2) (13, 49)) (z + 3) (13, 49), zu (zu (zu ρ z 0 (some (z + 1))) z 1 (some (z + 2))) z 2 (some (z + 3)), ι, κ) a = zc G (z, τ, ρ, ι, κ) a := by
              simp only [zc, zp_o c3, zp_o c2, zp_o c1, zp_o c0, zu_r c0]
            rw [ec]
            exact w2.kept (o1 a hlt)
  · have ha' : z + 4 ≤ a := ha
    have h := hdf a (by omega)
    refine ⟨(zp_o (by omega)).trans ((zp_o (by omega)).trans ((zp_o (by omega)).trans ((zp_o (by omega)).trans h.1))), ?_, h.2.2.1, h.2.2.2⟩
    show zu (zu (zu ρ z 0 (some (z + 1))) z 1 (some (z + 2))) z 2 (some (z + 3)) a = _
    rw [zu_r (by omega), zu_r (by omega), zu_r (by omega)]
    exact h.2.1
  · rcases List.mem_append.mp hq with h | h
    · exact hS.2.2 q h
    · show G.2.2 ≤ q.base
      rw [hlc q h]
      exact hH.2.1
end ZM3
theorem zMet_ofI {l : Launch} {y : MethodName} {ws ws' : List Cond} {rm : Room} {Pc : Array Value → State → Prop} {Qc : Array Value → State → Outcome → State → Prop} {mc ms : Nat} {free : Addr → Prop} {cc : ByteArray} {maxL : Nat} {ret : Option FieldType}
    (hy : plainFor y = true) (hw : ws = Cond.code y cc maxL ret :: ws')
    (body : ∀ p e s m args below meth c s₁, BodyLoose p l y (headSpec ws rm) cc maxL ret e s m args below meth c s₁ → c.maxLocals = maxL → Pc args s → meth.name = y.name →
      W p l e (headSpec ws rm).room s m args below meth c s.heap [] 0 0 (MQ below Qc args s mc ms free) (entryFrame m args maxL)) : Met l y ws rm Pc Qc mc ms free :=
  zMet_of hy hw fun p e s m args below meth c s₁ B hml hP => body p e s m args below meth c s₁ B hml hP (name_of_methodNamed B.named B.method).1
theorem zM_ofI {l : Launch} {G : zG} {y : MethodName} {cc : ByteArray} {maxL na : Nat} {ret : Option FieldType} {rm : Room} {av : List Value} {s : zS} {P : Option Value → zS → Prop} {mc ms : Nat} (hc : zCd y cc maxL ret na) (hn : (lg_sl av).length ≤ maxL) (hnm : y.name = "<init>")
    (body : ∀ E : zE, zX E G cc maxL y.cls rm → zR E G P mc ms ret → E.2.1 = l → E.2.2.2.2.2.2.2.2.1.name = "<init>" → zW E G maxL s 0 0 0 (lv_args 0 av) []) : zM l G y cc maxL ret rm av s P mc ms := by
  refine zMet_ofI (cc := cc) (maxL := maxL) (ret := ret) hc.2.2.2 rfl ?_
  intro p e u m args below meth c s₁ B hml hv hin
  obtain ⟨rfl, hH, hK, hN⟩ := hv
  have hl := lv_entry av (n := maxL) hn
  rw [lg_entry_eq]
  exact body (p, l, e, (headSpec (Cond.code y cc maxL ret :: zT) rm).room, u, m, av.toArray, below, meth, c, MQ below (zQ G P) av.toArray u mc ms (zA G)) ⟨B.exec, B.bytes, hml, findClass_of_methodNamed B.named, fun w hw => atoms_spec B.pre w (List.mem_cons_of_mem _ hw), hK, hN, B.notSynchronized, by rw [hH.1]; exact hH.2.1, rfl⟩ ⟨rfl, B.returns⟩ rfl (hin.trans hnm) u.heap [] _ hH va_S.rf hl
theorem zdf_0 : ∀ j, j < zn 0 → defaultValue (zty 0 j) = zv (zkd 0 j) none 0 0 := fun j hj => by
  have h : j < 4 := hj
  have h2 : j = 0 ∨ j = 1 ∨ j = 2 ∨ j = 3 := by omega
  rcases h2 with rfl | rfl | rfl | rfl <;> rfl
theorem zdf_1 : ∀ j, j < zn 1 → defaultValue (zty 1 j) = zv (zkd 1 j) none 0 0 := fun j hj => by
  have h : j < 1 := hj
  have h2 : j = 0 := by omega
  subst h2; rfl
theorem zdf_2 : ∀ j, j < zn 2 → defaultValue (zty 2 j) = zv (zkd 2 j) none 0 0 := fun j hj => by
  have h : j < 5 := hj
  have h2 : j = 0 ∨ j = 1 ∨ j = 2 ∨ j = 3 ∨ j = 4 := by omega
  rcases h2 with rfl | rfl | rfl | rfl | rfl <;> rfl
theorem zdf_3 : ∀ j, j < zn 3 → defaultValue (zty 3 j) = zv (zkd 3 j) none 0 0 := fun j hj => by
  have h : j < 2 := hj
  have h2 : j = 0 ∨ j = 1 := by omega
  rcases h2 with rfl | rfl <;> rfl
theorem zdf_4 : ∀ j, j < zn 4 → defaultValue (zty 4 j) = zv (zkd 4 j) none 0 0 := fun j hj => by
  have h : j < 11 := hj
  have h2 : j = 0 ∨ j = 1 ∨ j = 2 ∨ j = 3 ∨ j = 4 ∨ j = 5 ∨ j = 6 ∨ j = 7 ∨ j = 8 ∨ j = 9 ∨ j = 10 := by omega
  rcases h2 with rfl | rfl | rfl | rfl | rfl | rfl | rfl | rfl | rfl | rfl | rfl <;> rfl
theorem zdf_5 : ∀ j, j < zn 5 → defaultValue (zty 5 j) = zv (zkd 5 j) none 0 0 := fun j hj => by
  have h : j < 2 := hj
  have h2 : j = 0 ∨ j = 1 := by omega
  rcases h2 with rfl | rfl <;> rfl
theorem zdf_6 : ∀ j, j < zn 6 → defaultValue (zty 6 j) = zv (zkd 6 j) none 0 0 := fun j hj => by
  have h : j < 2 := hj
  have h2 : j = 0 ∨ j = 1 := by omega
  rcases h2 with rfl | rfl <;> rfl
theorem zdf_7 : ∀ j, j < zn 7 → defaultValue (zty 7 j) = zv (zkd 7 j) none 0 0 := fun j hj => by
  have h : j < 12 := hj
  have h2 : j = 0 ∨ j = 1 ∨ j = 2 ∨ j = 3 ∨ j = 4 ∨ j = 5 ∨ j = 6 ∨ j = 7 ∨ j = 8 ∨ j = 9 ∨ j = 10 ∨ j = 11 := by omega
  rcases h2 with rfl | rfl | rfl | rfl | rfl | rfl | rfl | rfl | rfl | rfl | rfl | rfl <;> rfl
theorem zdf_8 : ∀ j, j < zn 8 → defaultValue (zty 8 j) = zv (zkd 8 j) none 0 0 := fun j hj => by
  have h : j < 4 := hj
  have h2 : j = 0 ∨ j = 1 ∨ j = 2 ∨ j = 3 := by omega
  rcases h2 with rfl | rfl | rfl | rfl <;> rfl
theorem zdf_9 : ∀ j, j < zn 9 → defaultValue (zty 9 j) = zv (zkd 9 j) none 0 0 := fun j hj => by
  have h : j < 1 := hj
  have h2 : j = 0 := by omega
  subst h2; rfl
theorem zdf_10 : ∀ j, j < zn 10 → defaultValue (zty 10 j) = zv (zkd 10 j) none 0 0 := fun j hj => by
  have h : j < 2 := hj
  have h2 : j = 0 ∨ j = 1 := by omega
  rcases h2 with rfl | rfl <;> rfl
theorem zdf_11 : ∀ j, j < zn 11 → defaultValue (zty 11 j) = zv (zkd 11 j) none 0 0 := fun j hj => by
  have h : j < 12 := hj
  have h2 : j = 0 ∨ j = 1 ∨ j = 2 ∨ j = 3 ∨ j = 4 ∨ j = 5 ∨ j = 6 ∨ j = 7 ∨ j = 8 ∨ j = 9 ∨ j = 10 ∨ j = 11 := by omega
  rcases h2 with rfl | rfl | rfl | rfl | rfl | rfl | rfl | rfl | rfl | rfl | rfl | rfl <;> rfl
theorem zdf_12 : ∀ j, j < zn 12 → defaultValue (zty 12 j) = zv (zkd 12 j) none 0 0 := fun j hj => by
  have h : j < 30 := hj
  have h2 : j = 0 ∨ j = 1 ∨ j = 2 ∨ j = 3 ∨ j = 4 ∨ j = 5 ∨ j = 6 ∨ j = 7 ∨ j = 8 ∨ j = 9 ∨ j = 10 ∨ j = 11 ∨ j = 12 ∨ j = 13 ∨ j = 14 ∨ j = 15 ∨ j = 16 ∨ j = 17 ∨ j = 18 ∨ j = 19 ∨ j = 20 ∨ j = 21 ∨ j = 22 ∨ j = 23 ∨ j = 24 ∨ j = 25 ∨ j = 26 ∨ j = 27 ∨ j = 28 ∨ j = 29 := by omega
  rcases h2 with rfl | rfl | rfl | rfl | rfl | rfl | rfl | rfl | rfl | rfl | rfl | rfl | rfl | rfl | rfl | rfl | rfl | rfl | rfl | rfl | rfl | rfl | rfl | rfl | rfl | rfl | rfl | rfl | rfl | rfl <;> rfl
