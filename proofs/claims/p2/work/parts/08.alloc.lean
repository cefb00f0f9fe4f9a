/-! ROWS: new cells -/
def zp (τ : Nat → Option (Nat × Nat)) (z : Nat) (v : Nat × Nat) : Nat → Option (Nat × Nat) := fun a => if a = z then some v else τ a
theorem zp_s {τ : Nat → Option (Nat × Nat)} {z : Nat} {v : Nat × Nat} : zp τ z v z = some v := if_pos rfl
theorem zp_o {τ : Nat → Option (Nat × Nat)} {z a : Nat} {v : Nat × Nat} (h : a ≠ z) : zp τ z v a = τ a := if_neg h
section ZN
variable {E : zE} {G : zG} {cc : ByteArray} {nL : Nat} {own : String} {rm : Room} {n k pc nx : Nat} {L : List (Nat × Value)} {st : List Value} {z : Nat} {τ : Nat → Option (Nat × Nat)} {ρ : Nat → Nat → Option Nat} {ι : Nat → Nat → Int32} {κ : Nat → Nat → Int64} {t N i : Nat}
theorem zH_new {H H1 : Heap} (hH : zH G (z, τ, ρ, ι, κ) H) (e : va_at G.1 vwCl (z, zc G (z + 1, zp τ z (t, N), ρ, ι, κ) z) H1) (z1 : H1.size = z + 1) (o1 : ∀ q : Nat, q < z → H1[q]? = H[q]?) : zH G (z + 1, zp τ z (t, N), ρ, ι, κ) H1 := by
  have hB : G.2.2 ≤ z := hH.2.1
  refine ⟨z1, Nat.le_succ_of_le hB, fun a ha => ?_, fun a ha => ?_⟩
  · by_cases q : a = z
    · subst q; exact ⟨hB, e⟩
    · have ha2 : τ a ≠ none := by rw [← zp_o (τ := τ) (v := (t, N)) q]; exact ha
      have hlt := zH_lt hH ha2
      obtain ⟨h1, h2⟩ := hH.2.2.1 a ha2
      refine ⟨h1, ?_⟩
      have ec : zc G (z + 1, zp τ z (t, N), ρ, ι, κ) a = zc G (z, τ, ρ, ι, κ) a := by simp only [zc, zp_o q]
      rw [ec]; exact h2.kept (o1 a hlt)
  · have ha' : z + 1 ≤ a := ha
    have h := hH.2.2.2 a (show z ≤ a by omega)
    exact ⟨(zp_o (by omega)).trans h.1, h.2⟩
theorem r_new (X : zX E G cc nL own rm) (N : Nat) (d : zd cc pc (.new i) 3 nx) (hc : zCl t) (ht : t < 13) (hl0 : Cond.classLink own i (zr t).1 ∈ zT) (his : Cond.instantiable (zr t).1 (zr t).2.2 ∈ zT) (hini : Cond.initialized (zr t).1 ∈ zT) (hd : ∀ j, j < zn t → defaultValue (zty t j) = zv (zkd t j) none 0 0) (hn : n + 1 ≤ rm.cells) (hk : k + zn t ≤ rm.slots)
    (kk : (∀ j, ρ z j = none ∧ ι z j = 0 ∧ κ z j = 0) → zW E G nL (z + 1, zp τ z (t, N), ρ, ι, κ) (n + 1) (k + zn t) nx L (.ref z :: st)) : zW E G nL (z, τ, ρ, ι, κ) n k pc L st := by
  obtain ⟨p, l, e, R, u, m, args, below, meth, c, Q⟩ := E
  obtain ⟨hx, hb, hml, hown, hts, hK, hN, hlk, hB, rfl⟩ := X
  obtain ⟨d, rfl⟩ := d
  obtain ⟨c1, c2, c3, c4, c5⟩ := hc
  intro H locs ls hH hS hl
  have hKn := hK.1 t _ c1
  have hz : H.size = z := hH.1
  have hdf : τ z = none ∧ (ρ z = fun _ => none) ∧ (ι z = fun _ => 0) ∧ (κ z = fun _ => 0) := hH.2.2.2 z (Nat.le_refl _)
  refine W.newcK hx hb hown (hts _ hl0) (hts _ his) (hts _ hini) rfl d hn (by rw [← c2]; exact hk) hKn.2.1 hz fun H1 kC hkC e1 z1 o1 => ?_
  rw [← c2]
  refine kk (fun j => ⟨by rw [hdf.2.1], by rw [hdf.2.2.1], by rw [hdf.2.2.2]⟩) H1 locs ls (zH_new hH ?_ z1 o1) ⟨Nat.le_trans hS.1 (by omega), fun x h1 h2 => (o1 x (by rw [← hz]; exact Nat.lt_of_lt_of_le h1 hS.1)).trans (hS.2.1 x h1 h2), hS.2.2⟩ hl
  rw [zc_obj (zp_s (τ := τ)) ht]
  refine ⟨zr t, c1, (u_born (zty t) hts c5 hKn hkC e1 c3).to fun j hj => ?_⟩
  rw [← c2] at hj
  show _ = (zfs t (ρ z) (ι z) (κ z)).getD j .null
  rw [List.getD_eq_getElem?_getD, zfs_get hj, hdf.2.1, hdf.2.2.1, hdf.2.2.2]
  exact hd j hj
theorem zS_new {u : State} {H H1 : Heap} {locs : List Loc} (hz : H.size = z) (z1 : H1.size = z + 1) (o1 : ∀ q : Nat, q < z → H1[q]? = H[q]?) (hS : va_S (zA G) u.heap H locs) : va_S (zA G) u.heap H1 locs :=
  ⟨Nat.le_trans hS.1 (by omega), fun x h1 h2 => (o1 x (by rw [← hz]; exact Nat.lt_of_lt_of_le h1 hS.1)).trans (hS.2.1 x h1 h2), hS.2.2⟩
theorem r_newI {x : Int32} (X : zX E G cc nL own rm) (d : zd cc pc (.newarray .int) 2 nx) (h0 : ¬ x < 0) (hN : x.toNatClampNeg = N) (hby : N * 4 ≤ 536870912) (hn : n + 1 ≤ rm.cells) (hk : k + N ≤ rm.slots)
    (kk : (∀ j, ρ z j = none ∧ ι z j = 0 ∧ κ z j = 0) → zW E G nL (z + 1, zp τ z (13, N), ρ, ι, κ) (n + 1) (k + N) nx L (.ref z :: st)) : zW E G nL (z, τ, ρ, ι, κ) n k pc L (.int x :: st) := by
  obtain ⟨p, l, e, R, u, m, args, below, meth, c, Q⟩ := E
  obtain ⟨hx, hb, hml, hown, hts, hK, hNs, hlk, hB, rfl⟩ := X
  obtain ⟨d, rfl⟩ := d
  intro H locs ls hH hS hl
  have hz : H.size = z := hH.1
  have hdf : τ z = none ∧ (ρ z = fun _ => none) ∧ (ι z = fun _ => 0) ∧ (κ z = fun _ => 0) := hH.2.2.2 z (Nat.le_refl _)
  refine va_newaK (atype := .int) hx hb (hts _ zar_I) rfl d rfl h0 hN hby hn hk hz fun H1 cA e1 z1 o1 hAr hNm => ?_
  have hc : cA = G.2.1 0 := Option.some.inj (hNm.symm.trans (hK.2 0 _ rfl).2)
  refine kk (fun j => ⟨by rw [hdf.2.1], by rw [hdf.2.2.1], by rw [hdf.2.2.2]⟩) H1 locs ls (zH_new hH ?_ z1 o1) (zS_new hz z1 o1 hS) hl
  rw [zc_int (zp_s (τ := τ))]
  show H1[z]? = some (vp_cell (G.2.1 0) (N, .inl (ι z)))
  rw [e1, hc, hdf.2.2.1]
  rfl
theorem r_newJ {x : Int32} (X : zX E G cc nL own rm) (d : zd cc pc (.newarray .long) 2 nx) (h0 : ¬ x < 0) (hN : x.toNatClampNeg = N) (hby : N * 8 ≤ 536870912) (hn : n + 1 ≤ rm.cells) (hk : k + N ≤ rm.slots)
    (kk : (∀ j, ρ z j = none ∧ ι z j = 0 ∧ κ z j = 0) → zW E G nL (z + 1, zp τ z (14, N), ρ, ι, κ) (n + 1) (k + N) nx L (.ref z :: st)) : zW E G nL (z, τ, ρ, ι, κ) n k pc L (.int x :: st) := by
  obtain ⟨p, l, e, R, u, m, args, below, meth, c, Q⟩ := E
  obtain ⟨hx, hb, hml, hown, hts, hK, hNs, hlk, hB, rfl⟩ := X
  obtain ⟨d, rfl⟩ := d
  intro H locs ls hH hS hl
  have hz : H.size = z := hH.1
  have hdf : τ z = none ∧ (ρ z = fun _ => none) ∧ (ι z = fun _ => 0) ∧ (κ z = fun _ => 0) := hH.2.2.2 z (Nat.le_refl _)
  refine va_newaK (atype := .long) hx hb (hts _ zar_J) rfl d rfl h0 hN hby hn hk hz fun H1 cA e1 z1 o1 hAr hNm => ?_
  have hc : cA = G.2.1 1 := Option.some.inj (hNm.symm.trans (hK.2 1 _ rfl).2)
  refine kk (fun j => ⟨by rw [hdf.2.1], by rw [hdf.2.2.1], by rw [hdf.2.2.2]⟩) H1 locs ls (zH_new hH ?_ z1 o1) (zS_new hz z1 o1 hS) hl
  rw [zc_long (zp_s (τ := τ))]
  show H1[z]? = some (vp_cell (G.2.1 1) (N, .inr (.inl (κ z))))
  rw [e1, hc, hdf.2.2.2]
  rfl
theorem r_newZ {x : Int32} (X : zX E G cc nL own rm) (d : zd cc pc (.newarray .boolean) 2 nx) (h0 : ¬ x < 0) (hN : x.toNatClampNeg = N) (hby : N * 1 ≤ 536870912) (hn : n + 1 ≤ rm.cells) (hk : k + N ≤ rm.slots)
    (kk : (∀ j, ρ z j = none ∧ ι z j = 0 ∧ κ z j = 0) → zW E G nL (z + 1, zp τ z (15, N), ρ, ι, κ) (n + 1) (k + N) nx L (.ref z :: st)) : zW E G nL (z, τ, ρ, ι, κ) n k pc L (.int x :: st) := by
  obtain ⟨p, l, e, R, u, m, args, below, meth, c, Q⟩ := E
  obtain ⟨hx, hb, hml, hown, hts, hK, hNs, hlk, hB, rfl⟩ := X
  obtain ⟨d, rfl⟩ := d
  intro H locs ls hH hS hl
  have hz : H.size = z := hH.1
  have hdf : τ z = none ∧ (ρ z = fun _ => none) ∧ (ι z = fun _ => 0) ∧ (κ z = fun _ => 0) := hH.2.2.2 z (Nat.le_refl _)
  refine va_newaK (atype := .boolean) hx hb (hts _ zar_Z) rfl d rfl h0 hN hby hn hk hz fun H1 cA e1 z1 o1 hAr hNm => ?_
  have hc : cA = G.2.1 2 := Option.some.inj (hNm.symm.trans (hK.2 2 _ rfl).2)
  refine kk (fun j => ⟨by rw [hdf.2.1], by rw [hdf.2.2.1], by rw [hdf.2.2.2]⟩) H1 locs ls (zH_new hH ?_ z1 o1) (zS_new hz z1 o1 hS) hl
  rw [zc_bool (zp_s (τ := τ))]
  show H1[z]? = some (vp_cell (G.2.1 2) (N, .inl (ι z)))
  rw [e1, hc, hdf.2.2.1]
  rfl
theorem zrfs {N : Nat} {r : Nat → Option Nat} (h : r = fun _ => none) (cA : ClassId) : vp_cell cA (N, .inr (.inr (.inr (.inr r)))) = arrV cA N (fun _ => .null) := by
  subst h; rfl
/-- a new array of references to cells of class C: q its place in ztys -/
theorem r_newR {x : Int32} {q : Nat} {C : String} (X : zX E G cc nL own rm) (d : zd cc pc (.anewarray i) 3 nx) (hl0 : Cond.classLink own i C ∈ zT) (hao : ∀ U, zNs U → va_AO C U) (ht : 16 ≤ t) (hq : (ztys G)[q]? = some (G.2.1 (t - 13), .object C)) (h0 : ¬ x < 0) (hN : x.toNatClampNeg = N) (hby : N * 4 ≤ 536870912) (hn : n + 1 ≤ rm.cells) (hk : k + N ≤ rm.slots)
    (kk : (∀ j, ρ z j = none ∧ ι z j = 0 ∧ κ z j = 0) → zW E G nL (z + 1, zp τ z (t, N), ρ, ι, κ) (n + 1) (k + N) nx L (.ref z :: st)) : zW E G nL (z, τ, ρ, ι, κ) n k pc L (.int x :: st) := by
  obtain ⟨p, l, e, R, u, m, args, below, meth, c, Q⟩ := E
  obtain ⟨hx, hb, hml, hown, hts, hK, hNs, hlk, hB, rfl⟩ := X
  obtain ⟨d, rfl⟩ := d
  subst hN
  intro H locs ls hH hS hl
  have hz : H.size = z := hH.1
  have hdf : τ z = none ∧ (ρ z = fun _ => none) ∧ (ι z = fun _ => 0) ∧ (κ z = fun _ => 0) := hH.2.2.2 z (Nat.le_refl _)
  refine W.anew hx hb hown (hts _ hl0) (va_AO.use (hao _ hNs)) rfl d rfl h0 hby hn hk fun cA kA comp f1 f2 f3 f4 => ?_
  obtain ⟨kA', comp', g1, g2, g3, g4⟩ := (hK.2 q _ hq).2
  have hc : cA = G.2.1 (t - 13) := Option.some.inj (f1.symm.trans g4)
  generalize hH1 : H.push ({ cls := cA, slots := Array.replicate x.toNatClampNeg .null, vm := .none } : Cell) = H1
  have z1 : H1.size = z + 1 := by rw [← hH1, Array.size_push, hz]
  have e1 : H1[z]? = some (arrV cA x.toNatClampNeg (fun _ => .null)) := by rw [← hH1, ← hz, Array.getElem?_push_size, ← arrV_new]
  have o1 : ∀ q : Nat, q < z → H1[q]? = H[q]? := fun q hq => by rw [← hH1, Array.getElem?_push, if_neg (by rw [hz]; exact Nat.ne_of_lt hq)]
  rw [hz]
  refine kk (fun j => ⟨by rw [hdf.2.1], by rw [hdf.2.2.1], by rw [hdf.2.2.2]⟩) H1 locs ls (zH_new hH ?_ z1 o1) (zS_new hz z1 o1 hS) hl
  rw [zc_ref (zp_s (τ := τ)) ht]
  show H1[z]? = some (vp_cell (G.2.1 (t - 13)) (_, .inr (.inr (.inr (.inr (ρ z))))))
  rw [e1, hc, zrfs hdf.2.1]
/-- the array of three arrays of 49 ints -/
theorem r_mna (X : zX E G cc nL own rm) (d : zd cc pc (.multianewarray i 2) 4 nx) (hl0 : Cond.classLink own i "[[I" ∈ zT) (hn : n + 4 ≤ rm.cells) (hk : k + 150 ≤ rm.slots)
    (kk : (∀ j q, ρ (z + q) j = none ∧ ι (z + q) j = 0 ∧ κ (z + q) j = 0) → zW E G nL (z + 4, zp (zp (zp (zp τ z (18, 3)) (z + 1) (13, 49)) (z + 2) (13, 49)) (z + 3) (13, 49), zu (zu (zu ρ z 0 (some (z + 1))) z 1 (some (z + 2))) z 2 (some (z + 3)), ι, κ) (n + 4) (k + 150) nx L (.ref z :: st)) : zW E G nL (z, τ, ρ, ι, κ) n k pc L (.int 49 :: .int 3 :: st) := by
  sorry
end ZN
theorem zMet_ofI {l : Launch} {y : MethodName} {ws ws' : List Cond} {rm : Room} {Pc : Array Value → State → Prop} {Qc : Array Value → State → Outcome → State → Prop} {mc ms : Nat} {free : Addr → Prop} {cc : ByteArray} {maxL : Nat} {ret : Option FieldType}
    (hy : plainFor y = true) (hw : ws = Cond.code y cc maxL ret :: ws')
    (body : ∀ p e s m args below meth c s₁, BodyLoose p l y (headSpec ws rm) cc maxL ret e s m args below meth c s₁ → c.maxLocals = maxL → Pc args s → meth.name = y.name →
      W p l e (headSpec ws rm).room s m args below meth c s.heap [] 0 0 (MQ below Qc args s mc ms free) (entryFrame m args maxL)) : Met l y ws rm Pc Qc mc ms free :=
  zMet_of hy hw fun p e s m args below meth c s₁ B hml hP => body p e s m args below meth c s₁ B hml hP (name_of_methodNamed B.named B.method).1
theorem zM_ofI {l : Launch} {G : zG} {y : MethodName} {cc : ByteArray} {maxL na : Nat} {ret : Option FieldType} {rm : Room} {av : List Value} {s : zS} {P : Option Value → zS → Prop} {mc ms : Nat} (hc : zCd y cc maxL ret na) (hn : (lg_sl av).length ≤ maxL) (hnm : y.name = "<init>")
    (body : ∀ E : zE, zX E G cc maxL y.cls rm → zR E G P mc ms ret → E.2.1 = l → E.2.2.2.2.2.2.2.2.1.name = "<init>" → zW E G maxL s 0 0 0 (lv_args 0 av) []) : zM l G y cc maxL ret rm av s P mc ms := by
  refine zMet_ofI (cc := cc) (maxL := maxL) (ret := ret) hc.2.2.2 rfl ?_
  intro p e u m args below meth c s₁ B hml hv hin
  obtain ⟨rfl, hH, hK, hN⟩ := hv
  have hl := lv_entry av (n := maxL) hn
  rw [lg_entry_eq]
  exact body (p, l, e, (headSpec (Cond.code y cc maxL ret :: zT) rm).room, u, m, av.toArray, below, meth, c, MQ below (zQ G P) av.toArray u mc ms (zA G)) ⟨B.exec, B.bytes, hml, findClass_of_methodNamed B.named, fun w hw => atoms_spec B.pre w (List.mem_cons_of_mem _ hw), hK, hN, B.notSynchronized, by rw [hH.1]; exact hH.2.1, rfl⟩ ⟨rfl, B.returns⟩ rfl (hin.trans hnm) u.heap [] _ hH va_S.rf hl
theorem zdf_0 : ∀ j, j < zn 0 → defaultValue (zty 0 j) = zv (zkd 0 j) none 0 0 := fun j hj => by
  have h : j < 4 := hj
  have h2 : j = 0 ∨ j = 1 ∨ j = 2 ∨ j = 3 := by omega
  rcases h2 with rfl | rfl | rfl | rfl <;> rfl
theorem zdf_1 : ∀ j, j < zn 1 → defaultValue (zty 1 j) = zv (zkd 1 j) none 0 0 := fun j hj => by
  have h : j < 1 := hj
  have h2 : j = 0 := by omega
  subst h2; rfl
theorem zdf_2 : ∀ j, j < zn 2 → defaultValue (zty 2 j) = zv (zkd 2 j) none 0 0 := fun j hj => by
  have h : j < 5 := hj
  have h2 : j = 0 ∨ j = 1 ∨ j = 2 ∨ j = 3 ∨ j = 4 := by omega
  rcases h2 with rfl | rfl | rfl | rfl | rfl <;> rfl
theorem zdf_3 : ∀ j, j < zn 3 → defaultValue (zty 3 j) = zv (zkd 3 j) none 0 0 := fun j hj => by
  have h : j < 2 := hj
  have h2 : j = 0 ∨ j = 1 := by omega
  rcases h2 with rfl | rfl <;> rfl
theorem zdf_4 : ∀ j, j < zn 4 → defaultValue (zty 4 j) = zv (zkd 4 j) none 0 0 := fun j hj => by
  have h : j < 11 := hj
  have h2 : j = 0 ∨ j = 1 ∨ j = 2 ∨ j = 3 ∨ j = 4 ∨ j = 5 ∨ j = 6 ∨ j = 7 ∨ j = 8 ∨ j = 9 ∨ j = 10 := by omega
  rcases h2 with rfl | rfl | rfl | rfl | rfl | rfl | rfl | rfl | rfl | rfl | rfl <;> rfl
theorem zdf_5 : ∀ j, j < zn 5 → defaultValue (zty 5 j) = zv (zkd 5 j) none 0 0 := fun j hj => by
  have h : j < 2 := hj
  have h2 : j = 0 ∨ j = 1 := by omega
  rcases h2 with rfl | rfl <;> rfl
theorem zdf_6 : ∀ j, j < zn 6 → defaultValue (zty 6 j) = zv (zkd 6 j) none 0 0 := fun j hj => by
  have h : j < 2 := hj
  have h2 : j = 0 ∨ j = 1 := by omega
  rcases h2 with rfl | rfl <;> rfl
theorem zdf_7 : ∀ j, j < zn 7 → defaultValue (zty 7 j) = zv (zkd 7 j) none 0 0 := fun j hj => by
  have h : j < 12 := hj
  have h2 : j = 0 ∨ j = 1 ∨ j = 2 ∨ j = 3 ∨ j = 4 ∨ j = 5 ∨ j = 6 ∨ j = 7 ∨ j = 8 ∨ j = 9 ∨ j = 10 ∨ j = 11 := by omega
  rcases h2 with rfl | rfl | rfl | rfl | rfl | rfl | rfl | rfl | rfl | rfl | rfl | rfl <;> rfl
theorem zdf_8 : ∀ j, j < zn 8 → defaultValue (zty 8 j) = zv (zkd 8 j) none 0 0 := fun j hj => by
  have h : j < 4 := hj
  have h2 : j = 0 ∨ j = 1 ∨ j = 2 ∨ j = 3 := by omega
  rcases h2 with rfl | rfl | rfl | rfl <;> rfl
theorem zdf_9 : ∀ j, j < zn 9 → defaultValue (zty 9 j) = zv (zkd 9 j) none 0 0 := fun j hj => by
  have h : j < 1 := hj
  have h2 : j = 0 := by omega
  subst h2; rfl
theorem zdf_10 : ∀ j, j < zn 10 → defaultValue (zty 10 j) = zv (zkd 10 j) none 0 0 := fun j hj => by
  have h : j < 2 := hj
  have h2 : j = 0 ∨ j = 1 := by omega
  rcases h2 with rfl | rfl <;> rfl
theorem zdf_11 : ∀ j, j < zn 11 → defaultValue (zty 11 j) = zv (zkd 11 j) none 0 0 := fun j hj => by
  have h : j < 12 := hj
  have h2 : j = 0 ∨ j = 1 ∨ j = 2 ∨ j = 3 ∨ j = 4 ∨ j = 5 ∨ j = 6 ∨ j = 7 ∨ j = 8 ∨ j = 9 ∨ j = 10 ∨ j = 11 := by omega
  rcases h2 with rfl | rfl | rfl | rfl | rfl | rfl | rfl | rfl | rfl | rfl | rfl | rfl <;> rfl
theorem zdf_12 : ∀ j, j < zn 12 → defaultValue (zty 12 j) = zv (zkd 12 j) none 0 0 := fun j hj => by
  have h : j < 30 := hj
  have h2 : j = 0 ∨ j = 1 ∨ j = 2 ∨ j = 3 ∨ j = 4 ∨ j = 5 ∨ j = 6 ∨ j = 7 ∨ j = 8 ∨ j = 9 ∨ j = 10 ∨ j = 11 ∨ j = 12 ∨ j = 13 ∨ j = 14 ∨ j = 15 ∨ j = 16 ∨ j = 17 ∨ j = 18 ∨ j = 19 ∨ j = 20 ∨ j = 21 ∨ j = 22 ∨ j = 23 ∨ j = 24 ∨ j = 25 ∨ j = 26 ∨ j = 27 ∨ j = 28 ∨ j = 29 := by omega
  rcases h2 with rfl | rfl | rfl | rfl | rfl | rfl | rfl | rfl | rfl | rfl | rfl | rfl | rfl | rfl | rfl | rfl | rfl | rfl | rfl | rfl | rfl | rfl | rfl | rfl | rfl | rfl | rfl | rfl | rfl | rfl <;> rfl
