/-! ROWS over the typed store, one an instruction (written by wip/gen/gen_rows.py) -/
def zu {α : Type} (f : Nat → Nat → α) (a k : Nat) (v : α) : Nat → Nat → α := fun b j => if b = a ∧ j = k then v else f b j
theorem zu_s {α : Type} {f : Nat → Nat → α} {a k : Nat} {v : α} : zu f a k v a k = v := if_pos ⟨rfl, rfl⟩
theorem zu_a {α : Type} {f : Nat → Nat → α} {a k b j : Nat} {v : α} (h : b ≠ a) : zu f a k v b j = f b j := if_neg fun q => h q.1
theorem zu_k {α : Type} {f : Nat → Nat → α} {a k b j : Nat} {v : α} (h : j ≠ k) : zu f a k v b j = f b j := if_neg fun q => h q.2
theorem zu_r {α : Type} {f : Nat → Nat → α} {a k b : Nat} {v : α} (h : b ≠ a) : zu f a k v b = f b := funext fun _ => zu_a h
theorem zu_ra {α : Type} {f : Nat → Nat → α} {a k : Nat} {v : α} : zu f a k v a = fun j => if j = k then v else f a j := by
  funext j
  by_cases h : j = k
  · subst h; simp [zu]
  · simp [zu, h]
def zlk (L : List (Nat × Value)) (i : Nat) : Option Value := L.lookup i
theorem zlk_mem {i : Nat} {v : Value} : ∀ {L : List (Nat × Value)}, zlk L i = some v → (i, v) ∈ L
  | [], h => by simp [zlk] at h
  | (j, w) :: L, h => by
    by_cases e : i = j
    · subst e
      simp [zlk, List.lookup] at h
      subst h
      exact List.mem_cons_self
    · have e2 : (i == j) = false := by simp [e]
      have h2 : zlk L i = some v := by simpa [zlk, List.lookup, e2] using h
      exact List.mem_cons_of_mem _ (zlk_mem h2)
theorem zlk_at {ls : Array Slot} {nL : Nat} {L : List (Nat × Value)} (h : lv_has ls nL L) {i : Nat} {v : Value} (hk : zlk L i = some v) : ls[i]? = some (.val v) := h.2.2 (i, v) (zlk_mem hk)
def zs1 (L : List (Nat × Value)) (i : Nat) (v : Value) : List (Nat × Value) := (i, v) :: L.filter (fun q => !(q.1 == i) && !(q.1 + 1 == i && q.2.category == 2))
def zs2 (L : List (Nat × Value)) (i : Nat) (v : Value) : List (Nat × Value) := (i, v) :: L.filter (fun q => !(q.1 == i) && (!(q.1 == i + 1) && !(q.1 + 1 == i && q.2.category == 2)))
section ZR
variable {E : zE} {G : zG} {cc : ByteArray} {nL : Nat} {own : String} {rm : Room} {s : zS} {n k pc nx : Nat} {L : List (Nat × Value)} {st : List Value}

theorem r_iadd (X : zX E G cc nL own rm) {x y : Int32} (d : zd cc pc (.iadd) 1 nx)
    (kk : zW E G nL s n k nx L (.int (x + y) :: st)) : zW E G nL s n k pc L (.int y :: .int x :: st) := by
  obtain ⟨p, l, e, R, u, m, args, below, meth, c, Q⟩ := E
  obtain ⟨hx, hb, hml, hown, hts, hK, hN, hlk, hB, rfl⟩ := X
  obtain ⟨d, rfl⟩ := d
  intro H locs ls hH hS hl
  exact lv_iadd hx hb d (kk H locs ls hH hS hl)
theorem r_isub (X : zX E G cc nL own rm) {x y : Int32} (d : zd cc pc (.isub) 1 nx)
    (kk : zW E G nL s n k nx L (.int (x - y) :: st)) : zW E G nL s n k pc L (.int y :: .int x :: st) := by
  obtain ⟨p, l, e, R, u, m, args, below, meth, c, Q⟩ := E
  obtain ⟨hx, hb, hml, hown, hts, hK, hN, hlk, hB, rfl⟩ := X
  obtain ⟨d, rfl⟩ := d
  intro H locs ls hH hS hl
  exact lv_isub hx hb d (kk H locs ls hH hS hl)
theorem r_imul (X : zX E G cc nL own rm) {x y : Int32} (d : zd cc pc (.imul) 1 nx)
    (kk : zW E G nL s n k nx L (.int (x * y) :: st)) : zW E G nL s n k pc L (.int y :: .int x :: st) := by
  obtain ⟨p, l, e, R, u, m, args, below, meth, c, Q⟩ := E
  obtain ⟨hx, hb, hml, hown, hts, hK, hN, hlk, hB, rfl⟩ := X
  obtain ⟨d, rfl⟩ := d
  intro H locs ls hH hS hl
  exact lv_imul hx hb d (kk H locs ls hH hS hl)
theorem r_iand (X : zX E G cc nL own rm) {x y : Int32} (d : zd cc pc (.iand) 1 nx)
    (kk : zW E G nL s n k nx L (.int (x &&& y) :: st)) : zW E G nL s n k pc L (.int y :: .int x :: st) := by
  obtain ⟨p, l, e, R, u, m, args, below, meth, c, Q⟩ := E
  obtain ⟨hx, hb, hml, hown, hts, hK, hN, hlk, hB, rfl⟩ := X
  obtain ⟨d, rfl⟩ := d
  intro H locs ls hH hS hl
  exact lv_iand hx hb d (kk H locs ls hH hS hl)
theorem r_ladd (X : zX E G cc nL own rm) {x y : Int64} (d : zd cc pc (.ladd) 1 nx)
    (kk : zW E G nL s n k nx L (.long (x + y) :: st)) : zW E G nL s n k pc L (.long y :: .long x :: st) := by
  obtain ⟨p, l, e, R, u, m, args, below, meth, c, Q⟩ := E
  obtain ⟨hx, hb, hml, hown, hts, hK, hN, hlk, hB, rfl⟩ := X
  obtain ⟨d, rfl⟩ := d
  intro H locs ls hH hS hl
  exact lv_ladd hx hb d (kk H locs ls hH hS hl)
theorem r_lsub (X : zX E G cc nL own rm) {x y : Int64} (d : zd cc pc (.lsub) 1 nx)
    (kk : zW E G nL s n k nx L (.long (x - y) :: st)) : zW E G nL s n k pc L (.long y :: .long x :: st) := by
  obtain ⟨p, l, e, R, u, m, args, below, meth, c, Q⟩ := E
  obtain ⟨hx, hb, hml, hown, hts, hK, hN, hlk, hB, rfl⟩ := X
  obtain ⟨d, rfl⟩ := d
  intro H locs ls hH hS hl
  exact lv_lsub hx hb d (kk H locs ls hH hS hl)
theorem r_lmul (X : zX E G cc nL own rm) {x y : Int64} (d : zd cc pc (.lmul) 1 nx)
    (kk : zW E G nL s n k nx L (.long (x * y) :: st)) : zW E G nL s n k pc L (.long y :: .long x :: st) := by
  obtain ⟨p, l, e, R, u, m, args, below, meth, c, Q⟩ := E
  obtain ⟨hx, hb, hml, hown, hts, hK, hN, hlk, hB, rfl⟩ := X
  obtain ⟨d, rfl⟩ := d
  intro H locs ls hH hS hl
  exact lv_lmul hx hb d (kk H locs ls hH hS hl)
theorem r_land (X : zX E G cc nL own rm) {x y : Int64} (d : zd cc pc (.land) 1 nx)
    (kk : zW E G nL s n k nx L (.long (x &&& y) :: st)) : zW E G nL s n k pc L (.long y :: .long x :: st) := by
  obtain ⟨p, l, e, R, u, m, args, below, meth, c, Q⟩ := E
  obtain ⟨hx, hb, hml, hown, hts, hK, hN, hlk, hB, rfl⟩ := X
  obtain ⟨d, rfl⟩ := d
  intro H locs ls hH hS hl
  exact lv_land hx hb d (kk H locs ls hH hS hl)
theorem r_lxor (X : zX E G cc nL own rm) {x y : Int64} (d : zd cc pc (.lxor) 1 nx)
    (kk : zW E G nL s n k nx L (.long (x ^^^ y) :: st)) : zW E G nL s n k pc L (.long y :: .long x :: st) := by
  obtain ⟨p, l, e, R, u, m, args, below, meth, c, Q⟩ := E
  obtain ⟨hx, hb, hml, hown, hts, hK, hN, hlk, hB, rfl⟩ := X
  obtain ⟨d, rfl⟩ := d
  intro H locs ls hH hS hl
  exact lv_lxor hx hb d (kk H locs ls hH hS hl)
theorem r_idiv (X : zX E G cc nL own rm) {x y : Int32} (hne : ¬ y = 0) (d : zd cc pc (.idiv) 1 nx)
    (kk : zW E G nL s n k nx L (.int (x / y) :: st)) : zW E G nL s n k pc L (.int y :: .int x :: st) := by
  obtain ⟨p, l, e, R, u, m, args, below, meth, c, Q⟩ := E
  obtain ⟨hx, hb, hml, hown, hts, hK, hN, hlk, hB, rfl⟩ := X
  obtain ⟨d, rfl⟩ := d
  intro H locs ls hH hS hl
  exact lv_idiv hx hb d hne (kk H locs ls hH hS hl)
theorem r_irem (X : zX E G cc nL own rm) {x y : Int32} (hne : ¬ y = 0) (d : zd cc pc (.irem) 1 nx)
    (kk : zW E G nL s n k nx L (.int (x - x / y * y) :: st)) : zW E G nL s n k pc L (.int y :: .int x :: st) := by
  obtain ⟨p, l, e, R, u, m, args, below, meth, c, Q⟩ := E
  obtain ⟨hx, hb, hml, hown, hts, hK, hN, hlk, hB, rfl⟩ := X
  obtain ⟨d, rfl⟩ := d
  intro H locs ls hH hS hl
  exact lv_irem hx hb d hne (kk H locs ls hH hS hl)
theorem r_ldiv (X : zX E G cc nL own rm) {x y : Int64} (hne : ¬ y = 0) (d : zd cc pc (.ldiv) 1 nx)
    (kk : zW E G nL s n k nx L (.long (x / y) :: st)) : zW E G nL s n k pc L (.long y :: .long x :: st) := by
  obtain ⟨p, l, e, R, u, m, args, below, meth, c, Q⟩ := E
  obtain ⟨hx, hb, hml, hown, hts, hK, hN, hlk, hB, rfl⟩ := X
  obtain ⟨d, rfl⟩ := d
  intro H locs ls hH hS hl
  exact lv_ldiv hx hb d hne (kk H locs ls hH hS hl)
theorem r_lrem (X : zX E G cc nL own rm) {x y : Int64} (hne : ¬ y = 0) (d : zd cc pc (.lrem) 1 nx)
    (kk : zW E G nL s n k nx L (.long (x - x / y * y) :: st)) : zW E G nL s n k pc L (.long y :: .long x :: st) := by
  obtain ⟨p, l, e, R, u, m, args, below, meth, c, Q⟩ := E
  obtain ⟨hx, hb, hml, hown, hts, hK, hN, hlk, hB, rfl⟩ := X
  obtain ⟨d, rfl⟩ := d
  intro H locs ls hH hS hl
  exact lv_lrem hx hb d hne (kk H locs ls hH hS hl)
theorem r_ineg (X : zX E G cc nL own rm) {x : Int32} (d : zd cc pc (.ineg) 1 nx)
    (kk : zW E G nL s n k nx L (.int (-x) :: st)) : zW E G nL s n k pc L (.int x :: st) := by
  obtain ⟨p, l, e, R, u, m, args, below, meth, c, Q⟩ := E
  obtain ⟨hx, hb, hml, hown, hts, hK, hN, hlk, hB, rfl⟩ := X
  obtain ⟨d, rfl⟩ := d
  intro H locs ls hH hS hl
  exact lv_ineg hx hb d (kk H locs ls hH hS hl)
theorem r_lneg (X : zX E G cc nL own rm) {x : Int64} (d : zd cc pc (.lneg) 1 nx)
    (kk : zW E G nL s n k nx L (.long (-x) :: st)) : zW E G nL s n k pc L (.long x :: st) := by
  obtain ⟨p, l, e, R, u, m, args, below, meth, c, Q⟩ := E
  obtain ⟨hx, hb, hml, hown, hts, hK, hN, hlk, hB, rfl⟩ := X
  obtain ⟨d, rfl⟩ := d
  intro H locs ls hH hS hl
  exact lv_lneg hx hb d (kk H locs ls hH hS hl)
theorem r_i2l (X : zX E G cc nL own rm) {x : Int32} (d : zd cc pc (.i2l) 1 nx)
    (kk : zW E G nL s n k nx L (.long x.toInt64 :: st)) : zW E G nL s n k pc L (.int x :: st) := by
  obtain ⟨p, l, e, R, u, m, args, below, meth, c, Q⟩ := E
  obtain ⟨hx, hb, hml, hown, hts, hK, hN, hlk, hB, rfl⟩ := X
  obtain ⟨d, rfl⟩ := d
  intro H locs ls hH hS hl
  exact lv_i2l hx hb d rfl (kk H locs ls hH hS hl)
theorem r_l2i (X : zX E G cc nL own rm) {x : Int64} (d : zd cc pc (.l2i) 1 nx)
    (kk : zW E G nL s n k nx L (.int x.toInt32 :: st)) : zW E G nL s n k pc L (.long x :: st) := by
  obtain ⟨p, l, e, R, u, m, args, below, meth, c, Q⟩ := E
  obtain ⟨hx, hb, hml, hown, hts, hK, hN, hlk, hB, rfl⟩ := X
  obtain ⟨d, rfl⟩ := d
  intro H locs ls hH hS hl
  exact lv_l2i hx hb d rfl (kk H locs ls hH hS hl)
theorem r_lshl (X : zX E G cc nL own rm) {x : Int64} {y : Int32} (d : zd cc pc (.lshl) 1 nx)
    (kk : zW E G nL s n k nx L (.long (x <<< (y.toInt64 &&& 63)) :: st)) : zW E G nL s n k pc L (.int y :: .long x :: st) := by
  obtain ⟨p, l, e, R, u, m, args, below, meth, c, Q⟩ := E
  obtain ⟨hx, hb, hml, hown, hts, hK, hN, hlk, hB, rfl⟩ := X
  obtain ⟨d, rfl⟩ := d
  intro H locs ls hH hS hl
  exact lv_lshl hx hb d rfl (kk H locs ls hH hS hl)
theorem r_lshr (X : zX E G cc nL own rm) {x : Int64} {y : Int32} (d : zd cc pc (.lshr) 1 nx)
    (kk : zW E G nL s n k nx L (.long (x >>> (y.toInt64 &&& 63)) :: st)) : zW E G nL s n k pc L (.int y :: .long x :: st) := by
  obtain ⟨p, l, e, R, u, m, args, below, meth, c, Q⟩ := E
  obtain ⟨hx, hb, hml, hown, hts, hK, hN, hlk, hB, rfl⟩ := X
  obtain ⟨d, rfl⟩ := d
  intro H locs ls hH hS hl
  exact lv_lshr hx hb d rfl (kk H locs ls hH hS hl)
theorem r_dup (X : zX E G cc nL own rm) {v : Value} (hv : v.category = 1) (d : zd cc pc (.dup) 1 nx)
    (kk : zW E G nL s n k nx L (v :: v :: st)) : zW E G nL s n k pc L (v :: st) := by
  obtain ⟨p, l, e, R, u, m, args, below, meth, c, Q⟩ := E
  obtain ⟨hx, hb, hml, hown, hts, hK, hN, hlk, hB, rfl⟩ := X
  obtain ⟨d, rfl⟩ := d
  intro H locs ls hH hS hl
  exact lv_dup hx hb d hv (kk H locs ls hH hS hl)
theorem r_dup2 (X : zX E G cc nL own rm) {v w : Value} (hv : v.category = 1) (hw : w.category = 1) (d : zd cc pc (.dup2) 1 nx)
    (kk : zW E G nL s n k nx L (v :: w :: v :: w :: st)) : zW E G nL s n k pc L (v :: w :: st) := by
  obtain ⟨p, l, e, R, u, m, args, below, meth, c, Q⟩ := E
  obtain ⟨hx, hb, hml, hown, hts, hK, hN, hlk, hB, rfl⟩ := X
  obtain ⟨d, rfl⟩ := d
  intro H locs ls hH hS hl
  exact lv_dup2_11 hx hb d hv hw (kk H locs ls hH hS hl)
theorem r_pop (X : zX E G cc nL own rm) {v : Value} (hv : v.category = 1) (d : zd cc pc (.pop) 1 nx)
    (kk : zW E G nL s n k nx L (st)) : zW E G nL s n k pc L (v :: st) := by
  obtain ⟨p, l, e, R, u, m, args, below, meth, c, Q⟩ := E
  obtain ⟨hx, hb, hml, hown, hts, hK, hN, hlk, hB, rfl⟩ := X
  obtain ⟨d, rfl⟩ := d
  intro H locs ls hH hS hl
  exact lv_pop hx hb d hv (kk H locs ls hH hS hl)
theorem r_iconst (X : zX E G cc nL own rm) {i : Int} (v : Int32) (hv : Int32.ofInt i = v) (d : zd cc pc (.iconst i) 1 nx)
    (kk : zW E G nL s n k nx L (.int v :: st)) : zW E G nL s n k pc L (st) := by
  obtain ⟨p, l, e, R, u, m, args, below, meth, c, Q⟩ := E
  obtain ⟨hx, hb, hml, hown, hts, hK, hN, hlk, hB, rfl⟩ := X
  obtain ⟨d, rfl⟩ := d
  intro H locs ls hH hS hl
  exact lv_iconst hx hb d hv (kk H locs ls hH hS hl)
theorem r_bipush (X : zX E G cc nL own rm) {i : Int} (v : Int32) (hv : (Int8.ofInt i).toInt32 = v) (d : zd cc pc (.bipush i) 2 nx)
    (kk : zW E G nL s n k nx L (.int v :: st)) : zW E G nL s n k pc L (st) := by
  obtain ⟨p, l, e, R, u, m, args, below, meth, c, Q⟩ := E
  obtain ⟨hx, hb, hml, hown, hts, hK, hN, hlk, hB, rfl⟩ := X
  obtain ⟨d, rfl⟩ := d
  intro H locs ls hH hS hl
  exact lv_bipush hx hb d hv (kk H locs ls hH hS hl)
theorem r_sipush (X : zX E G cc nL own rm) {i : Int} (v : Int32) (hv : (Int16.ofInt i).toInt32 = v) (d : zd cc pc (.sipush i) 3 nx)
    (kk : zW E G nL s n k nx L (.int v :: st)) : zW E G nL s n k pc L (st) := by
  obtain ⟨p, l, e, R, u, m, args, below, meth, c, Q⟩ := E
  obtain ⟨hx, hb, hml, hown, hts, hK, hN, hlk, hB, rfl⟩ := X
  obtain ⟨d, rfl⟩ := d
  intro H locs ls hH hS hl
  exact lv_sipush hx hb d hv (kk H locs ls hH hS hl)
theorem r_lconst (X : zX E G cc nL own rm) {i : Fin 2} (v : Int64) (hv : Int64.ofNat (i : Nat) = v) (d : zd cc pc (.lconst i) 1 nx)
    (kk : zW E G nL s n k nx L (.long v :: st)) : zW E G nL s n k pc L (st) := by
  obtain ⟨p, l, e, R, u, m, args, below, meth, c, Q⟩ := E
  obtain ⟨hx, hb, hml, hown, hts, hK, hN, hlk, hB, rfl⟩ := X
  obtain ⟨d, rfl⟩ := d
  intro H locs ls hH hS hl
  exact lv_lconst hx hb d hv (kk H locs ls hH hS hl)
theorem r_ldc (X : zX E G cc nL own rm) {i : Nat} {v : Int32} (hc : Cond.constant own i v ∈ zT) (d : zd cc pc (.ldc i) 2 nx)
    (kk : zW E G nL s n k nx L (.int v :: st)) : zW E G nL s n k pc L (st) := by
  obtain ⟨p, l, e, R, u, m, args, below, meth, c, Q⟩ := E
  obtain ⟨hx, hb, hml, hown, hts, hK, hN, hlk, hB, rfl⟩ := X
  obtain ⟨d, rfl⟩ := d
  intro H locs ls hH hS hl
  exact lv_ldc hx hb hown (hts _ hc) d (kk H locs ls hH hS hl)
theorem r_ldcw (X : zX E G cc nL own rm) {i : Nat} {v : Int32} (hc : Cond.constant own i v ∈ zT) (d : zd cc pc (.ldc_w i) 3 nx)
    (kk : zW E G nL s n k nx L (.int v :: st)) : zW E G nL s n k pc L (st) := by
  obtain ⟨p, l, e, R, u, m, args, below, meth, c, Q⟩ := E
  obtain ⟨hx, hb, hml, hown, hts, hK, hN, hlk, hB, rfl⟩ := X
  obtain ⟨d, rfl⟩ := d
  intro H locs ls hH hS hl
  exact lv_ldcw hx hb hown (hts _ hc) d (kk H locs ls hH hS hl)
theorem r_ldc2 (X : zX E G cc nL own rm) {i : Nat} {v : Int64} (hc : Cond.constantLong own i v ∈ zT) (d : zd cc pc (.ldc2_w i) 3 nx)
    (kk : zW E G nL s n k nx L (.long v :: st)) : zW E G nL s n k pc L (st) := by
  obtain ⟨p, l, e, R, u, m, args, below, meth, c, Q⟩ := E
  obtain ⟨hx, hb, hml, hown, hts, hK, hN, hlk, hB, rfl⟩ := X
  obtain ⟨d, rfl⟩ := d
  intro H locs ls hH hS hl
  exact lv_ldc2 hx hb hown (hts _ hc) d (kk H locs ls hH hS hl)
theorem r_null (X : zX E G cc nL own rm)  (d : zd cc pc (.aconst_null) 1 nx)
    (kk : zW E G nL s n k nx L (.null :: st)) : zW E G nL s n k pc L (st) := by
  obtain ⟨p, l, e, R, u, m, args, below, meth, c, Q⟩ := E
  obtain ⟨hx, hb, hml, hown, hts, hK, hN, hlk, hB, rfl⟩ := X
  obtain ⟨d, rfl⟩ := d
  intro H locs ls hH hS hl
  exact lv_null hx hb d (kk H locs ls hH hS hl)
theorem r_iload_n (X : zX E G cc nL own rm) {i : Fin 4} {x : Int32} (hl : zlk L i = some (.int x)) (d : zd cc pc (.iload_n i) 1 nx)
    (kk : zW E G nL s n k nx L (.int x :: st)) : zW E G nL s n k pc L (st) := by
  obtain ⟨p, l, e, R, u, m, args, below, meth, c, Q⟩ := E
  obtain ⟨hx, hb, hml, hown, hts, hK, hN, hlk, hB, rfl⟩ := X
  obtain ⟨d, rfl⟩ := d
  intro H locs ls hH hS hl0
  exact lv_iload_n hx hb d rfl (zlk_at hl0 hl) (kk H locs ls hH hS hl0)
theorem r_iload (X : zX E G cc nL own rm) {i : Nat} {x : Int32} (hl : zlk L i = some (.int x)) (d : zd cc pc (.iload i) 2 nx)
    (kk : zW E G nL s n k nx L (.int x :: st)) : zW E G nL s n k pc L (st) := by
  obtain ⟨p, l, e, R, u, m, args, below, meth, c, Q⟩ := E
  obtain ⟨hx, hb, hml, hown, hts, hK, hN, hlk, hB, rfl⟩ := X
  obtain ⟨d, rfl⟩ := d
  intro H locs ls hH hS hl0
  exact lv_iload hx hb d (zlk_at hl0 hl) (kk H locs ls hH hS hl0)
theorem r_istore_n (X : zX E G cc nL own rm) {i : Fin 4} {x : Int32} (hi : (i : Nat) < nL) (d : zd cc pc (.istore_n i) 1 nx)
    (kk : zW E G nL s n k nx (zs1 L i (.int x)) (st)) : zW E G nL s n k pc L (.int x :: st) := by
  obtain ⟨p, l, e, R, u, m, args, below, meth, c, Q⟩ := E
  obtain ⟨hx, hb, hml, hown, hts, hK, hN, hlk, hB, rfl⟩ := X
  obtain ⟨d, rfl⟩ := d
  intro H locs ls hH hS hl
  exact lv_istore_n hx hb d rfl hl hi rfl (fun ls hl => kk H locs ls hH hS hl)
theorem r_istore (X : zX E G cc nL own rm) {i : Nat} {x : Int32} (hi : i < nL) (d : zd cc pc (.istore i) 2 nx)
    (kk : zW E G nL s n k nx (zs1 L i (.int x)) (st)) : zW E G nL s n k pc L (.int x :: st) := by
  obtain ⟨p, l, e, R, u, m, args, below, meth, c, Q⟩ := E
  obtain ⟨hx, hb, hml, hown, hts, hK, hN, hlk, hB, rfl⟩ := X
  obtain ⟨d, rfl⟩ := d
  intro H locs ls hH hS hl
  exact lv_istore hx hb d hl hi rfl (fun ls hl => kk H locs ls hH hS hl)
theorem r_lload_n (X : zX E G cc nL own rm) {i : Fin 4} {x : Int64} (hl : zlk L i = some (.long x)) (d : zd cc pc (.lload_n i) 1 nx)
    (kk : zW E G nL s n k nx L (.long x :: st)) : zW E G nL s n k pc L (st) := by
  obtain ⟨p, l, e, R, u, m, args, below, meth, c, Q⟩ := E
  obtain ⟨hx, hb, hml, hown, hts, hK, hN, hlk, hB, rfl⟩ := X
  obtain ⟨d, rfl⟩ := d
  intro H locs ls hH hS hl0
  exact lv_lload_n hx hb d rfl (zlk_at hl0 hl) (kk H locs ls hH hS hl0)
theorem r_lload (X : zX E G cc nL own rm) {i : Nat} {x : Int64} (hl : zlk L i = some (.long x)) (d : zd cc pc (.lload i) 2 nx)
    (kk : zW E G nL s n k nx L (.long x :: st)) : zW E G nL s n k pc L (st) := by
  obtain ⟨p, l, e, R, u, m, args, below, meth, c, Q⟩ := E
  obtain ⟨hx, hb, hml, hown, hts, hK, hN, hlk, hB, rfl⟩ := X
  obtain ⟨d, rfl⟩ := d
  intro H locs ls hH hS hl0
  exact lv_lload hx hb d (zlk_at hl0 hl) (kk H locs ls hH hS hl0)
theorem r_lstore_n (X : zX E G cc nL own rm) {i : Fin 4} {x : Int64} (hi : (i : Nat) + 1 < nL) (d : zd cc pc (.lstore_n i) 1 nx)
    (kk : zW E G nL s n k nx (zs2 L i (.long x)) (st)) : zW E G nL s n k pc L (.long x :: st) := by
  obtain ⟨p, l, e, R, u, m, args, below, meth, c, Q⟩ := E
  obtain ⟨hx, hb, hml, hown, hts, hK, hN, hlk, hB, rfl⟩ := X
  obtain ⟨d, rfl⟩ := d
  intro H locs ls hH hS hl
  exact lv_lstore_n hx hb d rfl hl hi rfl (fun ls hl => kk H locs ls hH hS hl)
theorem r_lstore (X : zX E G cc nL own rm) {i : Nat} {x : Int64} (hi : i + 1 < nL) (d : zd cc pc (.lstore i) 2 nx)
    (kk : zW E G nL s n k nx (zs2 L i (.long x)) (st)) : zW E G nL s n k pc L (.long x :: st) := by
  obtain ⟨p, l, e, R, u, m, args, below, meth, c, Q⟩ := E
  obtain ⟨hx, hb, hml, hown, hts, hK, hN, hlk, hB, rfl⟩ := X
  obtain ⟨d, rfl⟩ := d
  intro H locs ls hH hS hl
  exact lv_lstore hx hb d hl hi rfl (fun ls hl => kk H locs ls hH hS hl)
theorem r_aload_n (X : zX E G cc nL own rm) {i : Fin 4} {x : Nat} (hl : zlk L i = some (.ref x)) (d : zd cc pc (.aload_n i) 1 nx)
    (kk : zW E G nL s n k nx L (.ref x :: st)) : zW E G nL s n k pc L (st) := by
  obtain ⟨p, l, e, R, u, m, args, below, meth, c, Q⟩ := E
  obtain ⟨hx, hb, hml, hown, hts, hK, hN, hlk, hB, rfl⟩ := X
  obtain ⟨d, rfl⟩ := d
  intro H locs ls hH hS hl0
  exact lv_aload_n hx hb d rfl (zlk_at hl0 hl) (kk H locs ls hH hS hl0)
theorem r_aload (X : zX E G cc nL own rm) {i : Nat} {x : Nat} (hl : zlk L i = some (.ref x)) (d : zd cc pc (.aload i) 2 nx)
    (kk : zW E G nL s n k nx L (.ref x :: st)) : zW E G nL s n k pc L (st) := by
  obtain ⟨p, l, e, R, u, m, args, below, meth, c, Q⟩ := E
  obtain ⟨hx, hb, hml, hown, hts, hK, hN, hlk, hB, rfl⟩ := X
  obtain ⟨d, rfl⟩ := d
  intro H locs ls hH hS hl0
  exact lv_aload hx hb d (zlk_at hl0 hl) (kk H locs ls hH hS hl0)
theorem r_astore_n (X : zX E G cc nL own rm) {i : Fin 4} {x : Nat} (hi : (i : Nat) < nL) (d : zd cc pc (.astore_n i) 1 nx)
    (kk : zW E G nL s n k nx (zs1 L i (.ref x)) (st)) : zW E G nL s n k pc L (.ref x :: st) := by
  obtain ⟨p, l, e, R, u, m, args, below, meth, c, Q⟩ := E
  obtain ⟨hx, hb, hml, hown, hts, hK, hN, hlk, hB, rfl⟩ := X
  obtain ⟨d, rfl⟩ := d
  intro H locs ls hH hS hl
  exact lv_astore_n hx hb d rfl hl hi rfl (fun ls hl => kk H locs ls hH hS hl)
theorem r_astore (X : zX E G cc nL own rm) {i : Nat} {x : Nat} (hi : i < nL) (d : zd cc pc (.astore i) 2 nx)
    (kk : zW E G nL s n k nx (zs1 L i (.ref x)) (st)) : zW E G nL s n k pc L (.ref x :: st) := by
  obtain ⟨p, l, e, R, u, m, args, below, meth, c, Q⟩ := E
  obtain ⟨hx, hb, hml, hown, hts, hK, hN, hlk, hB, rfl⟩ := X
  obtain ⟨d, rfl⟩ := d
  intro H locs ls hH hS hl
  exact lv_astore hx hb d hl hi rfl (fun ls hl => kk H locs ls hH hS hl)
theorem r_aload_nN (X : zX E G cc nL own rm) {i : Fin 4} (hl : zlk L i = some .null) (d : zd cc pc (.aload_n i) 1 nx)
    (kk : zW E G nL s n k nx L (.null :: st)) : zW E G nL s n k pc L (st) := by
  obtain ⟨p, l, e, R, u, m, args, below, meth, c, Q⟩ := E
  obtain ⟨hx, hb, hml, hown, hts, hK, hN, hlk, hB, rfl⟩ := X
  obtain ⟨d, rfl⟩ := d
  intro H locs ls hH hS hl0
  exact lv_aload_nN hx hb d rfl (zlk_at hl0 hl) (kk H locs ls hH hS hl0)
theorem r_aloadN (X : zX E G cc nL own rm) {i : Nat} (hl : zlk L i = some .null) (d : zd cc pc (.aload i) 2 nx)
    (kk : zW E G nL s n k nx L (.null :: st)) : zW E G nL s n k pc L (st) := by
  obtain ⟨p, l, e, R, u, m, args, below, meth, c, Q⟩ := E
  obtain ⟨hx, hb, hml, hown, hts, hK, hN, hlk, hB, rfl⟩ := X
  obtain ⟨d, rfl⟩ := d
  intro H locs ls hH hS hl0
  exact lv_aloadN hx hb d (zlk_at hl0 hl) (kk H locs ls hH hS hl0)
theorem r_astore_nN (X : zX E G cc nL own rm) {i : Fin 4} (hi : (i : Nat) < nL) (d : zd cc pc (.astore_n i) 1 nx)
    (kk : zW E G nL s n k nx (zs1 L i .null) (st)) : zW E G nL s n k pc L (.null :: st) := by
  obtain ⟨p, l, e, R, u, m, args, below, meth, c, Q⟩ := E
  obtain ⟨hx, hb, hml, hown, hts, hK, hN, hlk, hB, rfl⟩ := X
  obtain ⟨d, rfl⟩ := d
  intro H locs ls hH hS hl
  exact lv_astore_nN hx hb d rfl hl hi rfl (fun ls hl => kk H locs ls hH hS hl)
theorem r_astoreN (X : zX E G cc nL own rm) {i : Nat} (hi : i < nL) (d : zd cc pc (.astore i) 2 nx)
    (kk : zW E G nL s n k nx (zs1 L i .null) (st)) : zW E G nL s n k pc L (.null :: st) := by
  obtain ⟨p, l, e, R, u, m, args, below, meth, c, Q⟩ := E
  obtain ⟨hx, hb, hml, hown, hts, hK, hN, hlk, hB, rfl⟩ := X
  obtain ⟨d, rfl⟩ := d
  intro H locs ls hH hS hl
  exact lv_astoreN hx hb d hl hi rfl (fun ls hl => kk H locs ls hH hS hl)
theorem zlk_pos {i : Nat} {v : Value} {L : List (Nat × Value)} (h : zlk L i = some v) : ∃ q : Nat, L[q]? = some (i, v) := List.getElem?_of_mem (zlk_mem h)
theorem r_iinc (X : zX E G cc nL own rm) {i : Nat} {c0 : Int} {x : Int32} (c1 : Int32) (hc : Int32.ofInt c0 = c1) (hl : zlk L i = some (.int x)) (hi : i < nL) (d : zd cc pc (.iinc i c0) 3 nx)
    (kk : zW E G nL s n k nx (zs1 L i (.int (x + c1))) (st)) : zW E G nL s n k pc L (st) := by
  obtain ⟨p, l, e, R, u, m, args, below, meth, c, Q⟩ := E
  obtain ⟨hx, hb, hml, hown, hts, hK, hN, hlk, hB, rfl⟩ := X
  obtain ⟨d, rfl⟩ := d
  intro H locs ls hH hS hl0
  obtain ⟨q, hq⟩ := zlk_pos hl
  exact lv_iinc hx hb d hl0 hq (by rw [hc]) hi rfl (fun ls hl => kk H locs ls hH hS hl)
theorem r_if_eq (X : zX E G cc nL own rm) {x : Int32} {off : Int} (tgt : Nat) (d : zd cc pc (.ifCond .eq off) 3 nx) (ht : (pc : Int) + off = (tgt : Int))
    (kt : x = 0 → zW E G nL s n k tgt L st) (kf : ¬ x = 0 → zW E G nL s n k nx L st) : zW E G nL s n k pc L (.int x :: st) := by
  obtain ⟨p, l, e, R, u, m, args, below, meth, c, Q⟩ := E
  obtain ⟨hx, hb, hml, hown, hts, hK, hN, hlk, hB, rfl⟩ := X
  obtain ⟨d, rfl⟩ := d
  intro H locs ls hH hS hl
  exact lv_if_eq hx hb d ht (fun h => kt h H locs ls hH hS hl) (fun h => kf h H locs ls hH hS hl)
theorem r_icmp_eq (X : zX E G cc nL own rm) {x y : Int32} {off : Int} (tgt : Nat) (d : zd cc pc (.if_icmp .eq off) 3 nx) (ht : (pc : Int) + off = (tgt : Int))
    (kt : x = y → zW E G nL s n k tgt L st) (kf : ¬ x = y → zW E G nL s n k nx L st) : zW E G nL s n k pc L (.int y :: .int x :: st) := by
  obtain ⟨p, l, e, R, u, m, args, below, meth, c, Q⟩ := E
  obtain ⟨hx, hb, hml, hown, hts, hK, hN, hlk, hB, rfl⟩ := X
  obtain ⟨d, rfl⟩ := d
  intro H locs ls hH hS hl
  exact lv_icmp_eq hx hb d ht (fun h => kt h H locs ls hH hS hl) (fun h => kf h H locs ls hH hS hl)
theorem r_if_ne (X : zX E G cc nL own rm) {x : Int32} {off : Int} (tgt : Nat) (d : zd cc pc (.ifCond .ne off) 3 nx) (ht : (pc : Int) + off = (tgt : Int))
    (kt : ¬ x = 0 → zW E G nL s n k tgt L st) (kf : x = 0 → zW E G nL s n k nx L st) : zW E G nL s n k pc L (.int x :: st) := by
  obtain ⟨p, l, e, R, u, m, args, below, meth, c, Q⟩ := E
  obtain ⟨hx, hb, hml, hown, hts, hK, hN, hlk, hB, rfl⟩ := X
  obtain ⟨d, rfl⟩ := d
  intro H locs ls hH hS hl
  exact lv_if_ne hx hb d ht (fun h => kt h H locs ls hH hS hl) (fun h => kf h H locs ls hH hS hl)
theorem r_icmp_ne (X : zX E G cc nL own rm) {x y : Int32} {off : Int} (tgt : Nat) (d : zd cc pc (.if_icmp .ne off) 3 nx) (ht : (pc : Int) + off = (tgt : Int))
    (kt : ¬ x = y → zW E G nL s n k tgt L st) (kf : x = y → zW E G nL s n k nx L st) : zW E G nL s n k pc L (.int y :: .int x :: st) := by
  obtain ⟨p, l, e, R, u, m, args, below, meth, c, Q⟩ := E
  obtain ⟨hx, hb, hml, hown, hts, hK, hN, hlk, hB, rfl⟩ := X
  obtain ⟨d, rfl⟩ := d
  intro H locs ls hH hS hl
  exact lv_icmp_ne hx hb d ht (fun h => kt h H locs ls hH hS hl) (fun h => kf h H locs ls hH hS hl)
theorem zlt {x y : Int32} : x < y ↔ x.toInt < y.toInt := Int32.lt_iff_toInt_lt
theorem zle {x y : Int32} : x ≤ y ↔ x.toInt ≤ y.toInt := Int32.le_iff_toInt_le
theorem r_if_lt (X : zX E G cc nL own rm) {x : Int32} {off : Int} (tgt : Nat) (d : zd cc pc (.ifCond .lt off) 3 nx) (ht : (pc : Int) + off = (tgt : Int))
    (kt : x.toInt < (0 : Int) → zW E G nL s n k tgt L st) (kf : (0 : Int) ≤ x.toInt → zW E G nL s n k nx L st) : zW E G nL s n k pc L (.int x :: st) := by
  obtain ⟨p, l, e, R, u, m, args, below, meth, c, Q⟩ := E
  obtain ⟨hx, hb, hml, hown, hts, hK, hN, hlk, hB, rfl⟩ := X
  obtain ⟨d, rfl⟩ := d
  intro H locs ls hH hS hl
  exact lv_if_lt hx hb d ht (fun h => kt (by rw [zlt] at h; simpa using h) H locs ls hH hS hl) (fun h => kf (by have h2 := mt zlt.mpr h; simp only [Int32.toInt_zero] at h2; omega) H locs ls hH hS hl)
theorem r_icmp_lt (X : zX E G cc nL own rm) {x y : Int32} {off : Int} (tgt : Nat) (d : zd cc pc (.if_icmp .lt off) 3 nx) (ht : (pc : Int) + off = (tgt : Int))
    (kt : x.toInt < y.toInt → zW E G nL s n k tgt L st) (kf : y.toInt ≤ x.toInt → zW E G nL s n k nx L st) : zW E G nL s n k pc L (.int y :: .int x :: st) := by
  obtain ⟨p, l, e, R, u, m, args, below, meth, c, Q⟩ := E
  obtain ⟨hx, hb, hml, hown, hts, hK, hN, hlk, hB, rfl⟩ := X
  obtain ⟨d, rfl⟩ := d
  intro H locs ls hH hS hl
  exact lv_icmp_lt hx hb d ht (fun h => kt (zlt.mp h) H locs ls hH hS hl) (fun h => kf (by have h2 := mt zlt.mpr h; omega) H locs ls hH hS hl)
theorem r_if_ge (X : zX E G cc nL own rm) {x : Int32} {off : Int} (tgt : Nat) (d : zd cc pc (.ifCond .ge off) 3 nx) (ht : (pc : Int) + off = (tgt : Int))
    (kt : (0 : Int) ≤ x.toInt → zW E G nL s n k tgt L st) (kf : x.toInt < (0 : Int) → zW E G nL s n k nx L st) : zW E G nL s n k pc L (.int x :: st) := by
  obtain ⟨p, l, e, R, u, m, args, below, meth, c, Q⟩ := E
  obtain ⟨hx, hb, hml, hown, hts, hK, hN, hlk, hB, rfl⟩ := X
  obtain ⟨d, rfl⟩ := d
  intro H locs ls hH hS hl
  exact lv_if_ge hx hb d ht (fun h => kt (by rw [zle] at h; simpa using h) H locs ls hH hS hl) (fun h => kf (by have h2 := mt zle.mpr h; simp only [Int32.toInt_zero] at h2; omega) H locs ls hH hS hl)
theorem r_icmp_ge (X : zX E G cc nL own rm) {x y : Int32} {off : Int} (tgt : Nat) (d : zd cc pc (.if_icmp .ge off) 3 nx) (ht : (pc : Int) + off = (tgt : Int))
    (kt : y.toInt ≤ x.toInt → zW E G nL s n k tgt L st) (kf : x.toInt < y.toInt → zW E G nL s n k nx L st) : zW E G nL s n k pc L (.int y :: .int x :: st) := by
  obtain ⟨p, l, e, R, u, m, args, below, meth, c, Q⟩ := E
  obtain ⟨hx, hb, hml, hown, hts, hK, hN, hlk, hB, rfl⟩ := X
  obtain ⟨d, rfl⟩ := d
  intro H locs ls hH hS hl
  exact lv_icmp_ge hx hb d ht (fun h => kt (zle.mp h) H locs ls hH hS hl) (fun h => kf (by have h2 := mt zle.mpr h; omega) H locs ls hH hS hl)
theorem r_if_gt (X : zX E G cc nL own rm) {x : Int32} {off : Int} (tgt : Nat) (d : zd cc pc (.ifCond .gt off) 3 nx) (ht : (pc : Int) + off = (tgt : Int))
    (kt : (0 : Int) < x.toInt → zW E G nL s n k tgt L st) (kf : x.toInt ≤ (0 : Int) → zW E G nL s n k nx L st) : zW E G nL s n k pc L (.int x :: st) := by
  obtain ⟨p, l, e, R, u, m, args, below, meth, c, Q⟩ := E
  obtain ⟨hx, hb, hml, hown, hts, hK, hN, hlk, hB, rfl⟩ := X
  obtain ⟨d, rfl⟩ := d
  intro H locs ls hH hS hl
  exact lv_if_gt hx hb d ht (fun h => kt (by rw [zlt] at h; simpa using h) H locs ls hH hS hl) (fun h => kf (by have h2 := mt zlt.mpr h; simp only [Int32.toInt_zero] at h2; omega) H locs ls hH hS hl)
theorem r_icmp_gt (X : zX E G cc nL own rm) {x y : Int32} {off : Int} (tgt : Nat) (d : zd cc pc (.if_icmp .gt off) 3 nx) (ht : (pc : Int) + off = (tgt : Int))
    (kt : y.toInt < x.toInt → zW E G nL s n k tgt L st) (kf : x.toInt ≤ y.toInt → zW E G nL s n k nx L st) : zW E G nL s n k pc L (.int y :: .int x :: st) := by
  obtain ⟨p, l, e, R, u, m, args, below, meth, c, Q⟩ := E
  obtain ⟨hx, hb, hml, hown, hts, hK, hN, hlk, hB, rfl⟩ := X
  obtain ⟨d, rfl⟩ := d
  intro H locs ls hH hS hl
  exact lv_icmp_gt hx hb d ht (fun h => kt (zlt.mp h) H locs ls hH hS hl) (fun h => kf (by have h2 := mt zlt.mpr h; omega) H locs ls hH hS hl)
theorem r_if_le (X : zX E G cc nL own rm) {x : Int32} {off : Int} (tgt : Nat) (d : zd cc pc (.ifCond .le off) 3 nx) (ht : (pc : Int) + off = (tgt : Int))
    (kt : x.toInt ≤ (0 : Int) → zW E G nL s n k tgt L st) (kf : (0 : Int) < x.toInt → zW E G nL s n k nx L st) : zW E G nL s n k pc L (.int x :: st) := by
  obtain ⟨p, l, e, R, u, m, args, below, meth, c, Q⟩ := E
  obtain ⟨hx, hb, hml, hown, hts, hK, hN, hlk, hB, rfl⟩ := X
  obtain ⟨d, rfl⟩ := d
  intro H locs ls hH hS hl
  exact lv_if_le hx hb d ht (fun h => kt (by rw [zle] at h; simpa using h) H locs ls hH hS hl) (fun h => kf (by have h2 := mt zle.mpr h; simp only [Int32.toInt_zero] at h2; omega) H locs ls hH hS hl)
theorem r_icmp_le (X : zX E G cc nL own rm) {x y : Int32} {off : Int} (tgt : Nat) (d : zd cc pc (.if_icmp .le off) 3 nx) (ht : (pc : Int) + off = (tgt : Int))
    (kt : x.toInt ≤ y.toInt → zW E G nL s n k tgt L st) (kf : y.toInt < x.toInt → zW E G nL s n k nx L st) : zW E G nL s n k pc L (.int y :: .int x :: st) := by
  obtain ⟨p, l, e, R, u, m, args, below, meth, c, Q⟩ := E
  obtain ⟨hx, hb, hml, hown, hts, hK, hN, hlk, hB, rfl⟩ := X
  obtain ⟨d, rfl⟩ := d
  intro H locs ls hH hS hl
  exact lv_icmp_le hx hb d ht (fun h => kt (zle.mp h) H locs ls hH hS hl) (fun h => kf (by have h2 := mt zle.mpr h; omega) H locs ls hH hS hl)
theorem zcmp_t (x y : Int64) : (lg_cmp x y).toInt = if y.toInt < x.toInt then 1 else if x.toInt = y.toInt then 0 else -1 := by
  unfold lg_cmp
  simp only [gt_iff_lt, Int64.lt_iff_toInt_lt, ← Int64.toInt_inj]
  split
  · rfl
  · split <;> rfl
theorem zcmp_0 (x y : Int64) : lg_cmp x y = 0 ↔ x.toInt = y.toInt := by
  rw [← Int32.toInt_inj, zcmp_t]
  simp only [Int32.toInt_zero]
  split
  · constructor <;> intro h <;> omega
  · split
    · constructor <;> intro h <;> omega
    · constructor <;> intro h <;> omega
theorem r_lcmp_lt (X : zX E G cc nL own rm) {x y : Int64} {off : Int} {p1 : Nat} (tgt : Nat) (d1 : zd cc pc .lcmp 1 p1) (d2 : zd cc p1 (.ifCond .lt off) 3 nx) (ht : (p1 : Int) + off = (tgt : Int))
    (kt : x.toInt < y.toInt → zW E G nL s n k tgt L st) (kf : y.toInt ≤ x.toInt → zW E G nL s n k nx L st) : zW E G nL s n k pc L (.long y :: .long x :: st) := by
  have h0 := zcmp_t x y
  have h00 := zcmp_0 x y
  have hw : zW E G nL s n k p1 L (.int (lg_cmp x y) :: st) := r_if_lt X tgt d2 ht (fun h => kt (by rw [h0] at h; (repeat' split at h) <;> omega)) (fun h => kf (by rw [h0] at h; (repeat' split at h) <;> omega))
  obtain ⟨p, l, e, R, u, m, args, below, meth, c, Q⟩ := E
  obtain ⟨hx, hb, hml, hown, hts, hK, hN, hlk, hB, rfl⟩ := X
  obtain ⟨d, rfl⟩ := d1
  intro H locs ls hH hS hl
  exact W.lcmp hx hb d (hw H locs ls hH hS hl)
theorem r_lcmp_ge (X : zX E G cc nL own rm) {x y : Int64} {off : Int} {p1 : Nat} (tgt : Nat) (d1 : zd cc pc .lcmp 1 p1) (d2 : zd cc p1 (.ifCond .ge off) 3 nx) (ht : (p1 : Int) + off = (tgt : Int))
    (kt : y.toInt ≤ x.toInt → zW E G nL s n k tgt L st) (kf : x.toInt < y.toInt → zW E G nL s n k nx L st) : zW E G nL s n k pc L (.long y :: .long x :: st) := by
  have h0 := zcmp_t x y
  have h00 := zcmp_0 x y
  have hw : zW E G nL s n k p1 L (.int (lg_cmp x y) :: st) := r_if_ge X tgt d2 ht (fun h => kt (by rw [h0] at h; (repeat' split at h) <;> omega)) (fun h => kf (by rw [h0] at h; (repeat' split at h) <;> omega))
  obtain ⟨p, l, e, R, u, m, args, below, meth, c, Q⟩ := E
  obtain ⟨hx, hb, hml, hown, hts, hK, hN, hlk, hB, rfl⟩ := X
  obtain ⟨d, rfl⟩ := d1
  intro H locs ls hH hS hl
  exact W.lcmp hx hb d (hw H locs ls hH hS hl)
theorem r_lcmp_gt (X : zX E G cc nL own rm) {x y : Int64} {off : Int} {p1 : Nat} (tgt : Nat) (d1 : zd cc pc .lcmp 1 p1) (d2 : zd cc p1 (.ifCond .gt off) 3 nx) (ht : (p1 : Int) + off = (tgt : Int))
    (kt : y.toInt < x.toInt → zW E G nL s n k tgt L st) (kf : x.toInt ≤ y.toInt → zW E G nL s n k nx L st) : zW E G nL s n k pc L (.long y :: .long x :: st) := by
  have h0 := zcmp_t x y
  have h00 := zcmp_0 x y
  have hw : zW E G nL s n k p1 L (.int (lg_cmp x y) :: st) := r_if_gt X tgt d2 ht (fun h => kt (by rw [h0] at h; (repeat' split at h) <;> omega)) (fun h => kf (by rw [h0] at h; (repeat' split at h) <;> omega))
  obtain ⟨p, l, e, R, u, m, args, below, meth, c, Q⟩ := E
  obtain ⟨hx, hb, hml, hown, hts, hK, hN, hlk, hB, rfl⟩ := X
  obtain ⟨d, rfl⟩ := d1
  intro H locs ls hH hS hl
  exact W.lcmp hx hb d (hw H locs ls hH hS hl)
theorem r_lcmp_le (X : zX E G cc nL own rm) {x y : Int64} {off : Int} {p1 : Nat} (tgt : Nat) (d1 : zd cc pc .lcmp 1 p1) (d2 : zd cc p1 (.ifCond .le off) 3 nx) (ht : (p1 : Int) + off = (tgt : Int))
    (kt : x.toInt ≤ y.toInt → zW E G nL s n k tgt L st) (kf : y.toInt < x.toInt → zW E G nL s n k nx L st) : zW E G nL s n k pc L (.long y :: .long x :: st) := by
  have h0 := zcmp_t x y
  have h00 := zcmp_0 x y
  have hw : zW E G nL s n k p1 L (.int (lg_cmp x y) :: st) := r_if_le X tgt d2 ht (fun h => kt (by rw [h0] at h; (repeat' split at h) <;> omega)) (fun h => kf (by rw [h0] at h; (repeat' split at h) <;> omega))
  obtain ⟨p, l, e, R, u, m, args, below, meth, c, Q⟩ := E
  obtain ⟨hx, hb, hml, hown, hts, hK, hN, hlk, hB, rfl⟩ := X
  obtain ⟨d, rfl⟩ := d1
  intro H locs ls hH hS hl
  exact W.lcmp hx hb d (hw H locs ls hH hS hl)
theorem r_lcmp_eq (X : zX E G cc nL own rm) {x y : Int64} {off : Int} {p1 : Nat} (tgt : Nat) (d1 : zd cc pc .lcmp 1 p1) (d2 : zd cc p1 (.ifCond .eq off) 3 nx) (ht : (p1 : Int) + off = (tgt : Int))
    (kt : x.toInt = y.toInt → zW E G nL s n k tgt L st) (kf : ¬ x.toInt = y.toInt → zW E G nL s n k nx L st) : zW E G nL s n k pc L (.long y :: .long x :: st) := by
  have h0 := zcmp_t x y
  have h00 := zcmp_0 x y
  have hw : zW E G nL s n k p1 L (.int (lg_cmp x y) :: st) := r_if_eq X tgt d2 ht (fun h => kt (h00.mp h)) (fun h => kf (fun q => h (h00.mpr q)))
  obtain ⟨p, l, e, R, u, m, args, below, meth, c, Q⟩ := E
  obtain ⟨hx, hb, hml, hown, hts, hK, hN, hlk, hB, rfl⟩ := X
  obtain ⟨d, rfl⟩ := d1
  intro H locs ls hH hS hl
  exact W.lcmp hx hb d (hw H locs ls hH hS hl)
theorem r_lcmp_ne (X : zX E G cc nL own rm) {x y : Int64} {off : Int} {p1 : Nat} (tgt : Nat) (d1 : zd cc pc .lcmp 1 p1) (d2 : zd cc p1 (.ifCond .ne off) 3 nx) (ht : (p1 : Int) + off = (tgt : Int))
    (kt : ¬ x.toInt = y.toInt → zW E G nL s n k tgt L st) (kf : x.toInt = y.toInt → zW E G nL s n k nx L st) : zW E G nL s n k pc L (.long y :: .long x :: st) := by
  have h0 := zcmp_t x y
  have h00 := zcmp_0 x y
  have hw : zW E G nL s n k p1 L (.int (lg_cmp x y) :: st) := r_if_ne X tgt d2 ht (fun h => kt (fun q => h (h00.mpr q))) (fun h => kf (h00.mp h))
  obtain ⟨p, l, e, R, u, m, args, below, meth, c, Q⟩ := E
  obtain ⟨hx, hb, hml, hown, hts, hK, hN, hlk, hB, rfl⟩ := X
  obtain ⟨d, rfl⟩ := d1
  intro H locs ls hH hS hl
  exact W.lcmp hx hb d (hw H locs ls hH hS hl)
theorem r_goto (X : zX E G cc nL own rm) {off : Int} (tgt : Nat) (d : zd cc pc (.goto off) 3 nx) (ht : (pc : Int) + off = (tgt : Int)) (kk : zW E G nL s n k tgt L st) : zW E G nL s n k pc L st := by
  obtain ⟨p, l, e, R, u, m, args, below, meth, c, Q⟩ := E
  obtain ⟨hx, hb, hml, hown, hts, hK, hN, hlk, hB, rfl⟩ := X
  obtain ⟨d, rfl⟩ := d
  intro H locs ls hH hS hl
  exact lv_goto hx hb d ht (kk H locs ls hH hS hl)
theorem r_ifnull (X : zX E G cc nL own rm) {x : Nat} {off : Int} (d : zd cc pc (.ifnull off) 3 nx) (kk : zW E G nL s n k nx L st) : zW E G nL s n k pc L (.ref x :: st) := by
  obtain ⟨p, l, e, R, u, m, args, below, meth, c, Q⟩ := E
  obtain ⟨hx, hb, hml, hown, hts, hK, hN, hlk, hB, rfl⟩ := X
  obtain ⟨d, rfl⟩ := d
  intro H locs ls hH hS hl
  exact lv_ifnull hx hb d (kk H locs ls hH hS hl)
theorem r_ifnullN (X : zX E G cc nL own rm) {off : Int} (tgt : Nat) (d : zd cc pc (.ifnull off) 3 nx) (ht : (pc : Int) + off = (tgt : Int)) (kk : zW E G nL s n k tgt L st) : zW E G nL s n k pc L (.null :: st) := by
  obtain ⟨p, l, e, R, u, m, args, below, meth, c, Q⟩ := E
  obtain ⟨hx, hb, hml, hown, hts, hK, hN, hlk, hB, rfl⟩ := X
  obtain ⟨d, rfl⟩ := d
  intro H locs ls hH hS hl
  exact lv_ifnullN hx hb d ht (kk H locs ls hH hS hl)
theorem r_ifnonnull (X : zX E G cc nL own rm) {x : Nat} {off : Int} (tgt : Nat) (d : zd cc pc (.ifnonnull off) 3 nx) (ht : (pc : Int) + off = (tgt : Int)) (kk : zW E G nL s n k tgt L st) : zW E G nL s n k pc L (.ref x :: st) := by
  obtain ⟨p, l, e, R, u, m, args, below, meth, c, Q⟩ := E
  obtain ⟨hx, hb, hml, hown, hts, hK, hN, hlk, hB, rfl⟩ := X
  obtain ⟨d, rfl⟩ := d
  intro H locs ls hH hS hl
  exact lv_ifnonnull hx hb d ht (kk H locs ls hH hS hl)
theorem r_ifnonnullN (X : zX E G cc nL own rm) {off : Int} (d : zd cc pc (.ifnonnull off) 3 nx) (kk : zW E G nL s n k nx L st) : zW E G nL s n k pc L (.null :: st) := by
  obtain ⟨p, l, e, R, u, m, args, below, meth, c, Q⟩ := E
  obtain ⟨hx, hb, hml, hown, hts, hK, hN, hlk, hB, rfl⟩ := X
  obtain ⟨d, rfl⟩ := d
  intro H locs ls hH hS hl
  exact lv_ifnonnullN hx hb d (kk H locs ls hH hS hl)
theorem r_tableIn (X : zX E G cc nL own rm) {dflt lo hi : Int} {offs : Array Int} {len : Nat} {x : Int32} {off j0 : Int} (tgt : Nat) (d : zd cc pc (.tableswitch dflt lo hi offs) len nx) (hx0 : x.toInt = lo + j0) (ho : offs[(j0 : Int).toNat]? = some off) (h0 : 0 ≤ j0) (h1 : lo + j0 ≤ hi) (ht : (pc : Int) + off = (tgt : Int)) (kk : zW E G nL s n k tgt L st) : zW E G nL s n k pc L (.int x :: st) := by
  obtain ⟨p, l, e, R, u, m, args, below, meth, c, Q⟩ := E
  obtain ⟨hx, hb, hml, hown, hts, hK, hN, hlk, hB, rfl⟩ := X
  obtain ⟨d, rfl⟩ := d
  intro H locs ls hH hS hl
  exact lv_tableIn hx hb d (by omega) (by omega) (by rw [show (x.toInt - lo) = j0 by omega]; exact ho) ht (kk H locs ls hH hS hl)
theorem r_tableOut (X : zX E G cc nL own rm) {dflt lo hi : Int} {offs : Array Int} {len : Nat} {x : Int32} (tgt : Nat) (d : zd cc pc (.tableswitch dflt lo hi offs) len nx) (h : x.toInt < lo ∨ hi < x.toInt) (ht : (pc : Int) + dflt = (tgt : Int)) (kk : zW E G nL s n k tgt L st) : zW E G nL s n k pc L (.int x :: st) := by
  obtain ⟨p, l, e, R, u, m, args, below, meth, c, Q⟩ := E
  obtain ⟨hx, hb, hml, hown, hts, hK, hN, hlk, hB, rfl⟩ := X
  obtain ⟨d, rfl⟩ := d
  intro H locs ls hH hS hl
  exact lv_tableOut hx hb d h ht (kk H locs ls hH hS hl)
theorem zW.sub {L2 : List (Nat × Value)} (h : ∀ q ∈ L2, q ∈ L) (kk : zW E G nL s n k pc L2 st) : zW E G nL s n k pc L st := by
  obtain ⟨p, l, e, R, u, m, args, below, meth, c, Q⟩ := E
  intro H locs ls hH hS hl
  exact kk H locs ls hH hS ⟨hl.1, hl.2.1, fun q hq => hl.2.2 q (h q hq)⟩
def zlks (L : List (Nat × Value)) : List (Nat × Value) → Prop
  | [] => True
  | (i, v) :: t => zlk L i = some v ∧ zlks L t
theorem zlks_mem {L : List (Nat × Value)} : ∀ {L2 : List (Nat × Value)}, zlks L L2 → ∀ q ∈ L2, q ∈ L
  | [], _, q, h => absurd h List.not_mem_nil
  | (i, v) :: t, h, q, hq => by
    rcases List.mem_cons.mp hq with rfl | hq
    · exact zlk_mem h.1
    · exact zlks_mem h.2 q hq
theorem zW.loc (L2 : List (Nat × Value)) (h : zlks L L2) (kk : zW E G nL s n k pc L2 st) : zW E G nL s n k pc L st := zW.sub (zlks_mem h) kk
theorem zW.widen {n2 k2 : Nat} (h1 : n ≤ n2) (h2 : k ≤ k2) (kk : zW E G nL s n2 k2 pc L st) : zW E G nL s n k pc L st := by
  obtain ⟨p, l, e, R, u, m, args, below, meth, c, Q⟩ := E
  intro H locs ls hH hS hl
  exact W.widen h1 h2 (kk H locs ls hH hS hl)
theorem zW.loc1 {i0 : Nat} {v0 : Value} (h0 : zlk L i0 = some v0) (kk : zW E G nL s n k pc [(i0, v0)] st) : zW E G nL s n k pc L st := zW.loc [(i0, v0)] (show zlks L [(i0, v0)] from And.intro h0 (trivial)) kk
theorem zW.loc2 {i0 : Nat} {v0 : Value} {i1 : Nat} {v1 : Value} (h0 : zlk L i0 = some v0) (h1 : zlk L i1 = some v1) (kk : zW E G nL s n k pc [(i0, v0), (i1, v1)] st) : zW E G nL s n k pc L st := zW.loc [(i0, v0), (i1, v1)] (show zlks L [(i0, v0), (i1, v1)] from And.intro h0 (And.intro h1 (trivial))) kk
theorem zW.loc3 {i0 : Nat} {v0 : Value} {i1 : Nat} {v1 : Value} {i2 : Nat} {v2 : Value} (h0 : zlk L i0 = some v0) (h1 : zlk L i1 = some v1) (h2 : zlk L i2 = some v2) (kk : zW E G nL s n k pc [(i0, v0), (i1, v1), (i2, v2)] st) : zW E G nL s n k pc L st := zW.loc [(i0, v0), (i1, v1), (i2, v2)] (show zlks L [(i0, v0), (i1, v1), (i2, v2)] from And.intro h0 (And.intro h1 (And.intro h2 (trivial)))) kk
theorem zW.loc4 {i0 : Nat} {v0 : Value} {i1 : Nat} {v1 : Value} {i2 : Nat} {v2 : Value} {i3 : Nat} {v3 : Value} (h0 : zlk L i0 = some v0) (h1 : zlk L i1 = some v1) (h2 : zlk L i2 = some v2) (h3 : zlk L i3 = some v3) (kk : zW E G nL s n k pc [(i0, v0), (i1, v1), (i2, v2), (i3, v3)] st) : zW E G nL s n k pc L st := zW.loc [(i0, v0), (i1, v1), (i2, v2), (i3, v3)] (show zlks L [(i0, v0), (i1, v1), (i2, v2), (i3, v3)] from And.intro h0 (And.intro h1 (And.intro h2 (And.intro h3 (trivial))))) kk
theorem zW.loc5 {i0 : Nat} {v0 : Value} {i1 : Nat} {v1 : Value} {i2 : Nat} {v2 : Value} {i3 : Nat} {v3 : Value} {i4 : Nat} {v4 : Value} (h0 : zlk L i0 = some v0) (h1 : zlk L i1 = some v1) (h2 : zlk L i2 = some v2) (h3 : zlk L i3 = some v3) (h4 : zlk L i4 = some v4) (kk : zW E G nL s n k pc [(i0, v0), (i1, v1), (i2, v2), (i3, v3), (i4, v4)] st) : zW E G nL s n k pc L st := zW.loc [(i0, v0), (i1, v1), (i2, v2), (i3, v3), (i4, v4)] (show zlks L [(i0, v0), (i1, v1), (i2, v2), (i3, v3), (i4, v4)] from And.intro h0 (And.intro h1 (And.intro h2 (And.intro h3 (And.intro h4 (trivial)))))) kk
theorem zW.loc6 {i0 : Nat} {v0 : Value} {i1 : Nat} {v1 : Value} {i2 : Nat} {v2 : Value} {i3 : Nat} {v3 : Value} {i4 : Nat} {v4 : Value} {i5 : Nat} {v5 : Value} (h0 : zlk L i0 = some v0) (h1 : zlk L i1 = some v1) (h2 : zlk L i2 = some v2) (h3 : zlk L i3 = some v3) (h4 : zlk L i4 = some v4) (h5 : zlk L i5 = some v5) (kk : zW E G nL s n k pc [(i0, v0), (i1, v1), (i2, v2), (i3, v3), (i4, v4), (i5, v5)] st) : zW E G nL s n k pc L st := zW.loc [(i0, v0), (i1, v1), (i2, v2), (i3, v3), (i4, v4), (i5, v5)] (show zlks L [(i0, v0), (i1, v1), (i2, v2), (i3, v3), (i4, v4), (i5, v5)] from And.intro h0 (And.intro h1 (And.intro h2 (And.intro h3 (And.intro h4 (And.intro h5 (trivial))))))) kk
theorem zW.loc7 {i0 : Nat} {v0 : Value} {i1 : Nat} {v1 : Value} {i2 : Nat} {v2 : Value} {i3 : Nat} {v3 : Value} {i4 : Nat} {v4 : Value} {i5 : Nat} {v5 : Value} {i6 : Nat} {v6 : Value} (h0 : zlk L i0 = some v0) (h1 : zlk L i1 = some v1) (h2 : zlk L i2 = some v2) (h3 : zlk L i3 = some v3) (h4 : zlk L i4 = some v4) (h5 : zlk L i5 = some v5) (h6 : zlk L i6 = some v6) (kk : zW E G nL s n k pc [(i0, v0), (i1, v1), (i2, v2), (i3, v3), (i4, v4), (i5, v5), (i6, v6)] st) : zW E G nL s n k pc L st := zW.loc [(i0, v0), (i1, v1), (i2, v2), (i3, v3), (i4, v4), (i5, v5), (i6, v6)] (show zlks L [(i0, v0), (i1, v1), (i2, v2), (i3, v3), (i4, v4), (i5, v5), (i6, v6)] from And.intro h0 (And.intro h1 (And.intro h2 (And.intro h3 (And.intro h4 (And.intro h5 (And.intro h6 (trivial)))))))) kk
theorem zW.loc8 {i0 : Nat} {v0 : Value} {i1 : Nat} {v1 : Value} {i2 : Nat} {v2 : Value} {i3 : Nat} {v3 : Value} {i4 : Nat} {v4 : Value} {i5 : Nat} {v5 : Value} {i6 : Nat} {v6 : Value} {i7 : Nat} {v7 : Value} (h0 : zlk L i0 = some v0) (h1 : zlk L i1 = some v1) (h2 : zlk L i2 = some v2) (h3 : zlk L i3 = some v3) (h4 : zlk L i4 = some v4) (h5 : zlk L i5 = some v5) (h6 : zlk L i6 = some v6) (h7 : zlk L i7 = some v7) (kk : zW E G nL s n k pc [(i0, v0), (i1, v1), (i2, v2), (i3, v3), (i4, v4), (i5, v5), (i6, v6), (i7, v7)] st) : zW E G nL s n k pc L st := zW.loc [(i0, v0), (i1, v1), (i2, v2), (i3, v3), (i4, v4), (i5, v5), (i6, v6), (i7, v7)] (show zlks L [(i0, v0), (i1, v1), (i2, v2), (i3, v3), (i4, v4), (i5, v5), (i6, v6), (i7, v7)] from And.intro h0 (And.intro h1 (And.intro h2 (And.intro h3 (And.intro h4 (And.intro h5 (And.intro h6 (And.intro h7 (trivial))))))))) kk
theorem zW.loc9 {i0 : Nat} {v0 : Value} {i1 : Nat} {v1 : Value} {i2 : Nat} {v2 : Value} {i3 : Nat} {v3 : Value} {i4 : Nat} {v4 : Value} {i5 : Nat} {v5 : Value} {i6 : Nat} {v6 : Value} {i7 : Nat} {v7 : Value} {i8 : Nat} {v8 : Value} (h0 : zlk L i0 = some v0) (h1 : zlk L i1 = some v1) (h2 : zlk L i2 = some v2) (h3 : zlk L i3 = some v3) (h4 : zlk L i4 = some v4) (h5 : zlk L i5 = some v5) (h6 : zlk L i6 = some v6) (h7 : zlk L i7 = some v7) (h8 : zlk L i8 = some v8) (kk : zW E G nL s n k pc [(i0, v0), (i1, v1), (i2, v2), (i3, v3), (i4, v4), (i5, v5), (i6, v6), (i7, v7), (i8, v8)] st) : zW E G nL s n k pc L st := zW.loc [(i0, v0), (i1, v1), (i2, v2), (i3, v3), (i4, v4), (i5, v5), (i6, v6), (i7, v7), (i8, v8)] (show zlks L [(i0, v0), (i1, v1), (i2, v2), (i3, v3), (i4, v4), (i5, v5), (i6, v6), (i7, v7), (i8, v8)] from And.intro h0 (And.intro h1 (And.intro h2 (And.intro h3 (And.intro h4 (And.intro h5 (And.intro h6 (And.intro h7 (And.intro h8 (trivial)))))))))) kk
theorem zW.loc10 {i0 : Nat} {v0 : Value} {i1 : Nat} {v1 : Value} {i2 : Nat} {v2 : Value} {i3 : Nat} {v3 : Value} {i4 : Nat} {v4 : Value} {i5 : Nat} {v5 : Value} {i6 : Nat} {v6 : Value} {i7 : Nat} {v7 : Value} {i8 : Nat} {v8 : Value} {i9 : Nat} {v9 : Value} (h0 : zlk L i0 = some v0) (h1 : zlk L i1 = some v1) (h2 : zlk L i2 = some v2) (h3 : zlk L i3 = some v3) (h4 : zlk L i4 = some v4) (h5 : zlk L i5 = some v5) (h6 : zlk L i6 = some v6) (h7 : zlk L i7 = some v7) (h8 : zlk L i8 = some v8) (h9 : zlk L i9 = some v9) (kk : zW E G nL s n k pc [(i0, v0), (i1, v1), (i2, v2), (i3, v3), (i4, v4), (i5, v5), (i6, v6), (i7, v7), (i8, v8), (i9, v9)] st) : zW E G nL s n k pc L st := zW.loc [(i0, v0), (i1, v1), (i2, v2), (i3, v3), (i4, v4), (i5, v5), (i6, v6), (i7, v7), (i8, v8), (i9, v9)] (show zlks L [(i0, v0), (i1, v1), (i2, v2), (i3, v3), (i4, v4), (i5, v5), (i6, v6), (i7, v7), (i8, v8), (i9, v9)] from And.intro h0 (And.intro h1 (And.intro h2 (And.intro h3 (And.intro h4 (And.intro h5 (And.intro h6 (And.intro h7 (And.intro h8 (And.intro h9 (trivial))))))))))) kk
theorem zW.loc11 {i0 : Nat} {v0 : Value} {i1 : Nat} {v1 : Value} {i2 : Nat} {v2 : Value} {i3 : Nat} {v3 : Value} {i4 : Nat} {v4 : Value} {i5 : Nat} {v5 : Value} {i6 : Nat} {v6 : Value} {i7 : Nat} {v7 : Value} {i8 : Nat} {v8 : Value} {i9 : Nat} {v9 : Value} {i10 : Nat} {v10 : Value} (h0 : zlk L i0 = some v0) (h1 : zlk L i1 = some v1) (h2 : zlk L i2 = some v2) (h3 : zlk L i3 = some v3) (h4 : zlk L i4 = some v4) (h5 : zlk L i5 = some v5) (h6 : zlk L i6 = some v6) (h7 : zlk L i7 = some v7) (h8 : zlk L i8 = some v8) (h9 : zlk L i9 = some v9) (h10 : zlk L i10 = some v10) (kk : zW E G nL s n k pc [(i0, v0), (i1, v1), (i2, v2), (i3, v3), (i4, v4), (i5, v5), (i6, v6), (i7, v7), (i8, v8), (i9, v9), (i10, v10)] st) : zW E G nL s n k pc L st := zW.loc [(i0, v0), (i1, v1), (i2, v2), (i3, v3), (i4, v4), (i5, v5), (i6, v6), (i7, v7), (i8, v8), (i9, v9), (i10, v10)] (show zlks L [(i0, v0), (i1, v1), (i2, v2), (i3, v3), (i4, v4), (i5, v5), (i6, v6), (i7, v7), (i8, v8), (i9, v9), (i10, v10)] from And.intro h0 (And.intro h1 (And.intro h2 (And.intro h3 (And.intro h4 (And.intro h5 (And.intro h6 (And.intro h7 (And.intro h8 (And.intro h9 (And.intro h10 (trivial)))))))))))) kk
theorem zW.loc12 {i0 : Nat} {v0 : Value} {i1 : Nat} {v1 : Value} {i2 : Nat} {v2 : Value} {i3 : Nat} {v3 : Value} {i4 : Nat} {v4 : Value} {i5 : Nat} {v5 : Value} {i6 : Nat} {v6 : Value} {i7 : Nat} {v7 : Value} {i8 : Nat} {v8 : Value} {i9 : Nat} {v9 : Value} {i10 : Nat} {v10 : Value} {i11 : Nat} {v11 : Value} (h0 : zlk L i0 = some v0) (h1 : zlk L i1 = some v1) (h2 : zlk L i2 = some v2) (h3 : zlk L i3 = some v3) (h4 : zlk L i4 = some v4) (h5 : zlk L i5 = some v5) (h6 : zlk L i6 = some v6) (h7 : zlk L i7 = some v7) (h8 : zlk L i8 = some v8) (h9 : zlk L i9 = some v9) (h10 : zlk L i10 = some v10) (h11 : zlk L i11 = some v11) (kk : zW E G nL s n k pc [(i0, v0), (i1, v1), (i2, v2), (i3, v3), (i4, v4), (i5, v5), (i6, v6), (i7, v7), (i8, v8), (i9, v9), (i10, v10), (i11, v11)] st) : zW E G nL s n k pc L st := zW.loc [(i0, v0), (i1, v1), (i2, v2), (i3, v3), (i4, v4), (i5, v5), (i6, v6), (i7, v7), (i8, v8), (i9, v9), (i10, v10), (i11, v11)] (show zlks L [(i0, v0), (i1, v1), (i2, v2), (i3, v3), (i4, v4), (i5, v5), (i6, v6), (i7, v7), (i8, v8), (i9, v9), (i10, v10), (i11, v11)] from And.intro h0 (And.intro h1 (And.intro h2 (And.intro h3 (And.intro h4 (And.intro h5 (And.intro h6 (And.intro h7 (And.intro h8 (And.intro h9 (And.intro h10 (And.intro h11 (trivial))))))))))))) kk
theorem zW.loc13 {i0 : Nat} {v0 : Value} {i1 : Nat} {v1 : Value} {i2 : Nat} {v2 : Value} {i3 : Nat} {v3 : Value} {i4 : Nat} {v4 : Value} {i5 : Nat} {v5 : Value} {i6 : Nat} {v6 : Value} {i7 : Nat} {v7 : Value} {i8 : Nat} {v8 : Value} {i9 : Nat} {v9 : Value} {i10 : Nat} {v10 : Value} {i11 : Nat} {v11 : Value} {i12 : Nat} {v12 : Value} (h0 : zlk L i0 = some v0) (h1 : zlk L i1 = some v1) (h2 : zlk L i2 = some v2) (h3 : zlk L i3 = some v3) (h4 : zlk L i4 = some v4) (h5 : zlk L i5 = some v5) (h6 : zlk L i6 = some v6) (h7 : zlk L i7 = some v7) (h8 : zlk L i8 = some v8) (h9 : zlk L i9 = some v9) (h10 : zlk L i10 = some v10) (h11 : zlk L i11 = some v11) (h12 : zlk L i12 = some v12) (kk : zW E G nL s n k pc [(i0, v0), (i1, v1), (i2, v2), (i3, v3), (i4, v4), (i5, v5), (i6, v6), (i7, v7), (i8, v8), (i9, v9), (i10, v10), (i11, v11), (i12, v12)] st) : zW E G nL s n k pc L st := zW.loc [(i0, v0), (i1, v1), (i2, v2), (i3, v3), (i4, v4), (i5, v5), (i6, v6), (i7, v7), (i8, v8), (i9, v9), (i10, v10), (i11, v11), (i12, v12)] (show zlks L [(i0, v0), (i1, v1), (i2, v2), (i3, v3), (i4, v4), (i5, v5), (i6, v6), (i7, v7), (i8, v8), (i9, v9), (i10, v10), (i11, v11), (i12, v12)] from And.intro h0 (And.intro h1 (And.intro h2 (And.intro h3 (And.intro h4 (And.intro h5 (And.intro h6 (And.intro h7 (And.intro h8 (And.intro h9 (And.intro h10 (And.intro h11 (And.intro h12 (trivial)))))))))))))) kk
end ZR
