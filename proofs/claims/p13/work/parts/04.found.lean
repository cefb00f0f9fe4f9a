/-! THE TYPED STORE: a state is (size of the heap, kind and length of each cell, its references, its ints, its longs) -/
abbrev zS : Type := Nat × (Nat → Option (Nat × Nat)) × (Nat → Nat → Option Nat) × (Nat → Nat → Int32) × (Nat → Nat → Int64)
/-- what never changes: the tables' numbers, the arrays' classes, where the new cells begin -/
abbrev zG : Type := va_G × (Nat → ClassId) × Nat
def zv (kd : Nat) (r : Option Nat) (i : Int32) (j : Int64) : Value := match kd with
  | 0 => .int i
  | 1 => .long j
  | _ => va_rf r
def zfs (t : Nat) (r : Nat → Option Nat) (i : Nat → Int32) (j : Nat → Int64) : List Value := (List.range (zn t)).map (fun k => zv (zkd t k) (r k) (i k) (j k))
def zc (G : zG) (s : zS) (a : Nat) : va_E := match s.2.1 a with
  | none => .inl (0, 0, .inl (fun _ => 0))
  | some (t, n) => if t < 13 then .inr (t, zfs t (s.2.2.1 a) (s.2.2.2.1 a) (s.2.2.2.2 a)) else if t = 13 then .inl (G.2.1 0, n, .inl (s.2.2.2.1 a)) else if t = 14 then .inl (G.2.1 1, n, .inr (.inl (s.2.2.2.2 a))) else if t = 15 then .inl (G.2.1 2, n, .inl (s.2.2.2.1 a)) else if 1000 ≤ t then .inl (G.2.1 1, n, .inr (.inl (zFz (t - 1000)))) else .inl (G.2.1 (t - 13), n, .inr (.inr (.inr (.inr (s.2.2.1 a)))))
def ztys (G : zG) : List (ClassId × FieldType) := [(G.2.1 0, .int), (G.2.1 1, .long), (G.2.1 2, .boolean), (G.2.1 3, .object "SlideRules$Scale"), (G.2.1 4, .object "SlideRules$Strip"), (G.2.1 5, .array .int)]
def zA (G : zG) : Nat → Prop := fun q => G.2.2 ≤ q
def zH (G : zG) (s : zS) (H : Heap) : Prop := H.size = s.1 ∧ G.2.2 ≤ s.1 ∧ (∀ a : Nat, s.2.1 a ≠ none → G.2.2 ≤ a ∧ va_at G.1 vwCl (a, zc G s a) H) ∧ ∀ a : Nat, s.1 ≤ a → s.2.1 a = none ∧ (s.2.2.1 a = fun _ => none) ∧ (s.2.2.2.1 a = fun _ => 0) ∧ (s.2.2.2.2 a = fun _ => 0)
/-- an array of arrays of ints holds arrays of ints -/
def zII (U : State) : Prop := ∃ (cA : ClassId) (kA : Class) (comp : ClassId), U.vm.findClass "[[I" = some cA ∧ U.vm.classes[cA]? = some kA ∧ kA.kind = .array comp (.array .int) ∧ U.vm.findClass "[I" = some comp
theorem zII.moved {u U : State} (hvm : u.vm.Alike U.vm) (h : zII u) : zII U := by
  obtain ⟨cA, kA, comp, h1, h2, h3, h4⟩ := h
  obtain ⟨k', hk', he⟩ := hvm.2.2 _ _ h2
  exact ⟨cA, k', comp, by rw [hvm.findClass]; exact h1, hk', by rw [he]; exact h3, by rw [hvm.findClass]; exact h4⟩
def zNs (U : State) : Prop := (∀ q ∈ zNest, va_Nw (.methodLinkNest q.1 q.2.1 q.2.2.1 q.2.2.2) U) ∧ va_AO "SlideRules$Scale" U ∧ va_AO "SlideRules$Strip" U ∧ zII U
def zI (G : zG) (s : zS) (U : State) : Prop := zH G s U.heap ∧ va_K G.1 vwCl (ztys G) U ∧ zNs U
abbrev zE : Type := Program × Launch × Env × Room × State × MethodId × Array Value × List Frame × Method × Code × (State → Prop)
/-- the machine at pc comes to its goal, from every heap that holds the store -/
def zW (E : zE) (G : zG) (nL : Nat) (s : zS) (n k pc : Nat) (L : List (Nat × Value)) (st : List Value) : Prop := match E with
  | (p, l, e, R, u, m, args, below, meth, c, Q) => ∀ (H : Heap) (locs : List Loc) (ls : Array Slot), zH G s H → va_S (zA G) u.heap H locs → lv_has ls nL L → W p l e R u m args below meth c H locs n k Q (F0 m pc ls st)
def zX (E : zE) (G : zG) (cc : ByteArray) (nL : Nat) (own : String) (rm : Room) : Prop := match E with
  | (p, _, _, R, u, m, args, _, meth, c, _) => p.tables.exec = Jvm.exec ∧ c.code = cc ∧ c.maxLocals = nL ∧ u.vm.findClass own = some m.cls ∧ (∀ w ∈ zT, w.before args u = true) ∧ va_K G.1 vwCl (ztys G) u ∧ zNs u ∧ meth.locks = false ∧ G.2.2 ≤ u.heap.size ∧ R = rm
def zQ (G : zG) (P : Option Value → zS → Prop) : Array Value → State → Outcome → State → Prop := fun _ st oc t => (∃ v s, oc = .returned v ∧ P v s ∧ zI G s t) ∧ va_F (zA G) st t
def zR (E : zE) (G : zG) (P : Option Value → zS → Prop) (mc ms : Nat) (ret : Option FieldType) : Prop := match E with
  | (_, _, _, _, u, _, args, below, meth, _, Q) => Q = MQ below (zQ G P) args u mc ms (zA G) ∧ meth.sig.returnType = ret
/-- a contract at one start: arguments av, store s; the answer and the store behind are as P says; mc cells of ms places come -/
def zM (l : Launch) (G : zG) (y : MethodName) (cc : ByteArray) (maxL : Nat) (ret : Option FieldType) (rm : Room) (av : List Value) (s : zS) (P : Option Value → zS → Prop) (mc ms : Nat) : Prop :=
  Met l y (Cond.code y cc maxL ret :: zT) rm (va_Pc av (zI G s)) (zQ G P) mc ms (zA G)
theorem zNs.warm {s U : State} (hW : s.WarmedH U.vm) (h : zNs s) : zNs U := ⟨fun q hq => va_Nw.warmM hW (h.1 q hq), h.2.1.moved hW.alike, h.2.2.1.moved hW.alike, h.2.2.2.moved hW.alike⟩
theorem zNs.same {u U : State} (h : u.vm = U.vm) (hn : zNs u) : zNs U := ⟨fun q hq => va_Nw.same rfl h (hn.1 q hq), hn.2.1.moved (by rw [← h]; exact Vm.Alike.refl _), hn.2.2.1.moved (by rw [← h]; exact Vm.Alike.refl _), hn.2.2.2.moved (by rw [← h]; exact Vm.Alike.refl _)⟩
theorem zI.warm {G : zG} {z : zS} {s U : State} (hH : zH G z U.heap) (hK : va_K G.1 vwCl (ztys G) s) (hN : zNs s) (hW : s.WarmedH U.vm) : zI G z U := ⟨hH, va_K.moved hW.alike hK, hN.warm hW⟩
theorem zI.blind {G : zG} {s : zS} {av : List Value} : FrameBlind (va_Pc av (zI G s)) := fun a U g mk h => ⟨h.1, h.2.1, va_K.moved (u := U) (U := U.calling g mk a) (Vm.Alike.refl U.vm) h.2.2.1, zNs.same (u := U) (U := U.calling g mk a) rfl h.2.2.2⟩
theorem zMet_of {l : Launch} {y : MethodName} {ws ws' : List Cond} {rm : Room} {Pc : Array Value → State → Prop} {Qc : Array Value → State → Outcome → State → Prop} {mc ms : Nat} {free : Addr → Prop} {cc : ByteArray} {maxL : Nat} {ret : Option FieldType}
    (hy : plainFor y = true) (hw : ws = Cond.code y cc maxL ret :: ws')
    (body : ∀ p e s m args below meth c s₁, BodyLoose p l y (headSpec ws rm) cc maxL ret e s m args below meth c s₁ → c.maxLocals = maxL → Pc args s →
      W p l e (headSpec ws rm).room s m args below meth c s.heap [] 0 0 (MQ below Qc args s mc ms free) (entryFrame m args maxL)) : Met l y ws rm Pc Qc mc ms free := by
  refine MetFree.of_bodySF (code := cc) (maxLocals := maxL) (ret := ret) hy ?_ ?_
  · intro args s m h hn
    obtain ⟨meth, c, h1, h2, h3, h4, h5, h6, -, -⟩ := Cond.code_spec hn (atoms_spec (ws := ws) h _ (by rw [hw]; exact List.mem_cons_self))
    exact ⟨meth, c, h1, h2, h3, h4, h5, h6⟩
  · intro p e s m args below meth c s₁ B hml hP _
    have hh0 : s₁.heap = s.heap := by rw [B.state]; rfl
    obtain ⟨t, a1, o, b1, b2, b3⟩ := body p e s m args below meth c s₁ B hml hP s₁ hh0 (Stand.of_body B)
    exact ⟨t, o, a1, b1, b2, b3.1, b3.2⟩
theorem zM_of {l : Launch} {G : zG} {y : MethodName} {cc : ByteArray} {maxL na : Nat} {ret : Option FieldType} {rm : Room} {av : List Value} {s : zS} {P : Option Value → zS → Prop} {mc ms : Nat} (hc : zCd y cc maxL ret na) (hn : (lg_sl av).length ≤ maxL)
    (body : ∀ E : zE, zX E G cc maxL y.cls rm → zR E G P mc ms ret → E.2.1 = l → zW E G maxL s 0 0 0 (lv_args 0 av) []) : zM l G y cc maxL ret rm av s P mc ms := by
  refine zMet_of (cc := cc) (maxL := maxL) (ret := ret) hc.2.2.2 rfl ?_
  intro p e u m args below meth c s₁ B hml hv
  obtain ⟨rfl, hH, hK, hN⟩ := hv
  have hl := lv_entry av (n := maxL) hn
  rw [lg_entry_eq]
  exact body (p, l, e, (headSpec (Cond.code y cc maxL ret :: zT) rm).room, u, m, av.toArray, below, meth, c, MQ below (zQ G P) av.toArray u mc ms (zA G)) ⟨B.exec, B.bytes, hml, findClass_of_methodNamed B.named, fun w hw => atoms_spec B.pre w (List.mem_cons_of_mem _ hw), hK, hN, B.notSynchronized, by rw [hH.1]; exact hH.2.1, rfl⟩ ⟨rfl, B.returns⟩ rfl u.heap [] _ hH va_S.rf hl
