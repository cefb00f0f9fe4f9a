/-! the law from its entry (wip/gen/spec_s.py) -/
theorem zK_start {s : State} {A : Array Value} (hts : ∀ w ∈ lw_tbl, w.before A s = true) : ∃ D dA, va_K D vwCl (ztys (D, dA, s.heap.size)) s ∧ zNs s := by
  have hT : ∀ w ∈ zT, w.before A s = true := fun w hw => hts w (List.mem_filter.mp hw).1
  obtain ⟨c0, i0, h0⟩ := u_known (C := RX0) (T := TX0) (N := 4) (n := 4) hT (zCl_0).2.2.2.2 (hT _ zis_X0)
  obtain ⟨c1, i1, h1⟩ := u_known (C := RX1) (T := TX1) (N := 1) (n := 1) hT (zCl_1).2.2.2.2 (hT _ zis_X1)
  obtain ⟨c2, i2, h2⟩ := u_known (C := RX2) (T := TX2) (N := 5) (n := 5) hT (zCl_2).2.2.2.2 (hT _ zis_X2)
  obtain ⟨c3, i3, h3⟩ := u_known (C := RX3) (T := TX3) (N := 2) (n := 2) hT (zCl_3).2.2.2.2 (hT _ zis_X3)
  obtain ⟨c4, i4, h4⟩ := u_known (C := RX4) (T := TX4) (N := 11) (n := 11) hT (zCl_4).2.2.2.2 (hT _ zis_X4)
  obtain ⟨c5, i5, h5⟩ := u_known (C := RX5) (T := TX5) (N := 2) (n := 2) hT (zCl_5).2.2.2.2 (hT _ zis_X5)
  obtain ⟨c6, i6, h6⟩ := u_known (C := RX6) (T := TX6) (N := 2) (n := 2) hT (zCl_6).2.2.2.2 (hT _ zis_X6)
  obtain ⟨c7, i7, h7⟩ := u_known (C := RX7) (T := TX7) (N := 12) (n := 12) hT (zCl_7).2.2.2.2 (hT _ zis_X7)
  obtain ⟨c8, i8, h8⟩ := u_known (C := RX8) (T := TX8) (N := 4) (n := 4) hT (zCl_8).2.2.2.2 (hT _ zis_X8)
  obtain ⟨c9, i9, h9⟩ := u_known (C := RX9) (T := TX9) (N := 1) (n := 1) hT (zCl_9).2.2.2.2 (hT _ zis_X9)
  obtain ⟨c10, i10, h10⟩ := u_known (C := RX10) (T := TX10) (N := 2) (n := 2) hT (zCl_10).2.2.2.2 (hT _ zis_X10)
  obtain ⟨c11, i11, h11⟩ := u_known (C := RX11) (T := TX11) (N := 12) (n := 12) hT (zCl_11).2.2.2.2 (hT _ zis_X11)
  obtain ⟨c12, i12, h12⟩ := u_known (C := RX12) (T := TX12) (N := 30) (n := 30) hT (zCl_12).2.2.2.2 (hT _ zis_X12)
  obtain ⟨a0, k0, p0, e0, f0, g0⟩ := Cond.arrayClass_spec (hT _ zar_I)
  obtain ⟨a1, k1, p1, e1, f1, g1⟩ := Cond.arrayClass_spec (hT _ zar_J)
  obtain ⟨a2, k2, p2, e2, f2, g2⟩ := Cond.arrayClass_spec (hT _ zar_Z)
  obtain ⟨p3, a3, k3, e3, _, f3, g3, q3⟩ := Cond.arrayOver_spec (hts _ zao_Sc)
  obtain ⟨p4, a4, k4, e4, _, f4, g4, q4⟩ := Cond.arrayOver_spec (hts _ zao_St)
  obtain ⟨p5, a5, k5, e5, _, f5, g5, q5⟩ := arrayOverA_spec (hts _ zao_II)
  refine ⟨(fun k => [c0, c1, c2, c3, c4, c5, c6, c7, c8, c9, c10, c11, c12].getD k 0, fun k => [i0, i1, i2, i3, i4, i5, i6, i7, i8, i9, i10, i11, i12].getD k (fun _ => 0)), fun k => [a0, a1, a2, a3, a4, a5].getD k 0, ⟨fun k q hq => ?_, fun k q hq => ?_⟩, fun q hq => va_Nw.of rfl (hts _ (zNest_in q hq)), va_AO.of (hts _ zao_Sc), va_AO.of (hts _ zao_St), ⟨a5, k5, p5, q5, f5, g5, e5⟩⟩
  · match k, hq with
    | 0, hq => cases hq; exact h0
    | 1, hq => cases hq; exact h1
    | 2, hq => cases hq; exact h2
    | 3, hq => cases hq; exact h3
    | 4, hq => cases hq; exact h4
    | 5, hq => cases hq; exact h5
    | 6, hq => cases hq; exact h6
    | 7, hq => cases hq; exact h7
    | 8, hq => cases hq; exact h8
    | 9, hq => cases hq; exact h9
    | 10, hq => cases hq; exact h10
    | 11, hq => cases hq; exact h11
    | 12, hq => cases hq; exact h12
    | q + 13, hq => simp [vwCl] at hq
  · match k, hq with
    | 0, hq => cases hq; exact ⟨fun n z => ⟨fun q h => (by cases h), k0, f0, p0, g0⟩, e0⟩
    | 1, hq => cases hq; exact ⟨fun n z => ⟨fun q h => (by cases h), k1, f1, p1, g1⟩, e1⟩
    | 2, hq => cases hq; exact ⟨fun n z => ⟨fun q h => (by cases h), k2, f2, p2, g2⟩, e2⟩
    | 3, hq => cases hq; exact ⟨fun n z => ⟨fun q h => (by cases h), k3, f3, p3, g3⟩, k3, p3, f3, g3, e3, q3⟩
    | 4, hq => cases hq; exact ⟨fun n z => ⟨fun q h => (by cases h), k4, f4, p4, g4⟩, k4, p4, f4, g4, e4, q4⟩
    | 5, hq => cases hq; exact ⟨fun n z => ⟨fun q h => (by cases h), k5, f5, p5, g5⟩, q5⟩
    | q + 6, hq => simp [ztys] at hq
set_option maxHeartbeats 8000000 in
theorem zLay_0 (B : Nat) : zLay (fun b => if b = B + 1 + 37 + 1 + 12 then some (1000 + 3, 6) else (fun b => if b = B + 1 + 37 + 1 + 11 then some (1000 + 2, 6) else (tX12 (zp (fun b => if b = B + 1 + 2 then some (1000 + 1, 900) else (fun b => if b = B + 1 + 1 then some (1000 + 0, 900) else (tX11 (zp (fun _ => none) B (11, 0)) B (B + 1)) b) b) (B + 1 + 37) (12, 0)) (B + 1 + 37) (B + 1 + 37 + 1)) b) b) (rX12 (rX11 (fun _ _ => none) B (B + 1)) (B + 1 + 37) (B + 1 + 37 + 1)) B 0 := by
  refine ⟨?_, ?_, fun j hj => absurd hj (Nat.not_lt_zero j)⟩
  · simp only [ztl, List.forall_mem_cons, List.not_mem_nil, false_implies, implies_true, and_true]
    simp [tX12, rX12, tX11, rX11, iX11, tX6, rX6, iX6, tX0, rX0, iX0, tX2, rX2, iX2, tX5, rX5, iX5, tX4, rX4, iX4, tX8, rX8, iX8, tX9, rX9, iX9, tX3, rX3, iX3, tX1, rX1, iX1, zp, zu, Nat.add_assoc]
  · simp only [zrl, List.forall_mem_cons, List.not_mem_nil, false_implies, implies_true, and_true]
    simp [tX12, rX12, tX11, rX11, iX11, tX6, rX6, iX6, tX0, rX0, iX0, tX2, rX2, iX2, tX5, rX5, iX5, tX4, rX4, iX4, tX8, rX8, iX8, tX9, rX9, iX9, tX3, rX3, iX3, tX1, rX1, iX1, zp, zu, Nat.add_assoc]
theorem zi0_at (B : Nat) : (∀ b k, ¬ (b = B ∧ k = 10) → ¬ (b = B + 38 ∧ k = 0) → (zu (iX11 (fun _ _ => 0) B (B + 1)) (B + 1 + 37) 0 10000) b k = 0) ∧ (zu (iX11 (fun _ _ => 0) B (B + 1)) (B + 1 + 37) 0 10000) B 10 = 10000 ∧ (zu (iX11 (fun _ _ => 0) B (B + 1)) (B + 1 + 37) 0 10000) (B + 38) 0 = 10000 := by
  refine ⟨fun b k h1 h2 => ?_, ?_, ?_⟩
  · rw [zuo (by omega)]
    simp only [iX11, iX6, iX0, iX2, iX5, iX4, iX8, iX9, iX3, iX1, zu]
    have h3 : ¬ (b = B ∧ k = 10) := h1
    simp [h3]
  · rw [zuo (by omega)]
    simp [iX11, iX6, iX0, iX2, iX5, iX4, iX8, iX9, iX3, iX1, zu]
  · exact zu_s
theorem zJ_0 (B : Nat) : zJ B 0 (zu (iX11 (fun _ _ => 0) B (B + 1)) (B + 1 + 37) 0 10000) ∧ zRel B 0 (zu (iX11 (fun _ _ => 0) B (B + 1)) (B + 1 + 37) 0 10000) := by
  obtain ⟨h1, h2, h3⟩ := zi0_at B
  generalize zu (iX11 (fun _ _ => 0) B (B + 1)) (B + 1 + 37) 0 10000 = ι at *
  refine ⟨⟨by decide, ⟨by rw [h1 _ _ (by omega) (by omega)]; rfl, by rw [h1 _ _ (by omega) (by omega)]; decide, by rw [h1 _ _ (by omega) (by omega)]; decide, by rw [h1 _ _ (by omega) (by omega)]; decide, fun j hj => absurd hj (Nat.not_lt_zero j)⟩, by rw [h1 _ _ (by omega) (by omega)]; rfl, by rw [h1 _ _ (by omega) (by omega)]; decide, fun k hk => ?_, fun k _ => by rw [h1 _ _ (by omega) (by omega)]; decide, fun j hj => absurd hj (Nat.not_lt_zero j)⟩, ⟨by rw [h2, h3], by rw [h2]; decide, by rw [h2]; decide⟩, fun k _ => h1 _ _ (by omega) (by omega), ⟨by rw [h1 _ _ (by omega) (by omega), h1 _ _ (by omega) (by omega)], fun k hk => by rw [h1 _ _ (by omega) (by omega), show Int32.toInt 0 = 0 from rfl] at hk; omega⟩, fun s hs => ⟨by rw [h1 _ _ (by omega) (by omega), h1 _ _ (by omega) (by omega)], fun k hk => by rw [h1 _ _ (by omega) (by omega), show Int32.toInt 0 = 0 from rfl] at hk; omega, fun k hk => by rw [h1 _ _ (by omega) (by omega), show Int32.toInt 0 = 0 from rfl] at hk; omega⟩, fun j hj => absurd hj (Nat.not_lt_zero j)⟩
  rw [h1 _ _ (by omega) (by omega), show Int32.toInt 0 = 0 from rfl] at hk; omega
theorem zPq_0 (B : Nat) : zPq B (zu (iX11 (fun _ _ => 0) B (B + 1)) (B + 1 + 37) 0 10000) := by
  obtain ⟨h1, h2, h3⟩ := zi0_at B
  generalize zu (iX11 (fun _ _ => 0) B (B + 1)) (B + 1 + 37) 0 10000 = ι at *
  exact ⟨Or.inl (by rw [h1 _ _ (by omega) (by omega)]; decide), Or.inl (by rw [h1 _ _ (by omega) (by omega)]; decide)⟩
theorem zRP_s (B : Nat) : zRP B 0 (zu (iX11 (fun _ _ => 0) B (B + 1)) (B + 1 + 37) 0 10000) := by
  have h9 := zPq_0 B
  have h8 := (zJ_0 B).2
  obtain ⟨h1, h2, h3⟩ := zi0_at B
  generalize zu (iX11 (fun _ _ => 0) B (B + 1)) (B + 1 + 37) 0 10000 = ι at *
  exact ⟨⟨h8, h9⟩, fun j hj => absurd hj (Nat.not_lt_zero j), by rw [h1 _ _ (by omega) (by omega), h1 _ _ (by omega) (by omega)], fun j v _ _ _ => Or.inl (h1 _ _ (by omega) (by omega))⟩
set_option maxHeartbeats 8000000 in
set_option maxRecDepth 100000 in
theorem whole_start {p : Program} {e : Env} {s : State} {m : MethodId} {below : List Frame} {meth : Method} {c : Code} (l : Launch) (hflags : l.flags = flags0) {b L : Nat} {xs : Nat → Int32} (hL : L ≤ 2560) (C0 : lw_At p s m meth c b L xs) : W p l e room_1 s m #[Value.ref b] below meth c s.heap [] 0 0 (lw_Z below #[Value.ref b] s) (entryFrame m ([Value.ref b] : List Value).toArray 4) := by
  obtain ⟨hx, hb, hr, hml, hown, hts, hX, hbl, hlocks, hgv⟩ := id C0
  obtain ⟨D, dA, hK, hN⟩ := zK_start hts
  have hl := lv_entry ([.ref b]) (n := 4) (Nat.le_of_ble_eq_true rfl)
  rw [lg_entry_eq]
  have X : zX (p, l, e, room_1, s, m, #[Value.ref b], below, meth, c, lw_Z below #[Value.ref b] s) (D, dA, s.heap.size) cL_law 4 RL room_1 := ⟨hx, hb, hml, hown, fun w hw => hts w (List.mem_filter.mp hw).1, hK, hN, hlocks, Nat.le_refl _, rfl⟩
  have hSc : zScr (p, l, e, room_1, s, m, #[Value.ref b], below, meth, c, lw_Z below #[Value.ref b] s) (D, dA, s.heap.size) b L xs := ⟨hX, hbl, Nat.not_le.mpr hbl⟩
  have hE : ∀ (s2 : zS) (n k : Nat) (Lc : List (Nat × Value)), n ≤ 600000 → k ≤ 7302250 → zW (p, l, e, room_1, s, m, #[Value.ref b], below, meth, c, lw_Z below #[Value.ref b] s) (D, dA, s.heap.size) 4 s2 n k 1049 Lc [.int 1] := by
    intro s2 n k Lc h1 h2 H locs ls hH hS hl
    refine W.widen h1 h2 ?_
    exact va_forget (fun q hq => hS.2.2 q hq) (lw_ret hx hb hr hlocks dL_law_1049.1)
  have go : zW (p, l, e, room_1, s, m, #[Value.ref b], below, meth, c, lw_Z below #[Value.ref b] s) (D, dA, s.heap.size) 4 (s.heap.size, fun _ => none, fun _ _ => none, fun _ _ => 0, fun _ _ => 0) 0 0 0 [(0, .ref b)] [] := by
    generalize (p, l, e, room_1, s, m, #[Value.ref b], below, meth, c, lw_Z below #[Value.ref b] s) = E at X hSc hE ⊢
    generalize (D, dA, s.heap.size) = G at X hSc hE ⊢
    generalize s.heap.size = B
    refine r_new (t := 11) X 0 dL_law_0 zCl_11 (by decide) zcl_L_7 zis_X11 zini_X11 zdf_11 (Nat.le_of_ble_eq_true rfl) (Nat.le_of_ble_eq_true rfl) (fun _ => ?_)
    refine r_dup X rfl dL_law_3 ?_
    refine r_callI X dL_law_4 zLI_L_9 rfl zCd_X11_init (c_X11_init _ _ _ _ _ _ _ zp_s (by omega)) rfl rfl ⟨⟨rfl, rfl⟩, ⟨by decide, by decide⟩, ⟨Nat.le_of_ble_eq_true rfl, Nat.le_of_ble_eq_true rfl⟩, Nat.le_of_ble_eq_true rfl⟩ ?_
    rintro _ _ ⟨rfl, κ1, rfl, hT1⟩
    refine zW_frz (f := 0) (a := B + 1 + 1) (N := 900) (by simp [tX12, rX12, tX11, rX11, iX11, tX6, rX6, iX6, tX0, rX0, iX0, tX2, rX2, iX2, tX5, rX5, iX5, tX4, rX4, iX4, tX8, rX8, iX8, tX9, rX9, iX9, tX3, rX3, iX3, tX1, rX1, iX1, zp, zu, Nat.add_assoc]) (fun k hk => by rw [(hT1 k hk).1]; rfl) ?_
    refine zW_frz (f := 1) (a := B + 1 + 2) (N := 900) (by simp [tX12, rX12, tX11, rX11, iX11, tX6, rX6, iX6, tX0, rX0, iX0, tX2, rX2, iX2, tX5, rX5, iX5, tX4, rX4, iX4, tX8, rX8, iX8, tX9, rX9, iX9, tX3, rX3, iX3, tX1, rX1, iX1, zp, zu, Nat.add_assoc]) (fun k hk => by rw [(hT1 k hk).2]; rfl) ?_
    refine r_astore_n X (by decide) dL_law_7 ?_
    refine r_new (t := 12) X 0 dL_law_8 zCl_12 (by decide) zcl_L_10 zis_X12 zini_X12 zdf_12 (Nat.le_of_ble_eq_true rfl) (Nat.le_of_ble_eq_true rfl) (fun _ => ?_)
    refine r_dup X rfl dL_law_11 ?_
    refine r_callI X dL_law_12 zLI_L_12 rfl zCd_X12_init (c_X12_init _ _ _ _ _ _ _ zp_s (by omega)) rfl rfl ⟨⟨rfl, rfl⟩, ⟨by decide, by decide⟩, ⟨Nat.le_of_ble_eq_true rfl, Nat.le_of_ble_eq_true rfl⟩, Nat.le_of_ble_eq_true rfl⟩ ?_
    rintro _ _ ⟨rfl, κ2, rfl, hT2, hT3⟩
    refine zW_frz (f := 2) (a := B + 1 + 37 + 1 + 11) (N := 6) (by simp [tX12, rX12, tX11, rX11, iX11, tX6, rX6, iX6, tX0, rX0, iX0, tX2, rX2, iX2, tX5, rX5, iX5, tX4, rX4, iX4, tX8, rX8, iX8, tX9, rX9, iX9, tX3, rX3, iX3, tX1, rX1, iX1, zp, zu, Nat.add_assoc]) hT2 ?_
    refine zW_frz (f := 3) (a := B + 1 + 37 + 1 + 12) (N := 6) (by simp [tX12, rX12, tX11, rX11, iX11, tX6, rX6, iX6, tX0, rX0, iX0, tX2, rX2, iX2, tX5, rX5, iX5, tX4, rX4, iX4, tX8, rX8, iX8, tX9, rX9, iX9, tX3, rX3, iX3, tX1, rX1, iX1, zp, zu, Nat.add_assoc]) hT3 ?_
    refine r_astore_n X (by decide) dL_law_15 ?_
    refine r_iconst X 0 (by decide) dL_law_16 ?_
    refine r_istore_n X (by decide) dL_law_17 ?_
    refine zW.loc4 (i0 := 0) (v0 := .ref b) (i1 := 1) (v1 := .ref B) (i2 := 2) (v2 := .ref (B + 38)) (i3 := 3) (v3 := .int 0) (by rfl) (by rfl) (by rfl) (by rfl) ?_
    exact law_loop X hSc hL hE 600 0 0 0 _ _ _ _ (by decide) (by decide) (by decide) (zLay_0 B) (zJ_0 B).1 ⟨zRP_s B, fun j hj => absurd hj (Nat.not_lt_zero j)⟩
  exact go s.heap [] _ ⟨rfl, Nat.le_refl _, fun a ha => absurd rfl ha, fun a _ => ⟨rfl, rfl, rfl, rfl⟩⟩ va_S.rf hl
set_option maxHeartbeats 4000000 in
theorem lw_walk (l : Launch) (hflags : l.flags = flags0) (b : Addr) (xs : List Int32) : MetFree l x (headSpec (Jvm.Cond.code x code maxLocals ret :: tables_1) room_1) (lw_P b xs) (fun _ _ _ _ _ => True) lw_Q := by
  refine MetFree.of_bodyS (code := code) (maxLocals := maxLocals) (ret := ret) (by decide) ?_ ?_
  · intro args s m h hn
    obtain ⟨meth, c, h1, h2, h3, h4, h5, h6, -, -⟩ := Cond.code_spec hn (atoms_spec (ws := Jvm.Cond.code x code maxLocals ret :: tables_1) h _ List.mem_cons_self)
    exact ⟨meth, c, h1, h2, h3, h4, h5, h6⟩
  · intro p e s m args below meth c s₁ B hml0 hP _
    obtain ⟨rfl, hx, hbd, hgv⟩ := hP
    obtain ⟨scr, harrAt, hlist, hof, hsmall⟩ := hx
    obtain ⟨hcb, hkn, -, -⟩ := State.arrayAt?_spec harrAt
    have hown : s.vm.findClass R_law = some m.cls := findClass_of_methodNamed B.named
    have hts0 : ∀ c ∈ (Jvm.Cond.code x code maxLocals ret :: tables_1), c.before #[Value.ref b] s = true := atoms_spec (ws := Jvm.Cond.code x code maxLocals ret :: tables_1) B.pre
    have hts : ∀ w ∈ lw_tbl, w.before #[Value.ref b] s = true := k2_hts_sels lw_privs (fun w hw => hts0 w (List.mem_cons_of_mem _ hw)) lw_privs_ok
    have hml : c.maxLocals = 4 := B.maxLocals_eq (hts0 _ List.mem_cons_self)
    have X₀ : Stand p l e room_1 s m #[Value.ref b] below meth c s₁ [] 0 0 := Stand.of_body B
    have hh0 : s₁.heap = s.heap := by rw [B.state]; rfl
    have hsz : scr.slots.size = xs.length := by rw [← Array.length_toList, hlist, List.length_map]
    have hval : ∀ j : Nat, j < xs.length → scr.slots[j]? = some (.int (xs.getD j 0)) := fun j hj => by
      rw [← Array.getElem?_toList, hlist]
      simp [hj]
    have hbl : b < s.heap.size := (Array.getElem?_eq_some_iff.mp hcb).1
    have hX : va_X b xs.length (fun j => xs.getD j 0) s s.heap := ⟨scr, hcb, hof, hkn, hsz, hval⟩
    have K : W p l e room_1 s m #[Value.ref b] below meth c s₁.heap [] 0 0 (lw_Z below #[Value.ref b] s) (entryFrame m ([Value.ref b] : List Value).toArray 4) := by
      rw [hh0]
      exact whole_start l hflags hbd ⟨B.exec, B.bytes, B.returns, hml, hown, hts, hX, hbl, B.notSynchronized, hgv⟩
    obtain ⟨t, a1, o, b1, b2, b3⟩ := K s₁ rfl X₀
    exact ⟨t, o, a1, b1, b2, b3⟩
theorem lw_pre_spec {args : Array Value} {s : State} (h : (Jvm.Cond.and given_1 narrow_1).before args s = true) (hr : rest_1_c.before args s = true) : ∃ (b : Addr) (xs : List Int32), lw_P b xs args s := by
  have hs := flat_of_before _ h
  have hq := flat_of_before _ hr
  have hc : (Cond.count 1).before args s = true := hs _ (by decide +kernel)
  have harr : (Cond.arrayOf (.arg 0) .int).before args s = true := hs _ (by decide +kernel)
  have hle : (Cond.le (.length (.arg 0)) (.int 2560)).before args s = true := hs _ (by decide +kernel)
  have hlen : (Cond.isInt (.length (.arg 0))).before args s = true := hq _ (by decide +kernel)
  have hall : (Cond.all (.arg 0) (.isInt (.elem (.arg 0) (.index 0)))).before args s = true := hq _ (by decide +kernel)
  obtain ⟨b, xs, hb, hx⟩ := State.ints_of_pre rfl harr hlen hall
  have hsm : xs.length < 2 ^ 31 := hx.choose_spec.2.2.2
  have hev : (Term.length (.arg 0)).eval args s none [] s = some (.int xs.length.toInt32) := hx.length_eval hb
  have hv := Cond.le_ints hev (show (Term.int 2560).eval args s none [] s = some (.int 2560) from rfl)
  have hd : xs.length.toInt32 ≤ 2560 := by
    simpa [Cond.before, Cond.holds, hv] using hle
  have hN : xs.length ≤ 2560 := (Int32.ofNat_le_ofNat hsm (by decide)).mp (show Int32.ofNat xs.length ≤ Int32.ofNat 2560 from hd)
  exact ⟨b, xs, Cond.one_arg hc (show args[0]? = some (.ref b) from hb), hx, hN, h⟩
theorem lw_comes (l : Launch) (hflags : l.flags = flags0) : Comes l x (Jvm.Cond.code x code maxLocals ret :: tables_1) room_1 (fun tb e args s => Calls_1 tb e args s ∧ rest_1 tb e args s ∧ Pre_1 tb e args s)
    (fun _ _ args s o t => lw_Q args s o t) := by
  intro p e ha hc hk s m args below hf hfit hheap happ hpre
  obtain ⟨b, xs, hP⟩ := lw_pre_spec hpre.2.2 hpre.2.1
  obtain ⟨k, o, h1, h2, h3, hQ⟩ := lw_walk l hflags b xs p e ha hc hk s m args below hf ((Spec.applies_iff_loose hf).mp happ).1 hP trivial
  exact ⟨k, o, h1, h2, h3, hQ⟩
theorem lw_frame {s t : State} {o : Outcome} {args : Array Value} (h : Framed s o t [] 600000 7302250) :
    Framed s o t (fieldLocs frame_1_writes args s ++ arrayLocs frame_1_arrays args s ++ staticLocs frame_1_statics s) 600000 7302250 := h
theorem lw_limb (L : Cond) (hL : ∀ (args : Array Value) (s t : State), L.after args s (.returned (some (.int 1))) t = true) :
    ArmFor flags0 classFile x code maxLocals ret World_1 tables_1 room_1 Calls_1 rest_1 Pre_1
      (fun tb e a s o t => postC L tb e a s o t ∧ Framed s o t (fieldLocs frame_1_writes a s ++ arrayLocs frame_1_arrays a s ++ staticLocs frame_1_statics s) 600000 7302250) := by
  intro l hflags _ _ p e ha hc hk s m args below hf hfit hheap happ hpre
  obtain ⟨k, o, h1, h2, h3, rfl, hF⟩ := lw_comes l hflags p e ha hc hk s m args below hf hfit hheap happ hpre
  exact ⟨k, _, h1, h2, h3, hL args s _, lw_frame hF⟩
theorem i_vc : Claimed_1_1 ∧ Claimed_1_2 := ⟨lw_limb limb_1_1 (fun args s t => by simp [limb_1_1, Cond.after, Cond.holds, Cond.value]), lw_limb limb_1_2 (fun args s t => Cond.after_iff.mpr (by
  first | (rw [show limb_1_2 = Cond.eq .result (.int 1) from rfl, Cond.eq_ints (x := 1) (y := 1) rfl rfl]; simp; done) | (simp [limb_1_2, Cond.value, Term.eval]; done)))⟩
