/-! the law (wip/gen/spec_x.py) -/
/-! THE CLAIM OUT OF ONE WALK OF THE LAW'S BODY. Your part is whole_start (and what it stands on); all else here is the same for every law, but numbers. -/
def R_law : String := "SlideRulesLaw"
def lw_P (b : Addr) (xs : List Int32) (args : Array Value) (s : State) : Prop := args = #[.ref b] ∧ s.IntsAt b xs ∧ xs.length ≤ 2560 ∧ (Jvm.Cond.and given_1 narrow_1).before args s = true
def lw_Q (_ : Array Value) (s : State) (o : Outcome) (t : State) : Prop := o = .returned (some (.int 1)) ∧ Framed s o t [] 600000 7302250
def lw_Z (below : List Frame) (a : Array Value) (s : State) : State → Prop := fun t => ∃ o, t.status = .running ∧ Ended t below o ∧ lw_Q a s o t
/-- the law's own end, with 1 on the stack, nothing written that was there before, its room as the claim has it -/
theorem lw_ret {p : Program} {l : Launch} {e : Env} {s : State} {m : MethodId} {below : List Frame} {meth : Method} {c : Code} {b : Nat} (hx : p.tables.exec = Jvm.exec) (hb : c.code = code) (hr : meth.sig.returnType = ret) (hlocks : meth.locks = false) {pc : Nat} {H : Heap} {ls : Array Slot} (hdg : decode code pc = .ok (.ireturn, 1)) : W p l e room_1 s m #[Value.ref b] below meth c H [] 600000 7302250 (lw_Z below #[Value.ref b] s) (F0 m pc ls [.int 1]) := by
  intro T hT X
  obtain ⟨fs, hret, hrun, hended, hW, hframe⟩ := X.leave (v := some (.int 1)) (hlocks := hlocks) (fun h => by rw [hr] at h; cases h)
  have hmeth' : T.vm.method? m = some meth := X.method'
  refine ⟨T.setFrames fs, ?_, .returned (some (.int 1)), hrun, hended, rfl, ⟨_, rfl⟩, hW, hframe⟩
  jvm_step X.here [X.here.top, hx, hb, hdg, hmeth', hr, ret, narrow_b1]
  (try refine ⟨rfl, ?_⟩); (try refine ⟨rfl, ?_⟩)
  first | (intro acts; rw [hret _ acts rfl rfl rfl]) | rw [hret _ _ rfl rfl rfl]
  exact Steps.refl _
/-- what holds at the law's entry: the machine, the code, the tables' words (any of lw_tbl by 'hts w (by decide +kernel)'), the script of L ints xs at the cell b, what the Statement gives of the start (any of its parts by flat_of_before) -/
def lw_At (p : Program) (s : State) (m : MethodId) (meth : Method) (c : Code) (b L : Nat) (xs : Nat → Int32) : Prop :=
  p.tables.exec = Jvm.exec ∧ c.code = code ∧ meth.sig.returnType = ret ∧ c.maxLocals = 4 ∧ s.vm.findClass R_law = some m.cls ∧ (∀ w ∈ lw_tbl, w.before #[Value.ref b] s = true) ∧ va_X b L xs s s.heap ∧ b < s.heap.size ∧ meth.locks = false ∧ (Jvm.Cond.and given_1 narrow_1).before #[Value.ref b] s = true
def zScr (E : zE) (G : zG) (b L : Nat) (xs : Nat → Int32) : Prop := match E with
  | (_, _, _, _, u, _, _, _, _, _, _) => va_X b L xs u u.heap ∧ b < u.heap.size ∧ ¬ zA G b
section ZL
variable {E : zE} {G : zG} {cc : ByteArray} {nL : Nat} {own : String} {rm : Room} {n k pc nx : Nat} {L0 : List (Nat × Value)} {st : List Value} {s : zS} {b L : Nat} {xs : Nat → Int32}
theorem r_sld (X : zX E G cc nL own rm) (hS : zScr E G b L xs) {i : Int32} (d : zd cc pc .iaload 1 nx) (hin : vp_in i L) (kk : zW E G nL s n k nx L0 (.int (xs i.toNatClampNeg) :: st)) : zW E G nL s n k pc L0 (.int i :: .ref b :: st) := by
  obtain ⟨p, l, e, R, u, m, args, below, meth, c, Q⟩ := E
  obtain ⟨hx, hb, hml, hown, hts, hK, hN, hlk, hB, rfl⟩ := X
  obtain ⟨d, rfl⟩ := d
  obtain ⟨h1, h2, h3⟩ := hS
  intro H locs ls hH hS hl
  exact va_sld hx hb h1 h2 h3 hS hin d (kk H locs ls hH hS hl)
theorem r_slen (X : zX E G cc nL own rm) (hS : zScr E G b L xs) (d : zd cc pc .arraylength 1 nx) (kk : zW E G nL s n k nx L0 (.int (Int32.ofNat L) :: st)) : zW E G nL s n k pc L0 (.ref b :: st) := by
  obtain ⟨p, l, e, R, u, m, args, below, meth, c, Q⟩ := E
  obtain ⟨hx, hb, hml, hown, hts, hK, hN, hlk, hB, rfl⟩ := X
  obtain ⟨d, rfl⟩ := d
  obtain ⟨h1, h2, h3⟩ := hS
  intro H locs ls hH hS hl
  exact va_slen hx hb h1 h2 h3 hS d (kk H locs ls hH hS hl)
theorem r_pop2 (X : zX E G cc nL own rm) {v : Value} (hv : v.category = 2) (d : zd cc pc .pop2 1 nx) (kk : zW E G nL s n k nx L0 st) : zW E G nL s n k pc L0 (v :: st) := by
  obtain ⟨p, l, e, R, u, m, args, below, meth, c, Q⟩ := E
  obtain ⟨hx, hb, hml, hown, hts, hK, hN, hlk, hB, rfl⟩ := X
  obtain ⟨d, rfl⟩ := d
  intro H locs ls hH hS hl
  exact lv_pop2_2 hx hb d hv (kk H locs ls hH hS hl)
end ZL
def zTf (x : Int32) : Int32 := if x = 0 then 0 else 1
theorem dL_law_0 : zd cL_law 0 (.new 7) 3 3 := ⟨by decide +kernel, rfl⟩
theorem dL_law_3 : zd cL_law 3 (.dup) 1 4 := ⟨by decide +kernel, rfl⟩
theorem dL_law_4 : zd cL_law 4 (.invokespecial 9) 3 7 := ⟨by decide +kernel, rfl⟩
theorem dL_law_7 : zd cL_law 7 (.astore_n 1) 1 8 := ⟨by decide +kernel, rfl⟩
theorem dL_law_8 : zd cL_law 8 (.new 10) 3 11 := ⟨by decide +kernel, rfl⟩
theorem dL_law_11 : zd cL_law 11 (.dup) 1 12 := ⟨by decide +kernel, rfl⟩
theorem dL_law_12 : zd cL_law 12 (.invokespecial 12) 3 15 := ⟨by decide +kernel, rfl⟩
theorem dL_law_15 : zd cL_law 15 (.astore_n 2) 1 16 := ⟨by decide +kernel, rfl⟩
theorem dL_law_16 : zd cL_law 16 (.iconst 0) 1 17 := ⟨by decide +kernel, rfl⟩
theorem dL_law_17 : zd cL_law 17 (.istore_n 3) 1 18 := ⟨by decide +kernel, rfl⟩
theorem dL_law_18 : zd cL_law 18 (.iload_n 3) 1 19 := ⟨by decide +kernel, rfl⟩
theorem dL_law_19 : zd cL_law 19 (.aload_n 0) 1 20 := ⟨by decide +kernel, rfl⟩
theorem dL_law_20 : zd cL_law 20 (.arraylength) 1 21 := ⟨by decide +kernel, rfl⟩
theorem dL_law_21 : zd cL_law 21 (.iconst 5) 1 22 := ⟨by decide +kernel, rfl⟩
theorem dL_law_22 : zd cL_law 22 (.isub) 1 23 := ⟨by decide +kernel, rfl⟩
theorem dL_law_23 : zd cL_law 23 (.if_icmp .gt 1025) 3 26 := ⟨by decide +kernel, rfl⟩
theorem dL_law_26 : zd cL_law 26 (.aload_n 0) 1 27 := ⟨by decide +kernel, rfl⟩
theorem dL_law_27 : zd cL_law 27 (.iload_n 3) 1 28 := ⟨by decide +kernel, rfl⟩
theorem dL_law_28 : zd cL_law 28 (.iaload) 1 29 := ⟨by decide +kernel, rfl⟩
theorem dL_law_29 : zd cL_law 29 (.bipush 31) 2 31 := ⟨by decide +kernel, rfl⟩
theorem dL_law_31 : zd cL_law 31 (.iand) 1 32 := ⟨by decide +kernel, rfl⟩
theorem dL_law_32 : zd cL_law 32 (.tableswitch 1010 0 25 #[120, 143, 228, 261, 314, 347, 370, 403, 426, 479, 522, 555, 588, 611, 624, 647, 700, 743, 796, 829, 852, 895, 918, 951, 974, 997]) 120 152 := ⟨by decide +kernel, rfl⟩
theorem dL_law_152 : zd cL_law 152 (.aload_n 1) 1 153 := ⟨by decide +kernel, rfl⟩
theorem dL_law_153 : zd cL_law 153 (.aload_n 0) 1 154 := ⟨by decide +kernel, rfl⟩
theorem dL_law_154 : zd cL_law 154 (.iload_n 3) 1 155 := ⟨by decide +kernel, rfl⟩
theorem dL_law_155 : zd cL_law 155 (.iconst 1) 1 156 := ⟨by decide +kernel, rfl⟩
theorem dL_law_156 : zd cL_law 156 (.iadd) 1 157 := ⟨by decide +kernel, rfl⟩
theorem dL_law_157 : zd cL_law 157 (.iaload) 1 158 := ⟨by decide +kernel, rfl⟩
theorem dL_law_158 : zd cL_law 158 (.invokevirtual 13) 3 161 := ⟨by decide +kernel, rfl⟩
theorem dL_law_161 : zd cL_law 161 (.pop) 1 162 := ⟨by decide +kernel, rfl⟩
theorem dL_law_162 : zd cL_law 162 (.aload_n 2) 1 163 := ⟨by decide +kernel, rfl⟩
theorem dL_law_163 : zd cL_law 163 (.aload_n 0) 1 164 := ⟨by decide +kernel, rfl⟩
theorem dL_law_164 : zd cL_law 164 (.iload_n 3) 1 165 := ⟨by decide +kernel, rfl⟩
theorem dL_law_165 : zd cL_law 165 (.iconst 1) 1 166 := ⟨by decide +kernel, rfl⟩
theorem dL_law_166 : zd cL_law 166 (.iadd) 1 167 := ⟨by decide +kernel, rfl⟩
theorem dL_law_167 : zd cL_law 167 (.iaload) 1 168 := ⟨by decide +kernel, rfl⟩
theorem dL_law_168 : zd cL_law 168 (.invokevirtual 17) 3 171 := ⟨by decide +kernel, rfl⟩
theorem dL_law_171 : zd cL_law 171 (.pop) 1 172 := ⟨by decide +kernel, rfl⟩
theorem dL_law_172 : zd cL_law 172 (.goto 870) 3 175 := ⟨by decide +kernel, rfl⟩
theorem dL_law_175 : zd cL_law 175 (.aload_n 1) 1 176 := ⟨by decide +kernel, rfl⟩
theorem dL_law_176 : zd cL_law 176 (.aload_n 0) 1 177 := ⟨by decide +kernel, rfl⟩
theorem dL_law_177 : zd cL_law 177 (.iload_n 3) 1 178 := ⟨by decide +kernel, rfl⟩
theorem dL_law_178 : zd cL_law 178 (.iconst 1) 1 179 := ⟨by decide +kernel, rfl⟩
theorem dL_law_179 : zd cL_law 179 (.iadd) 1 180 := ⟨by decide +kernel, rfl⟩
theorem dL_law_180 : zd cL_law 180 (.iaload) 1 181 := ⟨by decide +kernel, rfl⟩
theorem dL_law_181 : zd cL_law 181 (.ifCond .eq 7) 3 184 := ⟨by decide +kernel, rfl⟩
theorem dL_law_184 : zd cL_law 184 (.iconst 1) 1 185 := ⟨by decide +kernel, rfl⟩
theorem dL_law_185 : zd cL_law 185 (.goto 4) 3 188 := ⟨by decide +kernel, rfl⟩
theorem dL_law_188 : zd cL_law 188 (.iconst 0) 1 189 := ⟨by decide +kernel, rfl⟩
theorem dL_law_189 : zd cL_law 189 (.aload_n 0) 1 190 := ⟨by decide +kernel, rfl⟩
theorem dL_law_190 : zd cL_law 190 (.iload_n 3) 1 191 := ⟨by decide +kernel, rfl⟩
theorem dL_law_191 : zd cL_law 191 (.iconst 2) 1 192 := ⟨by decide +kernel, rfl⟩
theorem dL_law_192 : zd cL_law 192 (.iadd) 1 193 := ⟨by decide +kernel, rfl⟩
theorem dL_law_193 : zd cL_law 193 (.iaload) 1 194 := ⟨by decide +kernel, rfl⟩
theorem dL_law_194 : zd cL_law 194 (.aload_n 0) 1 195 := ⟨by decide +kernel, rfl⟩
theorem dL_law_195 : zd cL_law 195 (.iload_n 3) 1 196 := ⟨by decide +kernel, rfl⟩
theorem dL_law_196 : zd cL_law 196 (.iconst 3) 1 197 := ⟨by decide +kernel, rfl⟩
theorem dL_law_197 : zd cL_law 197 (.iadd) 1 198 := ⟨by decide +kernel, rfl⟩
theorem dL_law_198 : zd cL_law 198 (.iaload) 1 199 := ⟨by decide +kernel, rfl⟩
theorem dL_law_199 : zd cL_law 199 (.aload_n 0) 1 200 := ⟨by decide +kernel, rfl⟩
theorem dL_law_200 : zd cL_law 200 (.iload_n 3) 1 201 := ⟨by decide +kernel, rfl⟩
theorem dL_law_201 : zd cL_law 201 (.iconst 4) 1 202 := ⟨by decide +kernel, rfl⟩
theorem dL_law_202 : zd cL_law 202 (.iadd) 1 203 := ⟨by decide +kernel, rfl⟩
theorem dL_law_203 : zd cL_law 203 (.iaload) 1 204 := ⟨by decide +kernel, rfl⟩
theorem dL_law_204 : zd cL_law 204 (.ifCond .eq 7) 3 207 := ⟨by decide +kernel, rfl⟩
theorem dL_law_207 : zd cL_law 207 (.iconst 1) 1 208 := ⟨by decide +kernel, rfl⟩
theorem dL_law_208 : zd cL_law 208 (.goto 4) 3 211 := ⟨by decide +kernel, rfl⟩
theorem dL_law_211 : zd cL_law 211 (.iconst 0) 1 212 := ⟨by decide +kernel, rfl⟩
theorem dL_law_212 : zd cL_law 212 (.invokevirtual 18) 3 215 := ⟨by decide +kernel, rfl⟩
theorem dL_law_215 : zd cL_law 215 (.pop) 1 216 := ⟨by decide +kernel, rfl⟩
theorem dL_law_216 : zd cL_law 216 (.aload_n 2) 1 217 := ⟨by decide +kernel, rfl⟩
theorem dL_law_217 : zd cL_law 217 (.aload_n 0) 1 218 := ⟨by decide +kernel, rfl⟩
theorem dL_law_218 : zd cL_law 218 (.iload_n 3) 1 219 := ⟨by decide +kernel, rfl⟩
theorem dL_law_219 : zd cL_law 219 (.iconst 1) 1 220 := ⟨by decide +kernel, rfl⟩
theorem dL_law_220 : zd cL_law 220 (.iadd) 1 221 := ⟨by decide +kernel, rfl⟩
theorem dL_law_221 : zd cL_law 221 (.iaload) 1 222 := ⟨by decide +kernel, rfl⟩
theorem dL_law_222 : zd cL_law 222 (.ifCond .eq 7) 3 225 := ⟨by decide +kernel, rfl⟩
theorem dL_law_225 : zd cL_law 225 (.iconst 1) 1 226 := ⟨by decide +kernel, rfl⟩
theorem dL_law_226 : zd cL_law 226 (.goto 4) 3 229 := ⟨by decide +kernel, rfl⟩
theorem dL_law_229 : zd cL_law 229 (.iconst 0) 1 230 := ⟨by decide +kernel, rfl⟩
theorem dL_law_230 : zd cL_law 230 (.aload_n 0) 1 231 := ⟨by decide +kernel, rfl⟩
theorem dL_law_231 : zd cL_law 231 (.iload_n 3) 1 232 := ⟨by decide +kernel, rfl⟩
theorem dL_law_232 : zd cL_law 232 (.iconst 2) 1 233 := ⟨by decide +kernel, rfl⟩
theorem dL_law_233 : zd cL_law 233 (.iadd) 1 234 := ⟨by decide +kernel, rfl⟩
theorem dL_law_234 : zd cL_law 234 (.iaload) 1 235 := ⟨by decide +kernel, rfl⟩
theorem dL_law_235 : zd cL_law 235 (.aload_n 0) 1 236 := ⟨by decide +kernel, rfl⟩
theorem dL_law_236 : zd cL_law 236 (.iload_n 3) 1 237 := ⟨by decide +kernel, rfl⟩
theorem dL_law_237 : zd cL_law 237 (.iconst 3) 1 238 := ⟨by decide +kernel, rfl⟩
theorem dL_law_238 : zd cL_law 238 (.iadd) 1 239 := ⟨by decide +kernel, rfl⟩
theorem dL_law_239 : zd cL_law 239 (.iaload) 1 240 := ⟨by decide +kernel, rfl⟩
theorem dL_law_240 : zd cL_law 240 (.aload_n 0) 1 241 := ⟨by decide +kernel, rfl⟩
theorem dL_law_241 : zd cL_law 241 (.iload_n 3) 1 242 := ⟨by decide +kernel, rfl⟩
theorem dL_law_242 : zd cL_law 242 (.iconst 4) 1 243 := ⟨by decide +kernel, rfl⟩
theorem dL_law_243 : zd cL_law 243 (.iadd) 1 244 := ⟨by decide +kernel, rfl⟩
theorem dL_law_244 : zd cL_law 244 (.iaload) 1 245 := ⟨by decide +kernel, rfl⟩
theorem dL_law_245 : zd cL_law 245 (.ifCond .eq 7) 3 248 := ⟨by decide +kernel, rfl⟩
theorem dL_law_248 : zd cL_law 248 (.iconst 1) 1 249 := ⟨by decide +kernel, rfl⟩
theorem dL_law_249 : zd cL_law 249 (.goto 4) 3 252 := ⟨by decide +kernel, rfl⟩
theorem dL_law_252 : zd cL_law 252 (.iconst 0) 1 253 := ⟨by decide +kernel, rfl⟩
theorem dL_law_253 : zd cL_law 253 (.invokevirtual 22) 3 256 := ⟨by decide +kernel, rfl⟩
theorem dL_law_256 : zd cL_law 256 (.pop) 1 257 := ⟨by decide +kernel, rfl⟩
theorem dL_law_257 : zd cL_law 257 (.goto 785) 3 260 := ⟨by decide +kernel, rfl⟩
theorem dL_law_260 : zd cL_law 260 (.aload_n 1) 1 261 := ⟨by decide +kernel, rfl⟩
theorem dL_law_261 : zd cL_law 261 (.aload_n 0) 1 262 := ⟨by decide +kernel, rfl⟩
theorem dL_law_262 : zd cL_law 262 (.iload_n 3) 1 263 := ⟨by decide +kernel, rfl⟩
theorem dL_law_263 : zd cL_law 263 (.iconst 1) 1 264 := ⟨by decide +kernel, rfl⟩
theorem dL_law_264 : zd cL_law 264 (.iadd) 1 265 := ⟨by decide +kernel, rfl⟩
theorem dL_law_265 : zd cL_law 265 (.iaload) 1 266 := ⟨by decide +kernel, rfl⟩
theorem dL_law_266 : zd cL_law 266 (.aload_n 0) 1 267 := ⟨by decide +kernel, rfl⟩
theorem dL_law_267 : zd cL_law 267 (.iload_n 3) 1 268 := ⟨by decide +kernel, rfl⟩
theorem dL_law_268 : zd cL_law 268 (.iconst 2) 1 269 := ⟨by decide +kernel, rfl⟩
theorem dL_law_269 : zd cL_law 269 (.iadd) 1 270 := ⟨by decide +kernel, rfl⟩
theorem dL_law_270 : zd cL_law 270 (.iaload) 1 271 := ⟨by decide +kernel, rfl⟩
theorem dL_law_271 : zd cL_law 271 (.invokevirtual 23) 3 274 := ⟨by decide +kernel, rfl⟩
theorem dL_law_274 : zd cL_law 274 (.pop) 1 275 := ⟨by decide +kernel, rfl⟩
theorem dL_law_275 : zd cL_law 275 (.aload_n 2) 1 276 := ⟨by decide +kernel, rfl⟩
theorem dL_law_276 : zd cL_law 276 (.aload_n 0) 1 277 := ⟨by decide +kernel, rfl⟩
theorem dL_law_277 : zd cL_law 277 (.iload_n 3) 1 278 := ⟨by decide +kernel, rfl⟩
theorem dL_law_278 : zd cL_law 278 (.iconst 1) 1 279 := ⟨by decide +kernel, rfl⟩
theorem dL_law_279 : zd cL_law 279 (.iadd) 1 280 := ⟨by decide +kernel, rfl⟩
theorem dL_law_280 : zd cL_law 280 (.iaload) 1 281 := ⟨by decide +kernel, rfl⟩
theorem dL_law_281 : zd cL_law 281 (.aload_n 0) 1 282 := ⟨by decide +kernel, rfl⟩
theorem dL_law_282 : zd cL_law 282 (.iload_n 3) 1 283 := ⟨by decide +kernel, rfl⟩
theorem dL_law_283 : zd cL_law 283 (.iconst 2) 1 284 := ⟨by decide +kernel, rfl⟩
theorem dL_law_284 : zd cL_law 284 (.iadd) 1 285 := ⟨by decide +kernel, rfl⟩
theorem dL_law_285 : zd cL_law 285 (.iaload) 1 286 := ⟨by decide +kernel, rfl⟩
theorem dL_law_286 : zd cL_law 286 (.invokevirtual 27) 3 289 := ⟨by decide +kernel, rfl⟩
theorem dL_law_289 : zd cL_law 289 (.pop) 1 290 := ⟨by decide +kernel, rfl⟩
theorem dL_law_290 : zd cL_law 290 (.goto 752) 3 293 := ⟨by decide +kernel, rfl⟩
theorem dL_law_293 : zd cL_law 293 (.aload_n 1) 1 294 := ⟨by decide +kernel, rfl⟩
theorem dL_law_294 : zd cL_law 294 (.aload_n 0) 1 295 := ⟨by decide +kernel, rfl⟩
theorem dL_law_295 : zd cL_law 295 (.iload_n 3) 1 296 := ⟨by decide +kernel, rfl⟩
theorem dL_law_296 : zd cL_law 296 (.iconst 1) 1 297 := ⟨by decide +kernel, rfl⟩
theorem dL_law_297 : zd cL_law 297 (.iadd) 1 298 := ⟨by decide +kernel, rfl⟩
theorem dL_law_298 : zd cL_law 298 (.iaload) 1 299 := ⟨by decide +kernel, rfl⟩
theorem dL_law_299 : zd cL_law 299 (.aload_n 0) 1 300 := ⟨by decide +kernel, rfl⟩
theorem dL_law_300 : zd cL_law 300 (.iload_n 3) 1 301 := ⟨by decide +kernel, rfl⟩
theorem dL_law_301 : zd cL_law 301 (.iconst 2) 1 302 := ⟨by decide +kernel, rfl⟩
theorem dL_law_302 : zd cL_law 302 (.iadd) 1 303 := ⟨by decide +kernel, rfl⟩
theorem dL_law_303 : zd cL_law 303 (.iaload) 1 304 := ⟨by decide +kernel, rfl⟩
theorem dL_law_304 : zd cL_law 304 (.aload_n 0) 1 305 := ⟨by decide +kernel, rfl⟩
theorem dL_law_305 : zd cL_law 305 (.iload_n 3) 1 306 := ⟨by decide +kernel, rfl⟩
theorem dL_law_306 : zd cL_law 306 (.iconst 3) 1 307 := ⟨by decide +kernel, rfl⟩
theorem dL_law_307 : zd cL_law 307 (.iadd) 1 308 := ⟨by decide +kernel, rfl⟩
theorem dL_law_308 : zd cL_law 308 (.iaload) 1 309 := ⟨by decide +kernel, rfl⟩
theorem dL_law_309 : zd cL_law 309 (.aload_n 0) 1 310 := ⟨by decide +kernel, rfl⟩
theorem dL_law_310 : zd cL_law 310 (.iload_n 3) 1 311 := ⟨by decide +kernel, rfl⟩
theorem dL_law_311 : zd cL_law 311 (.iconst 4) 1 312 := ⟨by decide +kernel, rfl⟩
theorem dL_law_312 : zd cL_law 312 (.iadd) 1 313 := ⟨by decide +kernel, rfl⟩
theorem dL_law_313 : zd cL_law 313 (.iaload) 1 314 := ⟨by decide +kernel, rfl⟩
theorem dL_law_314 : zd cL_law 314 (.invokevirtual 28) 3 317 := ⟨by decide +kernel, rfl⟩
theorem dL_law_317 : zd cL_law 317 (.pop) 1 318 := ⟨by decide +kernel, rfl⟩
theorem dL_law_318 : zd cL_law 318 (.aload_n 2) 1 319 := ⟨by decide +kernel, rfl⟩
theorem dL_law_319 : zd cL_law 319 (.aload_n 0) 1 320 := ⟨by decide +kernel, rfl⟩
theorem dL_law_320 : zd cL_law 320 (.iload_n 3) 1 321 := ⟨by decide +kernel, rfl⟩
theorem dL_law_321 : zd cL_law 321 (.iconst 1) 1 322 := ⟨by decide +kernel, rfl⟩
theorem dL_law_322 : zd cL_law 322 (.iadd) 1 323 := ⟨by decide +kernel, rfl⟩
theorem dL_law_323 : zd cL_law 323 (.iaload) 1 324 := ⟨by decide +kernel, rfl⟩
theorem dL_law_324 : zd cL_law 324 (.aload_n 0) 1 325 := ⟨by decide +kernel, rfl⟩
theorem dL_law_325 : zd cL_law 325 (.iload_n 3) 1 326 := ⟨by decide +kernel, rfl⟩
theorem dL_law_326 : zd cL_law 326 (.iconst 2) 1 327 := ⟨by decide +kernel, rfl⟩
theorem dL_law_327 : zd cL_law 327 (.iadd) 1 328 := ⟨by decide +kernel, rfl⟩
theorem dL_law_328 : zd cL_law 328 (.iaload) 1 329 := ⟨by decide +kernel, rfl⟩
theorem dL_law_329 : zd cL_law 329 (.aload_n 0) 1 330 := ⟨by decide +kernel, rfl⟩
theorem dL_law_330 : zd cL_law 330 (.iload_n 3) 1 331 := ⟨by decide +kernel, rfl⟩
theorem dL_law_331 : zd cL_law 331 (.iconst 3) 1 332 := ⟨by decide +kernel, rfl⟩
theorem dL_law_332 : zd cL_law 332 (.iadd) 1 333 := ⟨by decide +kernel, rfl⟩
theorem dL_law_333 : zd cL_law 333 (.iaload) 1 334 := ⟨by decide +kernel, rfl⟩
theorem dL_law_334 : zd cL_law 334 (.aload_n 0) 1 335 := ⟨by decide +kernel, rfl⟩
theorem dL_law_335 : zd cL_law 335 (.iload_n 3) 1 336 := ⟨by decide +kernel, rfl⟩
theorem dL_law_336 : zd cL_law 336 (.iconst 4) 1 337 := ⟨by decide +kernel, rfl⟩
theorem dL_law_337 : zd cL_law 337 (.iadd) 1 338 := ⟨by decide +kernel, rfl⟩
theorem dL_law_338 : zd cL_law 338 (.iaload) 1 339 := ⟨by decide +kernel, rfl⟩
theorem dL_law_339 : zd cL_law 339 (.invokevirtual 32) 3 342 := ⟨by decide +kernel, rfl⟩
theorem dL_law_342 : zd cL_law 342 (.pop) 1 343 := ⟨by decide +kernel, rfl⟩
theorem dL_law_343 : zd cL_law 343 (.goto 699) 3 346 := ⟨by decide +kernel, rfl⟩
theorem dL_law_346 : zd cL_law 346 (.aload_n 1) 1 347 := ⟨by decide +kernel, rfl⟩
theorem dL_law_347 : zd cL_law 347 (.aload_n 0) 1 348 := ⟨by decide +kernel, rfl⟩
theorem dL_law_348 : zd cL_law 348 (.iload_n 3) 1 349 := ⟨by decide +kernel, rfl⟩
theorem dL_law_349 : zd cL_law 349 (.iconst 1) 1 350 := ⟨by decide +kernel, rfl⟩
theorem dL_law_350 : zd cL_law 350 (.iadd) 1 351 := ⟨by decide +kernel, rfl⟩
theorem dL_law_351 : zd cL_law 351 (.iaload) 1 352 := ⟨by decide +kernel, rfl⟩
theorem dL_law_352 : zd cL_law 352 (.aload_n 0) 1 353 := ⟨by decide +kernel, rfl⟩
theorem dL_law_353 : zd cL_law 353 (.iload_n 3) 1 354 := ⟨by decide +kernel, rfl⟩
theorem dL_law_354 : zd cL_law 354 (.iconst 2) 1 355 := ⟨by decide +kernel, rfl⟩
theorem dL_law_355 : zd cL_law 355 (.iadd) 1 356 := ⟨by decide +kernel, rfl⟩
theorem dL_law_356 : zd cL_law 356 (.iaload) 1 357 := ⟨by decide +kernel, rfl⟩
theorem dL_law_357 : zd cL_law 357 (.invokevirtual 33) 3 360 := ⟨by decide +kernel, rfl⟩
theorem dL_law_360 : zd cL_law 360 (.pop) 1 361 := ⟨by decide +kernel, rfl⟩
theorem dL_law_361 : zd cL_law 361 (.aload_n 2) 1 362 := ⟨by decide +kernel, rfl⟩
theorem dL_law_362 : zd cL_law 362 (.aload_n 0) 1 363 := ⟨by decide +kernel, rfl⟩
theorem dL_law_363 : zd cL_law 363 (.iload_n 3) 1 364 := ⟨by decide +kernel, rfl⟩
theorem dL_law_364 : zd cL_law 364 (.iconst 1) 1 365 := ⟨by decide +kernel, rfl⟩
theorem dL_law_365 : zd cL_law 365 (.iadd) 1 366 := ⟨by decide +kernel, rfl⟩
theorem dL_law_366 : zd cL_law 366 (.iaload) 1 367 := ⟨by decide +kernel, rfl⟩
theorem dL_law_367 : zd cL_law 367 (.aload_n 0) 1 368 := ⟨by decide +kernel, rfl⟩
theorem dL_law_368 : zd cL_law 368 (.iload_n 3) 1 369 := ⟨by decide +kernel, rfl⟩
theorem dL_law_369 : zd cL_law 369 (.iconst 2) 1 370 := ⟨by decide +kernel, rfl⟩
theorem dL_law_370 : zd cL_law 370 (.iadd) 1 371 := ⟨by decide +kernel, rfl⟩
theorem dL_law_371 : zd cL_law 371 (.iaload) 1 372 := ⟨by decide +kernel, rfl⟩
theorem dL_law_372 : zd cL_law 372 (.invokevirtual 36) 3 375 := ⟨by decide +kernel, rfl⟩
theorem dL_law_375 : zd cL_law 375 (.pop) 1 376 := ⟨by decide +kernel, rfl⟩
theorem dL_law_376 : zd cL_law 376 (.goto 666) 3 379 := ⟨by decide +kernel, rfl⟩
theorem dL_law_379 : zd cL_law 379 (.aload_n 1) 1 380 := ⟨by decide +kernel, rfl⟩
theorem dL_law_380 : zd cL_law 380 (.aload_n 0) 1 381 := ⟨by decide +kernel, rfl⟩
theorem dL_law_381 : zd cL_law 381 (.iload_n 3) 1 382 := ⟨by decide +kernel, rfl⟩
theorem dL_law_382 : zd cL_law 382 (.iconst 1) 1 383 := ⟨by decide +kernel, rfl⟩
theorem dL_law_383 : zd cL_law 383 (.iadd) 1 384 := ⟨by decide +kernel, rfl⟩
theorem dL_law_384 : zd cL_law 384 (.iaload) 1 385 := ⟨by decide +kernel, rfl⟩
theorem dL_law_385 : zd cL_law 385 (.invokevirtual 37) 3 388 := ⟨by decide +kernel, rfl⟩
theorem dL_law_388 : zd cL_law 388 (.pop) 1 389 := ⟨by decide +kernel, rfl⟩
theorem dL_law_389 : zd cL_law 389 (.aload_n 2) 1 390 := ⟨by decide +kernel, rfl⟩
theorem dL_law_390 : zd cL_law 390 (.aload_n 0) 1 391 := ⟨by decide +kernel, rfl⟩
theorem dL_law_391 : zd cL_law 391 (.iload_n 3) 1 392 := ⟨by decide +kernel, rfl⟩
theorem dL_law_392 : zd cL_law 392 (.iconst 1) 1 393 := ⟨by decide +kernel, rfl⟩
theorem dL_law_393 : zd cL_law 393 (.iadd) 1 394 := ⟨by decide +kernel, rfl⟩
theorem dL_law_394 : zd cL_law 394 (.iaload) 1 395 := ⟨by decide +kernel, rfl⟩
theorem dL_law_395 : zd cL_law 395 (.invokevirtual 40) 3 398 := ⟨by decide +kernel, rfl⟩
theorem dL_law_398 : zd cL_law 398 (.pop) 1 399 := ⟨by decide +kernel, rfl⟩
theorem dL_law_399 : zd cL_law 399 (.goto 643) 3 402 := ⟨by decide +kernel, rfl⟩
theorem dL_law_402 : zd cL_law 402 (.aload_n 1) 1 403 := ⟨by decide +kernel, rfl⟩
theorem dL_law_403 : zd cL_law 403 (.aload_n 0) 1 404 := ⟨by decide +kernel, rfl⟩
theorem dL_law_404 : zd cL_law 404 (.iload_n 3) 1 405 := ⟨by decide +kernel, rfl⟩
theorem dL_law_405 : zd cL_law 405 (.iconst 1) 1 406 := ⟨by decide +kernel, rfl⟩
theorem dL_law_406 : zd cL_law 406 (.iadd) 1 407 := ⟨by decide +kernel, rfl⟩
theorem dL_law_407 : zd cL_law 407 (.iaload) 1 408 := ⟨by decide +kernel, rfl⟩
theorem dL_law_408 : zd cL_law 408 (.aload_n 0) 1 409 := ⟨by decide +kernel, rfl⟩
theorem dL_law_409 : zd cL_law 409 (.iload_n 3) 1 410 := ⟨by decide +kernel, rfl⟩
theorem dL_law_410 : zd cL_law 410 (.iconst 2) 1 411 := ⟨by decide +kernel, rfl⟩
theorem dL_law_411 : zd cL_law 411 (.iadd) 1 412 := ⟨by decide +kernel, rfl⟩
theorem dL_law_412 : zd cL_law 412 (.iaload) 1 413 := ⟨by decide +kernel, rfl⟩
theorem dL_law_413 : zd cL_law 413 (.invokevirtual 41) 3 416 := ⟨by decide +kernel, rfl⟩
theorem dL_law_416 : zd cL_law 416 (.pop) 1 417 := ⟨by decide +kernel, rfl⟩
theorem dL_law_417 : zd cL_law 417 (.aload_n 2) 1 418 := ⟨by decide +kernel, rfl⟩
theorem dL_law_418 : zd cL_law 418 (.aload_n 0) 1 419 := ⟨by decide +kernel, rfl⟩
theorem dL_law_419 : zd cL_law 419 (.iload_n 3) 1 420 := ⟨by decide +kernel, rfl⟩
theorem dL_law_420 : zd cL_law 420 (.iconst 1) 1 421 := ⟨by decide +kernel, rfl⟩
theorem dL_law_421 : zd cL_law 421 (.iadd) 1 422 := ⟨by decide +kernel, rfl⟩
theorem dL_law_422 : zd cL_law 422 (.iaload) 1 423 := ⟨by decide +kernel, rfl⟩
theorem dL_law_423 : zd cL_law 423 (.aload_n 0) 1 424 := ⟨by decide +kernel, rfl⟩
theorem dL_law_424 : zd cL_law 424 (.iload_n 3) 1 425 := ⟨by decide +kernel, rfl⟩
theorem dL_law_425 : zd cL_law 425 (.iconst 2) 1 426 := ⟨by decide +kernel, rfl⟩
theorem dL_law_426 : zd cL_law 426 (.iadd) 1 427 := ⟨by decide +kernel, rfl⟩
theorem dL_law_427 : zd cL_law 427 (.iaload) 1 428 := ⟨by decide +kernel, rfl⟩
theorem dL_law_428 : zd cL_law 428 (.invokevirtual 44) 3 431 := ⟨by decide +kernel, rfl⟩
theorem dL_law_431 : zd cL_law 431 (.pop) 1 432 := ⟨by decide +kernel, rfl⟩
theorem dL_law_432 : zd cL_law 432 (.goto 610) 3 435 := ⟨by decide +kernel, rfl⟩
theorem dL_law_435 : zd cL_law 435 (.aload_n 1) 1 436 := ⟨by decide +kernel, rfl⟩
theorem dL_law_436 : zd cL_law 436 (.aload_n 0) 1 437 := ⟨by decide +kernel, rfl⟩
theorem dL_law_437 : zd cL_law 437 (.iload_n 3) 1 438 := ⟨by decide +kernel, rfl⟩
theorem dL_law_438 : zd cL_law 438 (.iconst 1) 1 439 := ⟨by decide +kernel, rfl⟩
theorem dL_law_439 : zd cL_law 439 (.iadd) 1 440 := ⟨by decide +kernel, rfl⟩
theorem dL_law_440 : zd cL_law 440 (.iaload) 1 441 := ⟨by decide +kernel, rfl⟩
theorem dL_law_441 : zd cL_law 441 (.invokevirtual 45) 3 444 := ⟨by decide +kernel, rfl⟩
theorem dL_law_444 : zd cL_law 444 (.pop) 1 445 := ⟨by decide +kernel, rfl⟩
theorem dL_law_445 : zd cL_law 445 (.aload_n 2) 1 446 := ⟨by decide +kernel, rfl⟩
theorem dL_law_446 : zd cL_law 446 (.aload_n 0) 1 447 := ⟨by decide +kernel, rfl⟩
theorem dL_law_447 : zd cL_law 447 (.iload_n 3) 1 448 := ⟨by decide +kernel, rfl⟩
theorem dL_law_448 : zd cL_law 448 (.iconst 1) 1 449 := ⟨by decide +kernel, rfl⟩
theorem dL_law_449 : zd cL_law 449 (.iadd) 1 450 := ⟨by decide +kernel, rfl⟩
theorem dL_law_450 : zd cL_law 450 (.iaload) 1 451 := ⟨by decide +kernel, rfl⟩
theorem dL_law_451 : zd cL_law 451 (.invokevirtual 48) 3 454 := ⟨by decide +kernel, rfl⟩
theorem dL_law_454 : zd cL_law 454 (.pop) 1 455 := ⟨by decide +kernel, rfl⟩
theorem dL_law_455 : zd cL_law 455 (.goto 587) 3 458 := ⟨by decide +kernel, rfl⟩
theorem dL_law_458 : zd cL_law 458 (.aload_n 1) 1 459 := ⟨by decide +kernel, rfl⟩
theorem dL_law_459 : zd cL_law 459 (.aload_n 0) 1 460 := ⟨by decide +kernel, rfl⟩
theorem dL_law_460 : zd cL_law 460 (.iload_n 3) 1 461 := ⟨by decide +kernel, rfl⟩
theorem dL_law_461 : zd cL_law 461 (.iconst 1) 1 462 := ⟨by decide +kernel, rfl⟩
theorem dL_law_462 : zd cL_law 462 (.iadd) 1 463 := ⟨by decide +kernel, rfl⟩
theorem dL_law_463 : zd cL_law 463 (.iaload) 1 464 := ⟨by decide +kernel, rfl⟩
theorem dL_law_464 : zd cL_law 464 (.aload_n 0) 1 465 := ⟨by decide +kernel, rfl⟩
theorem dL_law_465 : zd cL_law 465 (.iload_n 3) 1 466 := ⟨by decide +kernel, rfl⟩
theorem dL_law_466 : zd cL_law 466 (.iconst 2) 1 467 := ⟨by decide +kernel, rfl⟩
theorem dL_law_467 : zd cL_law 467 (.iadd) 1 468 := ⟨by decide +kernel, rfl⟩
theorem dL_law_468 : zd cL_law 468 (.iaload) 1 469 := ⟨by decide +kernel, rfl⟩
theorem dL_law_469 : zd cL_law 469 (.aload_n 0) 1 470 := ⟨by decide +kernel, rfl⟩
theorem dL_law_470 : zd cL_law 470 (.iload_n 3) 1 471 := ⟨by decide +kernel, rfl⟩
theorem dL_law_471 : zd cL_law 471 (.iconst 3) 1 472 := ⟨by decide +kernel, rfl⟩
theorem dL_law_472 : zd cL_law 472 (.iadd) 1 473 := ⟨by decide +kernel, rfl⟩
theorem dL_law_473 : zd cL_law 473 (.iaload) 1 474 := ⟨by decide +kernel, rfl⟩
theorem dL_law_474 : zd cL_law 474 (.aload_n 0) 1 475 := ⟨by decide +kernel, rfl⟩
theorem dL_law_475 : zd cL_law 475 (.iload_n 3) 1 476 := ⟨by decide +kernel, rfl⟩
theorem dL_law_476 : zd cL_law 476 (.iconst 4) 1 477 := ⟨by decide +kernel, rfl⟩
theorem dL_law_477 : zd cL_law 477 (.iadd) 1 478 := ⟨by decide +kernel, rfl⟩
theorem dL_law_478 : zd cL_law 478 (.iaload) 1 479 := ⟨by decide +kernel, rfl⟩
theorem dL_law_479 : zd cL_law 479 (.invokevirtual 49) 3 482 := ⟨by decide +kernel, rfl⟩
theorem dL_law_482 : zd cL_law 482 (.pop) 1 483 := ⟨by decide +kernel, rfl⟩
theorem dL_law_483 : zd cL_law 483 (.aload_n 2) 1 484 := ⟨by decide +kernel, rfl⟩
theorem dL_law_484 : zd cL_law 484 (.aload_n 0) 1 485 := ⟨by decide +kernel, rfl⟩
theorem dL_law_485 : zd cL_law 485 (.iload_n 3) 1 486 := ⟨by decide +kernel, rfl⟩
theorem dL_law_486 : zd cL_law 486 (.iconst 1) 1 487 := ⟨by decide +kernel, rfl⟩
theorem dL_law_487 : zd cL_law 487 (.iadd) 1 488 := ⟨by decide +kernel, rfl⟩
theorem dL_law_488 : zd cL_law 488 (.iaload) 1 489 := ⟨by decide +kernel, rfl⟩
theorem dL_law_489 : zd cL_law 489 (.aload_n 0) 1 490 := ⟨by decide +kernel, rfl⟩
theorem dL_law_490 : zd cL_law 490 (.iload_n 3) 1 491 := ⟨by decide +kernel, rfl⟩
theorem dL_law_491 : zd cL_law 491 (.iconst 2) 1 492 := ⟨by decide +kernel, rfl⟩
theorem dL_law_492 : zd cL_law 492 (.iadd) 1 493 := ⟨by decide +kernel, rfl⟩
theorem dL_law_493 : zd cL_law 493 (.iaload) 1 494 := ⟨by decide +kernel, rfl⟩
theorem dL_law_494 : zd cL_law 494 (.aload_n 0) 1 495 := ⟨by decide +kernel, rfl⟩
theorem dL_law_495 : zd cL_law 495 (.iload_n 3) 1 496 := ⟨by decide +kernel, rfl⟩
theorem dL_law_496 : zd cL_law 496 (.iconst 3) 1 497 := ⟨by decide +kernel, rfl⟩
theorem dL_law_497 : zd cL_law 497 (.iadd) 1 498 := ⟨by decide +kernel, rfl⟩
theorem dL_law_498 : zd cL_law 498 (.iaload) 1 499 := ⟨by decide +kernel, rfl⟩
theorem dL_law_499 : zd cL_law 499 (.aload_n 0) 1 500 := ⟨by decide +kernel, rfl⟩
theorem dL_law_500 : zd cL_law 500 (.iload_n 3) 1 501 := ⟨by decide +kernel, rfl⟩
theorem dL_law_501 : zd cL_law 501 (.iconst 4) 1 502 := ⟨by decide +kernel, rfl⟩
theorem dL_law_502 : zd cL_law 502 (.iadd) 1 503 := ⟨by decide +kernel, rfl⟩
theorem dL_law_503 : zd cL_law 503 (.iaload) 1 504 := ⟨by decide +kernel, rfl⟩
theorem dL_law_504 : zd cL_law 504 (.invokevirtual 52) 3 507 := ⟨by decide +kernel, rfl⟩
theorem dL_law_507 : zd cL_law 507 (.pop) 1 508 := ⟨by decide +kernel, rfl⟩
theorem dL_law_508 : zd cL_law 508 (.goto 534) 3 511 := ⟨by decide +kernel, rfl⟩
theorem dL_law_511 : zd cL_law 511 (.aload_n 1) 1 512 := ⟨by decide +kernel, rfl⟩
theorem dL_law_512 : zd cL_law 512 (.aload_n 0) 1 513 := ⟨by decide +kernel, rfl⟩
theorem dL_law_513 : zd cL_law 513 (.iload_n 3) 1 514 := ⟨by decide +kernel, rfl⟩
theorem dL_law_514 : zd cL_law 514 (.iconst 1) 1 515 := ⟨by decide +kernel, rfl⟩
theorem dL_law_515 : zd cL_law 515 (.iadd) 1 516 := ⟨by decide +kernel, rfl⟩
theorem dL_law_516 : zd cL_law 516 (.iaload) 1 517 := ⟨by decide +kernel, rfl⟩
theorem dL_law_517 : zd cL_law 517 (.aload_n 0) 1 518 := ⟨by decide +kernel, rfl⟩
theorem dL_law_518 : zd cL_law 518 (.iload_n 3) 1 519 := ⟨by decide +kernel, rfl⟩
theorem dL_law_519 : zd cL_law 519 (.iconst 2) 1 520 := ⟨by decide +kernel, rfl⟩
theorem dL_law_520 : zd cL_law 520 (.iadd) 1 521 := ⟨by decide +kernel, rfl⟩
theorem dL_law_521 : zd cL_law 521 (.iaload) 1 522 := ⟨by decide +kernel, rfl⟩
theorem dL_law_522 : zd cL_law 522 (.aload_n 0) 1 523 := ⟨by decide +kernel, rfl⟩
theorem dL_law_523 : zd cL_law 523 (.iload_n 3) 1 524 := ⟨by decide +kernel, rfl⟩
theorem dL_law_524 : zd cL_law 524 (.iconst 3) 1 525 := ⟨by decide +kernel, rfl⟩
theorem dL_law_525 : zd cL_law 525 (.iadd) 1 526 := ⟨by decide +kernel, rfl⟩
theorem dL_law_526 : zd cL_law 526 (.iaload) 1 527 := ⟨by decide +kernel, rfl⟩
theorem dL_law_527 : zd cL_law 527 (.invokevirtual 53) 3 530 := ⟨by decide +kernel, rfl⟩
theorem dL_law_530 : zd cL_law 530 (.pop) 1 531 := ⟨by decide +kernel, rfl⟩
theorem dL_law_531 : zd cL_law 531 (.aload_n 2) 1 532 := ⟨by decide +kernel, rfl⟩
theorem dL_law_532 : zd cL_law 532 (.aload_n 0) 1 533 := ⟨by decide +kernel, rfl⟩
theorem dL_law_533 : zd cL_law 533 (.iload_n 3) 1 534 := ⟨by decide +kernel, rfl⟩
theorem dL_law_534 : zd cL_law 534 (.iconst 1) 1 535 := ⟨by decide +kernel, rfl⟩
theorem dL_law_535 : zd cL_law 535 (.iadd) 1 536 := ⟨by decide +kernel, rfl⟩
theorem dL_law_536 : zd cL_law 536 (.iaload) 1 537 := ⟨by decide +kernel, rfl⟩
theorem dL_law_537 : zd cL_law 537 (.aload_n 0) 1 538 := ⟨by decide +kernel, rfl⟩
theorem dL_law_538 : zd cL_law 538 (.iload_n 3) 1 539 := ⟨by decide +kernel, rfl⟩
theorem dL_law_539 : zd cL_law 539 (.iconst 2) 1 540 := ⟨by decide +kernel, rfl⟩
theorem dL_law_540 : zd cL_law 540 (.iadd) 1 541 := ⟨by decide +kernel, rfl⟩
theorem dL_law_541 : zd cL_law 541 (.iaload) 1 542 := ⟨by decide +kernel, rfl⟩
theorem dL_law_542 : zd cL_law 542 (.aload_n 0) 1 543 := ⟨by decide +kernel, rfl⟩
theorem dL_law_543 : zd cL_law 543 (.iload_n 3) 1 544 := ⟨by decide +kernel, rfl⟩
theorem dL_law_544 : zd cL_law 544 (.iconst 3) 1 545 := ⟨by decide +kernel, rfl⟩
theorem dL_law_545 : zd cL_law 545 (.iadd) 1 546 := ⟨by decide +kernel, rfl⟩
theorem dL_law_546 : zd cL_law 546 (.iaload) 1 547 := ⟨by decide +kernel, rfl⟩
theorem dL_law_547 : zd cL_law 547 (.invokevirtual 57) 3 550 := ⟨by decide +kernel, rfl⟩
theorem dL_law_550 : zd cL_law 550 (.pop) 1 551 := ⟨by decide +kernel, rfl⟩
theorem dL_law_551 : zd cL_law 551 (.goto 491) 3 554 := ⟨by decide +kernel, rfl⟩
theorem dL_law_554 : zd cL_law 554 (.aload_n 1) 1 555 := ⟨by decide +kernel, rfl⟩
theorem dL_law_555 : zd cL_law 555 (.aload_n 0) 1 556 := ⟨by decide +kernel, rfl⟩
theorem dL_law_556 : zd cL_law 556 (.iload_n 3) 1 557 := ⟨by decide +kernel, rfl⟩
theorem dL_law_557 : zd cL_law 557 (.iconst 1) 1 558 := ⟨by decide +kernel, rfl⟩
theorem dL_law_558 : zd cL_law 558 (.iadd) 1 559 := ⟨by decide +kernel, rfl⟩
theorem dL_law_559 : zd cL_law 559 (.iaload) 1 560 := ⟨by decide +kernel, rfl⟩
theorem dL_law_560 : zd cL_law 560 (.aload_n 0) 1 561 := ⟨by decide +kernel, rfl⟩
theorem dL_law_561 : zd cL_law 561 (.iload_n 3) 1 562 := ⟨by decide +kernel, rfl⟩
theorem dL_law_562 : zd cL_law 562 (.iconst 2) 1 563 := ⟨by decide +kernel, rfl⟩
theorem dL_law_563 : zd cL_law 563 (.iadd) 1 564 := ⟨by decide +kernel, rfl⟩
theorem dL_law_564 : zd cL_law 564 (.iaload) 1 565 := ⟨by decide +kernel, rfl⟩
theorem dL_law_565 : zd cL_law 565 (.invokevirtual 58) 3 568 := ⟨by decide +kernel, rfl⟩
theorem dL_law_568 : zd cL_law 568 (.pop) 1 569 := ⟨by decide +kernel, rfl⟩
theorem dL_law_569 : zd cL_law 569 (.aload_n 2) 1 570 := ⟨by decide +kernel, rfl⟩
theorem dL_law_570 : zd cL_law 570 (.aload_n 0) 1 571 := ⟨by decide +kernel, rfl⟩
theorem dL_law_571 : zd cL_law 571 (.iload_n 3) 1 572 := ⟨by decide +kernel, rfl⟩
theorem dL_law_572 : zd cL_law 572 (.iconst 1) 1 573 := ⟨by decide +kernel, rfl⟩
theorem dL_law_573 : zd cL_law 573 (.iadd) 1 574 := ⟨by decide +kernel, rfl⟩
theorem dL_law_574 : zd cL_law 574 (.iaload) 1 575 := ⟨by decide +kernel, rfl⟩
theorem dL_law_575 : zd cL_law 575 (.aload_n 0) 1 576 := ⟨by decide +kernel, rfl⟩
theorem dL_law_576 : zd cL_law 576 (.iload_n 3) 1 577 := ⟨by decide +kernel, rfl⟩
theorem dL_law_577 : zd cL_law 577 (.iconst 2) 1 578 := ⟨by decide +kernel, rfl⟩
theorem dL_law_578 : zd cL_law 578 (.iadd) 1 579 := ⟨by decide +kernel, rfl⟩
theorem dL_law_579 : zd cL_law 579 (.iaload) 1 580 := ⟨by decide +kernel, rfl⟩
theorem dL_law_580 : zd cL_law 580 (.invokevirtual 61) 3 583 := ⟨by decide +kernel, rfl⟩
theorem dL_law_583 : zd cL_law 583 (.pop) 1 584 := ⟨by decide +kernel, rfl⟩
theorem dL_law_584 : zd cL_law 584 (.goto 458) 3 587 := ⟨by decide +kernel, rfl⟩
theorem dL_law_587 : zd cL_law 587 (.aload_n 1) 1 588 := ⟨by decide +kernel, rfl⟩
theorem dL_law_588 : zd cL_law 588 (.aload_n 0) 1 589 := ⟨by decide +kernel, rfl⟩
theorem dL_law_589 : zd cL_law 589 (.iload_n 3) 1 590 := ⟨by decide +kernel, rfl⟩
theorem dL_law_590 : zd cL_law 590 (.iconst 1) 1 591 := ⟨by decide +kernel, rfl⟩
theorem dL_law_591 : zd cL_law 591 (.iadd) 1 592 := ⟨by decide +kernel, rfl⟩
theorem dL_law_592 : zd cL_law 592 (.iaload) 1 593 := ⟨by decide +kernel, rfl⟩
theorem dL_law_593 : zd cL_law 593 (.aload_n 0) 1 594 := ⟨by decide +kernel, rfl⟩
theorem dL_law_594 : zd cL_law 594 (.iload_n 3) 1 595 := ⟨by decide +kernel, rfl⟩
theorem dL_law_595 : zd cL_law 595 (.iconst 2) 1 596 := ⟨by decide +kernel, rfl⟩
theorem dL_law_596 : zd cL_law 596 (.iadd) 1 597 := ⟨by decide +kernel, rfl⟩
theorem dL_law_597 : zd cL_law 597 (.iaload) 1 598 := ⟨by decide +kernel, rfl⟩
theorem dL_law_598 : zd cL_law 598 (.invokevirtual 62) 3 601 := ⟨by decide +kernel, rfl⟩
theorem dL_law_601 : zd cL_law 601 (.aload_n 2) 1 602 := ⟨by decide +kernel, rfl⟩
theorem dL_law_602 : zd cL_law 602 (.aload_n 0) 1 603 := ⟨by decide +kernel, rfl⟩
theorem dL_law_603 : zd cL_law 603 (.iload_n 3) 1 604 := ⟨by decide +kernel, rfl⟩
theorem dL_law_604 : zd cL_law 604 (.iconst 1) 1 605 := ⟨by decide +kernel, rfl⟩
theorem dL_law_605 : zd cL_law 605 (.iadd) 1 606 := ⟨by decide +kernel, rfl⟩
theorem dL_law_606 : zd cL_law 606 (.iaload) 1 607 := ⟨by decide +kernel, rfl⟩
theorem dL_law_607 : zd cL_law 607 (.aload_n 0) 1 608 := ⟨by decide +kernel, rfl⟩
theorem dL_law_608 : zd cL_law 608 (.iload_n 3) 1 609 := ⟨by decide +kernel, rfl⟩
theorem dL_law_609 : zd cL_law 609 (.iconst 2) 1 610 := ⟨by decide +kernel, rfl⟩
theorem dL_law_610 : zd cL_law 610 (.iadd) 1 611 := ⟨by decide +kernel, rfl⟩
theorem dL_law_611 : zd cL_law 611 (.iaload) 1 612 := ⟨by decide +kernel, rfl⟩
theorem dL_law_612 : zd cL_law 612 (.invokevirtual 65) 3 615 := ⟨by decide +kernel, rfl⟩
theorem dL_law_615 : zd cL_law 615 (.if_icmp .eq 427) 3 618 := ⟨by decide +kernel, rfl⟩
theorem dL_law_618 : zd cL_law 618 (.iconst 0) 1 619 := ⟨by decide +kernel, rfl⟩
theorem dL_law_619 : zd cL_law 619 (.ireturn) 1 620 := ⟨by decide +kernel, rfl⟩
theorem dL_law_620 : zd cL_law 620 (.aload_n 1) 1 621 := ⟨by decide +kernel, rfl⟩
theorem dL_law_621 : zd cL_law 621 (.aload_n 0) 1 622 := ⟨by decide +kernel, rfl⟩
theorem dL_law_622 : zd cL_law 622 (.iload_n 3) 1 623 := ⟨by decide +kernel, rfl⟩
theorem dL_law_623 : zd cL_law 623 (.iconst 1) 1 624 := ⟨by decide +kernel, rfl⟩
theorem dL_law_624 : zd cL_law 624 (.iadd) 1 625 := ⟨by decide +kernel, rfl⟩
theorem dL_law_625 : zd cL_law 625 (.iaload) 1 626 := ⟨by decide +kernel, rfl⟩
theorem dL_law_626 : zd cL_law 626 (.invokevirtual 66) 3 629 := ⟨by decide +kernel, rfl⟩
theorem dL_law_629 : zd cL_law 629 (.pop) 1 630 := ⟨by decide +kernel, rfl⟩
theorem dL_law_630 : zd cL_law 630 (.aload_n 2) 1 631 := ⟨by decide +kernel, rfl⟩
theorem dL_law_631 : zd cL_law 631 (.aload_n 0) 1 632 := ⟨by decide +kernel, rfl⟩
theorem dL_law_632 : zd cL_law 632 (.iload_n 3) 1 633 := ⟨by decide +kernel, rfl⟩
theorem dL_law_633 : zd cL_law 633 (.iconst 1) 1 634 := ⟨by decide +kernel, rfl⟩
theorem dL_law_634 : zd cL_law 634 (.iadd) 1 635 := ⟨by decide +kernel, rfl⟩
theorem dL_law_635 : zd cL_law 635 (.iaload) 1 636 := ⟨by decide +kernel, rfl⟩
theorem dL_law_636 : zd cL_law 636 (.invokevirtual 69) 3 639 := ⟨by decide +kernel, rfl⟩
theorem dL_law_639 : zd cL_law 639 (.pop) 1 640 := ⟨by decide +kernel, rfl⟩
theorem dL_law_640 : zd cL_law 640 (.goto 402) 3 643 := ⟨by decide +kernel, rfl⟩
theorem dL_law_643 : zd cL_law 643 (.aload_n 1) 1 644 := ⟨by decide +kernel, rfl⟩
theorem dL_law_644 : zd cL_law 644 (.invokevirtual 70) 3 647 := ⟨by decide +kernel, rfl⟩
theorem dL_law_647 : zd cL_law 647 (.pop) 1 648 := ⟨by decide +kernel, rfl⟩
theorem dL_law_648 : zd cL_law 648 (.aload_n 2) 1 649 := ⟨by decide +kernel, rfl⟩
theorem dL_law_649 : zd cL_law 649 (.invokevirtual 74) 3 652 := ⟨by decide +kernel, rfl⟩
theorem dL_law_652 : zd cL_law 652 (.pop) 1 653 := ⟨by decide +kernel, rfl⟩
theorem dL_law_653 : zd cL_law 653 (.goto 389) 3 656 := ⟨by decide +kernel, rfl⟩
theorem dL_law_656 : zd cL_law 656 (.aload_n 1) 1 657 := ⟨by decide +kernel, rfl⟩
theorem dL_law_657 : zd cL_law 657 (.aload_n 0) 1 658 := ⟨by decide +kernel, rfl⟩
theorem dL_law_658 : zd cL_law 658 (.iload_n 3) 1 659 := ⟨by decide +kernel, rfl⟩
theorem dL_law_659 : zd cL_law 659 (.iconst 1) 1 660 := ⟨by decide +kernel, rfl⟩
theorem dL_law_660 : zd cL_law 660 (.iadd) 1 661 := ⟨by decide +kernel, rfl⟩
theorem dL_law_661 : zd cL_law 661 (.iaload) 1 662 := ⟨by decide +kernel, rfl⟩
theorem dL_law_662 : zd cL_law 662 (.invokevirtual 75) 3 665 := ⟨by decide +kernel, rfl⟩
theorem dL_law_665 : zd cL_law 665 (.pop) 1 666 := ⟨by decide +kernel, rfl⟩
theorem dL_law_666 : zd cL_law 666 (.aload_n 2) 1 667 := ⟨by decide +kernel, rfl⟩
theorem dL_law_667 : zd cL_law 667 (.aload_n 0) 1 668 := ⟨by decide +kernel, rfl⟩
theorem dL_law_668 : zd cL_law 668 (.iload_n 3) 1 669 := ⟨by decide +kernel, rfl⟩
theorem dL_law_669 : zd cL_law 669 (.iconst 1) 1 670 := ⟨by decide +kernel, rfl⟩
theorem dL_law_670 : zd cL_law 670 (.iadd) 1 671 := ⟨by decide +kernel, rfl⟩
theorem dL_law_671 : zd cL_law 671 (.iaload) 1 672 := ⟨by decide +kernel, rfl⟩
theorem dL_law_672 : zd cL_law 672 (.invokevirtual 78) 3 675 := ⟨by decide +kernel, rfl⟩
theorem dL_law_675 : zd cL_law 675 (.pop) 1 676 := ⟨by decide +kernel, rfl⟩
theorem dL_law_676 : zd cL_law 676 (.goto 366) 3 679 := ⟨by decide +kernel, rfl⟩
theorem dL_law_679 : zd cL_law 679 (.aload_n 1) 1 680 := ⟨by decide +kernel, rfl⟩
theorem dL_law_680 : zd cL_law 680 (.aload_n 0) 1 681 := ⟨by decide +kernel, rfl⟩
theorem dL_law_681 : zd cL_law 681 (.iload_n 3) 1 682 := ⟨by decide +kernel, rfl⟩
theorem dL_law_682 : zd cL_law 682 (.iconst 1) 1 683 := ⟨by decide +kernel, rfl⟩
theorem dL_law_683 : zd cL_law 683 (.iadd) 1 684 := ⟨by decide +kernel, rfl⟩
theorem dL_law_684 : zd cL_law 684 (.iaload) 1 685 := ⟨by decide +kernel, rfl⟩
theorem dL_law_685 : zd cL_law 685 (.aload_n 0) 1 686 := ⟨by decide +kernel, rfl⟩
theorem dL_law_686 : zd cL_law 686 (.iload_n 3) 1 687 := ⟨by decide +kernel, rfl⟩
theorem dL_law_687 : zd cL_law 687 (.iconst 2) 1 688 := ⟨by decide +kernel, rfl⟩
theorem dL_law_688 : zd cL_law 688 (.iadd) 1 689 := ⟨by decide +kernel, rfl⟩
theorem dL_law_689 : zd cL_law 689 (.iaload) 1 690 := ⟨by decide +kernel, rfl⟩
theorem dL_law_690 : zd cL_law 690 (.aload_n 0) 1 691 := ⟨by decide +kernel, rfl⟩
theorem dL_law_691 : zd cL_law 691 (.iload_n 3) 1 692 := ⟨by decide +kernel, rfl⟩
theorem dL_law_692 : zd cL_law 692 (.iconst 3) 1 693 := ⟨by decide +kernel, rfl⟩
theorem dL_law_693 : zd cL_law 693 (.iadd) 1 694 := ⟨by decide +kernel, rfl⟩
theorem dL_law_694 : zd cL_law 694 (.iaload) 1 695 := ⟨by decide +kernel, rfl⟩
theorem dL_law_695 : zd cL_law 695 (.aload_n 0) 1 696 := ⟨by decide +kernel, rfl⟩
theorem dL_law_696 : zd cL_law 696 (.iload_n 3) 1 697 := ⟨by decide +kernel, rfl⟩
theorem dL_law_697 : zd cL_law 697 (.iconst 4) 1 698 := ⟨by decide +kernel, rfl⟩
theorem dL_law_698 : zd cL_law 698 (.iadd) 1 699 := ⟨by decide +kernel, rfl⟩
theorem dL_law_699 : zd cL_law 699 (.iaload) 1 700 := ⟨by decide +kernel, rfl⟩
theorem dL_law_700 : zd cL_law 700 (.invokevirtual 79) 3 703 := ⟨by decide +kernel, rfl⟩
theorem dL_law_703 : zd cL_law 703 (.pop) 1 704 := ⟨by decide +kernel, rfl⟩
theorem dL_law_704 : zd cL_law 704 (.aload_n 2) 1 705 := ⟨by decide +kernel, rfl⟩
theorem dL_law_705 : zd cL_law 705 (.aload_n 0) 1 706 := ⟨by decide +kernel, rfl⟩
theorem dL_law_706 : zd cL_law 706 (.iload_n 3) 1 707 := ⟨by decide +kernel, rfl⟩
theorem dL_law_707 : zd cL_law 707 (.iconst 1) 1 708 := ⟨by decide +kernel, rfl⟩
theorem dL_law_708 : zd cL_law 708 (.iadd) 1 709 := ⟨by decide +kernel, rfl⟩
theorem dL_law_709 : zd cL_law 709 (.iaload) 1 710 := ⟨by decide +kernel, rfl⟩
theorem dL_law_710 : zd cL_law 710 (.aload_n 0) 1 711 := ⟨by decide +kernel, rfl⟩
theorem dL_law_711 : zd cL_law 711 (.iload_n 3) 1 712 := ⟨by decide +kernel, rfl⟩
theorem dL_law_712 : zd cL_law 712 (.iconst 2) 1 713 := ⟨by decide +kernel, rfl⟩
theorem dL_law_713 : zd cL_law 713 (.iadd) 1 714 := ⟨by decide +kernel, rfl⟩
theorem dL_law_714 : zd cL_law 714 (.iaload) 1 715 := ⟨by decide +kernel, rfl⟩
theorem dL_law_715 : zd cL_law 715 (.aload_n 0) 1 716 := ⟨by decide +kernel, rfl⟩
theorem dL_law_716 : zd cL_law 716 (.iload_n 3) 1 717 := ⟨by decide +kernel, rfl⟩
theorem dL_law_717 : zd cL_law 717 (.iconst 3) 1 718 := ⟨by decide +kernel, rfl⟩
theorem dL_law_718 : zd cL_law 718 (.iadd) 1 719 := ⟨by decide +kernel, rfl⟩
theorem dL_law_719 : zd cL_law 719 (.iaload) 1 720 := ⟨by decide +kernel, rfl⟩
theorem dL_law_720 : zd cL_law 720 (.aload_n 0) 1 721 := ⟨by decide +kernel, rfl⟩
theorem dL_law_721 : zd cL_law 721 (.iload_n 3) 1 722 := ⟨by decide +kernel, rfl⟩
theorem dL_law_722 : zd cL_law 722 (.iconst 4) 1 723 := ⟨by decide +kernel, rfl⟩
theorem dL_law_723 : zd cL_law 723 (.iadd) 1 724 := ⟨by decide +kernel, rfl⟩
theorem dL_law_724 : zd cL_law 724 (.iaload) 1 725 := ⟨by decide +kernel, rfl⟩
theorem dL_law_725 : zd cL_law 725 (.invokevirtual 82) 3 728 := ⟨by decide +kernel, rfl⟩
theorem dL_law_728 : zd cL_law 728 (.pop) 1 729 := ⟨by decide +kernel, rfl⟩
theorem dL_law_729 : zd cL_law 729 (.goto 313) 3 732 := ⟨by decide +kernel, rfl⟩
theorem dL_law_732 : zd cL_law 732 (.aload_n 1) 1 733 := ⟨by decide +kernel, rfl⟩
theorem dL_law_733 : zd cL_law 733 (.aload_n 0) 1 734 := ⟨by decide +kernel, rfl⟩
theorem dL_law_734 : zd cL_law 734 (.iload_n 3) 1 735 := ⟨by decide +kernel, rfl⟩
theorem dL_law_735 : zd cL_law 735 (.iconst 1) 1 736 := ⟨by decide +kernel, rfl⟩
theorem dL_law_736 : zd cL_law 736 (.iadd) 1 737 := ⟨by decide +kernel, rfl⟩
theorem dL_law_737 : zd cL_law 737 (.iaload) 1 738 := ⟨by decide +kernel, rfl⟩
theorem dL_law_738 : zd cL_law 738 (.aload_n 0) 1 739 := ⟨by decide +kernel, rfl⟩
theorem dL_law_739 : zd cL_law 739 (.iload_n 3) 1 740 := ⟨by decide +kernel, rfl⟩
theorem dL_law_740 : zd cL_law 740 (.iconst 2) 1 741 := ⟨by decide +kernel, rfl⟩
theorem dL_law_741 : zd cL_law 741 (.iadd) 1 742 := ⟨by decide +kernel, rfl⟩
theorem dL_law_742 : zd cL_law 742 (.iaload) 1 743 := ⟨by decide +kernel, rfl⟩
theorem dL_law_743 : zd cL_law 743 (.aload_n 0) 1 744 := ⟨by decide +kernel, rfl⟩
theorem dL_law_744 : zd cL_law 744 (.iload_n 3) 1 745 := ⟨by decide +kernel, rfl⟩
theorem dL_law_745 : zd cL_law 745 (.iconst 3) 1 746 := ⟨by decide +kernel, rfl⟩
theorem dL_law_746 : zd cL_law 746 (.iadd) 1 747 := ⟨by decide +kernel, rfl⟩
theorem dL_law_747 : zd cL_law 747 (.iaload) 1 748 := ⟨by decide +kernel, rfl⟩
theorem dL_law_748 : zd cL_law 748 (.invokevirtual 83) 3 751 := ⟨by decide +kernel, rfl⟩
theorem dL_law_751 : zd cL_law 751 (.pop) 1 752 := ⟨by decide +kernel, rfl⟩
theorem dL_law_752 : zd cL_law 752 (.aload_n 2) 1 753 := ⟨by decide +kernel, rfl⟩
theorem dL_law_753 : zd cL_law 753 (.aload_n 0) 1 754 := ⟨by decide +kernel, rfl⟩
theorem dL_law_754 : zd cL_law 754 (.iload_n 3) 1 755 := ⟨by decide +kernel, rfl⟩
theorem dL_law_755 : zd cL_law 755 (.iconst 1) 1 756 := ⟨by decide +kernel, rfl⟩
theorem dL_law_756 : zd cL_law 756 (.iadd) 1 757 := ⟨by decide +kernel, rfl⟩
theorem dL_law_757 : zd cL_law 757 (.iaload) 1 758 := ⟨by decide +kernel, rfl⟩
theorem dL_law_758 : zd cL_law 758 (.aload_n 0) 1 759 := ⟨by decide +kernel, rfl⟩
theorem dL_law_759 : zd cL_law 759 (.iload_n 3) 1 760 := ⟨by decide +kernel, rfl⟩
theorem dL_law_760 : zd cL_law 760 (.iconst 2) 1 761 := ⟨by decide +kernel, rfl⟩
theorem dL_law_761 : zd cL_law 761 (.iadd) 1 762 := ⟨by decide +kernel, rfl⟩
theorem dL_law_762 : zd cL_law 762 (.iaload) 1 763 := ⟨by decide +kernel, rfl⟩
theorem dL_law_763 : zd cL_law 763 (.aload_n 0) 1 764 := ⟨by decide +kernel, rfl⟩
theorem dL_law_764 : zd cL_law 764 (.iload_n 3) 1 765 := ⟨by decide +kernel, rfl⟩
theorem dL_law_765 : zd cL_law 765 (.iconst 3) 1 766 := ⟨by decide +kernel, rfl⟩
theorem dL_law_766 : zd cL_law 766 (.iadd) 1 767 := ⟨by decide +kernel, rfl⟩
theorem dL_law_767 : zd cL_law 767 (.iaload) 1 768 := ⟨by decide +kernel, rfl⟩
theorem dL_law_768 : zd cL_law 768 (.invokevirtual 86) 3 771 := ⟨by decide +kernel, rfl⟩
theorem dL_law_771 : zd cL_law 771 (.pop) 1 772 := ⟨by decide +kernel, rfl⟩
theorem dL_law_772 : zd cL_law 772 (.goto 270) 3 775 := ⟨by decide +kernel, rfl⟩
theorem dL_law_775 : zd cL_law 775 (.aload_n 1) 1 776 := ⟨by decide +kernel, rfl⟩
theorem dL_law_776 : zd cL_law 776 (.aload_n 0) 1 777 := ⟨by decide +kernel, rfl⟩
theorem dL_law_777 : zd cL_law 777 (.iload_n 3) 1 778 := ⟨by decide +kernel, rfl⟩
theorem dL_law_778 : zd cL_law 778 (.iconst 1) 1 779 := ⟨by decide +kernel, rfl⟩
theorem dL_law_779 : zd cL_law 779 (.iadd) 1 780 := ⟨by decide +kernel, rfl⟩
theorem dL_law_780 : zd cL_law 780 (.iaload) 1 781 := ⟨by decide +kernel, rfl⟩
theorem dL_law_781 : zd cL_law 781 (.aload_n 0) 1 782 := ⟨by decide +kernel, rfl⟩
theorem dL_law_782 : zd cL_law 782 (.iload_n 3) 1 783 := ⟨by decide +kernel, rfl⟩
theorem dL_law_783 : zd cL_law 783 (.iconst 2) 1 784 := ⟨by decide +kernel, rfl⟩
theorem dL_law_784 : zd cL_law 784 (.iadd) 1 785 := ⟨by decide +kernel, rfl⟩
theorem dL_law_785 : zd cL_law 785 (.iaload) 1 786 := ⟨by decide +kernel, rfl⟩
theorem dL_law_786 : zd cL_law 786 (.aload_n 0) 1 787 := ⟨by decide +kernel, rfl⟩
theorem dL_law_787 : zd cL_law 787 (.iload_n 3) 1 788 := ⟨by decide +kernel, rfl⟩
theorem dL_law_788 : zd cL_law 788 (.iconst 3) 1 789 := ⟨by decide +kernel, rfl⟩
theorem dL_law_789 : zd cL_law 789 (.iadd) 1 790 := ⟨by decide +kernel, rfl⟩
theorem dL_law_790 : zd cL_law 790 (.iaload) 1 791 := ⟨by decide +kernel, rfl⟩
theorem dL_law_791 : zd cL_law 791 (.aload_n 0) 1 792 := ⟨by decide +kernel, rfl⟩
theorem dL_law_792 : zd cL_law 792 (.iload_n 3) 1 793 := ⟨by decide +kernel, rfl⟩
theorem dL_law_793 : zd cL_law 793 (.iconst 4) 1 794 := ⟨by decide +kernel, rfl⟩
theorem dL_law_794 : zd cL_law 794 (.iadd) 1 795 := ⟨by decide +kernel, rfl⟩
theorem dL_law_795 : zd cL_law 795 (.iaload) 1 796 := ⟨by decide +kernel, rfl⟩
theorem dL_law_796 : zd cL_law 796 (.invokevirtual 87) 3 799 := ⟨by decide +kernel, rfl⟩
theorem dL_law_799 : zd cL_law 799 (.pop) 1 800 := ⟨by decide +kernel, rfl⟩
theorem dL_law_800 : zd cL_law 800 (.aload_n 2) 1 801 := ⟨by decide +kernel, rfl⟩
theorem dL_law_801 : zd cL_law 801 (.aload_n 0) 1 802 := ⟨by decide +kernel, rfl⟩
theorem dL_law_802 : zd cL_law 802 (.iload_n 3) 1 803 := ⟨by decide +kernel, rfl⟩
theorem dL_law_803 : zd cL_law 803 (.iconst 1) 1 804 := ⟨by decide +kernel, rfl⟩
theorem dL_law_804 : zd cL_law 804 (.iadd) 1 805 := ⟨by decide +kernel, rfl⟩
theorem dL_law_805 : zd cL_law 805 (.iaload) 1 806 := ⟨by decide +kernel, rfl⟩
theorem dL_law_806 : zd cL_law 806 (.aload_n 0) 1 807 := ⟨by decide +kernel, rfl⟩
theorem dL_law_807 : zd cL_law 807 (.iload_n 3) 1 808 := ⟨by decide +kernel, rfl⟩
theorem dL_law_808 : zd cL_law 808 (.iconst 2) 1 809 := ⟨by decide +kernel, rfl⟩
theorem dL_law_809 : zd cL_law 809 (.iadd) 1 810 := ⟨by decide +kernel, rfl⟩
theorem dL_law_810 : zd cL_law 810 (.iaload) 1 811 := ⟨by decide +kernel, rfl⟩
theorem dL_law_811 : zd cL_law 811 (.aload_n 0) 1 812 := ⟨by decide +kernel, rfl⟩
theorem dL_law_812 : zd cL_law 812 (.iload_n 3) 1 813 := ⟨by decide +kernel, rfl⟩
theorem dL_law_813 : zd cL_law 813 (.iconst 3) 1 814 := ⟨by decide +kernel, rfl⟩
theorem dL_law_814 : zd cL_law 814 (.iadd) 1 815 := ⟨by decide +kernel, rfl⟩
theorem dL_law_815 : zd cL_law 815 (.iaload) 1 816 := ⟨by decide +kernel, rfl⟩
theorem dL_law_816 : zd cL_law 816 (.aload_n 0) 1 817 := ⟨by decide +kernel, rfl⟩
theorem dL_law_817 : zd cL_law 817 (.iload_n 3) 1 818 := ⟨by decide +kernel, rfl⟩
theorem dL_law_818 : zd cL_law 818 (.iconst 4) 1 819 := ⟨by decide +kernel, rfl⟩
theorem dL_law_819 : zd cL_law 819 (.iadd) 1 820 := ⟨by decide +kernel, rfl⟩
theorem dL_law_820 : zd cL_law 820 (.iaload) 1 821 := ⟨by decide +kernel, rfl⟩
theorem dL_law_821 : zd cL_law 821 (.invokevirtual 90) 3 824 := ⟨by decide +kernel, rfl⟩
theorem dL_law_824 : zd cL_law 824 (.pop) 1 825 := ⟨by decide +kernel, rfl⟩
theorem dL_law_825 : zd cL_law 825 (.goto 217) 3 828 := ⟨by decide +kernel, rfl⟩
theorem dL_law_828 : zd cL_law 828 (.aload_n 1) 1 829 := ⟨by decide +kernel, rfl⟩
theorem dL_law_829 : zd cL_law 829 (.aload_n 0) 1 830 := ⟨by decide +kernel, rfl⟩
theorem dL_law_830 : zd cL_law 830 (.iload_n 3) 1 831 := ⟨by decide +kernel, rfl⟩
theorem dL_law_831 : zd cL_law 831 (.iconst 1) 1 832 := ⟨by decide +kernel, rfl⟩
theorem dL_law_832 : zd cL_law 832 (.iadd) 1 833 := ⟨by decide +kernel, rfl⟩
theorem dL_law_833 : zd cL_law 833 (.iaload) 1 834 := ⟨by decide +kernel, rfl⟩
theorem dL_law_834 : zd cL_law 834 (.aload_n 0) 1 835 := ⟨by decide +kernel, rfl⟩
theorem dL_law_835 : zd cL_law 835 (.iload_n 3) 1 836 := ⟨by decide +kernel, rfl⟩
theorem dL_law_836 : zd cL_law 836 (.iconst 2) 1 837 := ⟨by decide +kernel, rfl⟩
theorem dL_law_837 : zd cL_law 837 (.iadd) 1 838 := ⟨by decide +kernel, rfl⟩
theorem dL_law_838 : zd cL_law 838 (.iaload) 1 839 := ⟨by decide +kernel, rfl⟩
theorem dL_law_839 : zd cL_law 839 (.invokevirtual 91) 3 842 := ⟨by decide +kernel, rfl⟩
theorem dL_law_842 : zd cL_law 842 (.pop) 1 843 := ⟨by decide +kernel, rfl⟩
theorem dL_law_843 : zd cL_law 843 (.aload_n 2) 1 844 := ⟨by decide +kernel, rfl⟩
theorem dL_law_844 : zd cL_law 844 (.aload_n 0) 1 845 := ⟨by decide +kernel, rfl⟩
theorem dL_law_845 : zd cL_law 845 (.iload_n 3) 1 846 := ⟨by decide +kernel, rfl⟩
theorem dL_law_846 : zd cL_law 846 (.iconst 1) 1 847 := ⟨by decide +kernel, rfl⟩
theorem dL_law_847 : zd cL_law 847 (.iadd) 1 848 := ⟨by decide +kernel, rfl⟩
theorem dL_law_848 : zd cL_law 848 (.iaload) 1 849 := ⟨by decide +kernel, rfl⟩
theorem dL_law_849 : zd cL_law 849 (.aload_n 0) 1 850 := ⟨by decide +kernel, rfl⟩
theorem dL_law_850 : zd cL_law 850 (.iload_n 3) 1 851 := ⟨by decide +kernel, rfl⟩
theorem dL_law_851 : zd cL_law 851 (.iconst 2) 1 852 := ⟨by decide +kernel, rfl⟩
theorem dL_law_852 : zd cL_law 852 (.iadd) 1 853 := ⟨by decide +kernel, rfl⟩
theorem dL_law_853 : zd cL_law 853 (.iaload) 1 854 := ⟨by decide +kernel, rfl⟩
theorem dL_law_854 : zd cL_law 854 (.invokevirtual 94) 3 857 := ⟨by decide +kernel, rfl⟩
theorem dL_law_857 : zd cL_law 857 (.pop) 1 858 := ⟨by decide +kernel, rfl⟩
theorem dL_law_858 : zd cL_law 858 (.goto 184) 3 861 := ⟨by decide +kernel, rfl⟩
theorem dL_law_861 : zd cL_law 861 (.aload_n 1) 1 862 := ⟨by decide +kernel, rfl⟩
theorem dL_law_862 : zd cL_law 862 (.aload_n 0) 1 863 := ⟨by decide +kernel, rfl⟩
theorem dL_law_863 : zd cL_law 863 (.iload_n 3) 1 864 := ⟨by decide +kernel, rfl⟩
theorem dL_law_864 : zd cL_law 864 (.iconst 1) 1 865 := ⟨by decide +kernel, rfl⟩
theorem dL_law_865 : zd cL_law 865 (.iadd) 1 866 := ⟨by decide +kernel, rfl⟩
theorem dL_law_866 : zd cL_law 866 (.iaload) 1 867 := ⟨by decide +kernel, rfl⟩
theorem dL_law_867 : zd cL_law 867 (.invokevirtual 95) 3 870 := ⟨by decide +kernel, rfl⟩
theorem dL_law_870 : zd cL_law 870 (.pop) 1 871 := ⟨by decide +kernel, rfl⟩
theorem dL_law_871 : zd cL_law 871 (.aload_n 2) 1 872 := ⟨by decide +kernel, rfl⟩
theorem dL_law_872 : zd cL_law 872 (.aload_n 0) 1 873 := ⟨by decide +kernel, rfl⟩
theorem dL_law_873 : zd cL_law 873 (.iload_n 3) 1 874 := ⟨by decide +kernel, rfl⟩
theorem dL_law_874 : zd cL_law 874 (.iconst 1) 1 875 := ⟨by decide +kernel, rfl⟩
theorem dL_law_875 : zd cL_law 875 (.iadd) 1 876 := ⟨by decide +kernel, rfl⟩
theorem dL_law_876 : zd cL_law 876 (.iaload) 1 877 := ⟨by decide +kernel, rfl⟩
theorem dL_law_877 : zd cL_law 877 (.invokevirtual 98) 3 880 := ⟨by decide +kernel, rfl⟩
theorem dL_law_880 : zd cL_law 880 (.pop) 1 881 := ⟨by decide +kernel, rfl⟩
theorem dL_law_881 : zd cL_law 881 (.goto 161) 3 884 := ⟨by decide +kernel, rfl⟩
theorem dL_law_884 : zd cL_law 884 (.aload_n 1) 1 885 := ⟨by decide +kernel, rfl⟩
theorem dL_law_885 : zd cL_law 885 (.aload_n 0) 1 886 := ⟨by decide +kernel, rfl⟩
theorem dL_law_886 : zd cL_law 886 (.iload_n 3) 1 887 := ⟨by decide +kernel, rfl⟩
theorem dL_law_887 : zd cL_law 887 (.iconst 1) 1 888 := ⟨by decide +kernel, rfl⟩
theorem dL_law_888 : zd cL_law 888 (.iadd) 1 889 := ⟨by decide +kernel, rfl⟩
theorem dL_law_889 : zd cL_law 889 (.iaload) 1 890 := ⟨by decide +kernel, rfl⟩
theorem dL_law_890 : zd cL_law 890 (.aload_n 0) 1 891 := ⟨by decide +kernel, rfl⟩
theorem dL_law_891 : zd cL_law 891 (.iload_n 3) 1 892 := ⟨by decide +kernel, rfl⟩
theorem dL_law_892 : zd cL_law 892 (.iconst 2) 1 893 := ⟨by decide +kernel, rfl⟩
theorem dL_law_893 : zd cL_law 893 (.iadd) 1 894 := ⟨by decide +kernel, rfl⟩
theorem dL_law_894 : zd cL_law 894 (.iaload) 1 895 := ⟨by decide +kernel, rfl⟩
theorem dL_law_895 : zd cL_law 895 (.aload_n 0) 1 896 := ⟨by decide +kernel, rfl⟩
theorem dL_law_896 : zd cL_law 896 (.iload_n 3) 1 897 := ⟨by decide +kernel, rfl⟩
theorem dL_law_897 : zd cL_law 897 (.iconst 3) 1 898 := ⟨by decide +kernel, rfl⟩
theorem dL_law_898 : zd cL_law 898 (.iadd) 1 899 := ⟨by decide +kernel, rfl⟩
theorem dL_law_899 : zd cL_law 899 (.iaload) 1 900 := ⟨by decide +kernel, rfl⟩
theorem dL_law_900 : zd cL_law 900 (.invokevirtual 99) 3 903 := ⟨by decide +kernel, rfl⟩
theorem dL_law_903 : zd cL_law 903 (.pop) 1 904 := ⟨by decide +kernel, rfl⟩
theorem dL_law_904 : zd cL_law 904 (.aload_n 2) 1 905 := ⟨by decide +kernel, rfl⟩
theorem dL_law_905 : zd cL_law 905 (.aload_n 0) 1 906 := ⟨by decide +kernel, rfl⟩
theorem dL_law_906 : zd cL_law 906 (.iload_n 3) 1 907 := ⟨by decide +kernel, rfl⟩
theorem dL_law_907 : zd cL_law 907 (.iconst 1) 1 908 := ⟨by decide +kernel, rfl⟩
theorem dL_law_908 : zd cL_law 908 (.iadd) 1 909 := ⟨by decide +kernel, rfl⟩
theorem dL_law_909 : zd cL_law 909 (.iaload) 1 910 := ⟨by decide +kernel, rfl⟩
theorem dL_law_910 : zd cL_law 910 (.aload_n 0) 1 911 := ⟨by decide +kernel, rfl⟩
theorem dL_law_911 : zd cL_law 911 (.iload_n 3) 1 912 := ⟨by decide +kernel, rfl⟩
theorem dL_law_912 : zd cL_law 912 (.iconst 2) 1 913 := ⟨by decide +kernel, rfl⟩
theorem dL_law_913 : zd cL_law 913 (.iadd) 1 914 := ⟨by decide +kernel, rfl⟩
theorem dL_law_914 : zd cL_law 914 (.iaload) 1 915 := ⟨by decide +kernel, rfl⟩
theorem dL_law_915 : zd cL_law 915 (.aload_n 0) 1 916 := ⟨by decide +kernel, rfl⟩
theorem dL_law_916 : zd cL_law 916 (.iload_n 3) 1 917 := ⟨by decide +kernel, rfl⟩
theorem dL_law_917 : zd cL_law 917 (.iconst 3) 1 918 := ⟨by decide +kernel, rfl⟩
theorem dL_law_918 : zd cL_law 918 (.iadd) 1 919 := ⟨by decide +kernel, rfl⟩
theorem dL_law_919 : zd cL_law 919 (.iaload) 1 920 := ⟨by decide +kernel, rfl⟩
theorem dL_law_920 : zd cL_law 920 (.invokevirtual 102) 3 923 := ⟨by decide +kernel, rfl⟩
theorem dL_law_923 : zd cL_law 923 (.pop) 1 924 := ⟨by decide +kernel, rfl⟩
theorem dL_law_924 : zd cL_law 924 (.goto 118) 3 927 := ⟨by decide +kernel, rfl⟩
theorem dL_law_927 : zd cL_law 927 (.aload_n 1) 1 928 := ⟨by decide +kernel, rfl⟩
theorem dL_law_928 : zd cL_law 928 (.aload_n 0) 1 929 := ⟨by decide +kernel, rfl⟩
theorem dL_law_929 : zd cL_law 929 (.iload_n 3) 1 930 := ⟨by decide +kernel, rfl⟩
theorem dL_law_930 : zd cL_law 930 (.iconst 1) 1 931 := ⟨by decide +kernel, rfl⟩
theorem dL_law_931 : zd cL_law 931 (.iadd) 1 932 := ⟨by decide +kernel, rfl⟩
theorem dL_law_932 : zd cL_law 932 (.iaload) 1 933 := ⟨by decide +kernel, rfl⟩
theorem dL_law_933 : zd cL_law 933 (.invokevirtual 103) 3 936 := ⟨by decide +kernel, rfl⟩
theorem dL_law_936 : zd cL_law 936 (.pop) 1 937 := ⟨by decide +kernel, rfl⟩
theorem dL_law_937 : zd cL_law 937 (.aload_n 2) 1 938 := ⟨by decide +kernel, rfl⟩
theorem dL_law_938 : zd cL_law 938 (.aload_n 0) 1 939 := ⟨by decide +kernel, rfl⟩
theorem dL_law_939 : zd cL_law 939 (.iload_n 3) 1 940 := ⟨by decide +kernel, rfl⟩
theorem dL_law_940 : zd cL_law 940 (.iconst 1) 1 941 := ⟨by decide +kernel, rfl⟩
theorem dL_law_941 : zd cL_law 941 (.iadd) 1 942 := ⟨by decide +kernel, rfl⟩
theorem dL_law_942 : zd cL_law 942 (.iaload) 1 943 := ⟨by decide +kernel, rfl⟩
theorem dL_law_943 : zd cL_law 943 (.invokevirtual 106) 3 946 := ⟨by decide +kernel, rfl⟩
theorem dL_law_946 : zd cL_law 946 (.pop) 1 947 := ⟨by decide +kernel, rfl⟩
theorem dL_law_947 : zd cL_law 947 (.goto 95) 3 950 := ⟨by decide +kernel, rfl⟩
theorem dL_law_950 : zd cL_law 950 (.aload_n 1) 1 951 := ⟨by decide +kernel, rfl⟩
theorem dL_law_951 : zd cL_law 951 (.aload_n 0) 1 952 := ⟨by decide +kernel, rfl⟩
theorem dL_law_952 : zd cL_law 952 (.iload_n 3) 1 953 := ⟨by decide +kernel, rfl⟩
theorem dL_law_953 : zd cL_law 953 (.iconst 1) 1 954 := ⟨by decide +kernel, rfl⟩
theorem dL_law_954 : zd cL_law 954 (.iadd) 1 955 := ⟨by decide +kernel, rfl⟩
theorem dL_law_955 : zd cL_law 955 (.iaload) 1 956 := ⟨by decide +kernel, rfl⟩
theorem dL_law_956 : zd cL_law 956 (.aload_n 0) 1 957 := ⟨by decide +kernel, rfl⟩
theorem dL_law_957 : zd cL_law 957 (.iload_n 3) 1 958 := ⟨by decide +kernel, rfl⟩
theorem dL_law_958 : zd cL_law 958 (.iconst 2) 1 959 := ⟨by decide +kernel, rfl⟩
theorem dL_law_959 : zd cL_law 959 (.iadd) 1 960 := ⟨by decide +kernel, rfl⟩
theorem dL_law_960 : zd cL_law 960 (.iaload) 1 961 := ⟨by decide +kernel, rfl⟩
theorem dL_law_961 : zd cL_law 961 (.invokevirtual 107) 3 964 := ⟨by decide +kernel, rfl⟩
theorem dL_law_964 : zd cL_law 964 (.pop) 1 965 := ⟨by decide +kernel, rfl⟩
theorem dL_law_965 : zd cL_law 965 (.aload_n 2) 1 966 := ⟨by decide +kernel, rfl⟩
theorem dL_law_966 : zd cL_law 966 (.aload_n 0) 1 967 := ⟨by decide +kernel, rfl⟩
theorem dL_law_967 : zd cL_law 967 (.iload_n 3) 1 968 := ⟨by decide +kernel, rfl⟩
theorem dL_law_968 : zd cL_law 968 (.iconst 1) 1 969 := ⟨by decide +kernel, rfl⟩
theorem dL_law_969 : zd cL_law 969 (.iadd) 1 970 := ⟨by decide +kernel, rfl⟩
theorem dL_law_970 : zd cL_law 970 (.iaload) 1 971 := ⟨by decide +kernel, rfl⟩
theorem dL_law_971 : zd cL_law 971 (.aload_n 0) 1 972 := ⟨by decide +kernel, rfl⟩
theorem dL_law_972 : zd cL_law 972 (.iload_n 3) 1 973 := ⟨by decide +kernel, rfl⟩
theorem dL_law_973 : zd cL_law 973 (.iconst 2) 1 974 := ⟨by decide +kernel, rfl⟩
theorem dL_law_974 : zd cL_law 974 (.iadd) 1 975 := ⟨by decide +kernel, rfl⟩
theorem dL_law_975 : zd cL_law 975 (.iaload) 1 976 := ⟨by decide +kernel, rfl⟩
theorem dL_law_976 : zd cL_law 976 (.invokevirtual 110) 3 979 := ⟨by decide +kernel, rfl⟩
theorem dL_law_979 : zd cL_law 979 (.pop) 1 980 := ⟨by decide +kernel, rfl⟩
theorem dL_law_980 : zd cL_law 980 (.goto 62) 3 983 := ⟨by decide +kernel, rfl⟩
theorem dL_law_983 : zd cL_law 983 (.aload_n 1) 1 984 := ⟨by decide +kernel, rfl⟩
theorem dL_law_984 : zd cL_law 984 (.aload_n 0) 1 985 := ⟨by decide +kernel, rfl⟩
theorem dL_law_985 : zd cL_law 985 (.iload_n 3) 1 986 := ⟨by decide +kernel, rfl⟩
theorem dL_law_986 : zd cL_law 986 (.iconst 1) 1 987 := ⟨by decide +kernel, rfl⟩
theorem dL_law_987 : zd cL_law 987 (.iadd) 1 988 := ⟨by decide +kernel, rfl⟩
theorem dL_law_988 : zd cL_law 988 (.iaload) 1 989 := ⟨by decide +kernel, rfl⟩
theorem dL_law_989 : zd cL_law 989 (.invokevirtual 111) 3 992 := ⟨by decide +kernel, rfl⟩
theorem dL_law_992 : zd cL_law 992 (.pop) 1 993 := ⟨by decide +kernel, rfl⟩
theorem dL_law_993 : zd cL_law 993 (.aload_n 2) 1 994 := ⟨by decide +kernel, rfl⟩
theorem dL_law_994 : zd cL_law 994 (.aload_n 0) 1 995 := ⟨by decide +kernel, rfl⟩
theorem dL_law_995 : zd cL_law 995 (.iload_n 3) 1 996 := ⟨by decide +kernel, rfl⟩
theorem dL_law_996 : zd cL_law 996 (.iconst 1) 1 997 := ⟨by decide +kernel, rfl⟩
theorem dL_law_997 : zd cL_law 997 (.iadd) 1 998 := ⟨by decide +kernel, rfl⟩
theorem dL_law_998 : zd cL_law 998 (.iaload) 1 999 := ⟨by decide +kernel, rfl⟩
theorem dL_law_999 : zd cL_law 999 (.invokevirtual 114) 3 1002 := ⟨by decide +kernel, rfl⟩
theorem dL_law_1002 : zd cL_law 1002 (.pop) 1 1003 := ⟨by decide +kernel, rfl⟩
theorem dL_law_1003 : zd cL_law 1003 (.goto 39) 3 1006 := ⟨by decide +kernel, rfl⟩
theorem dL_law_1006 : zd cL_law 1006 (.aload_n 1) 1 1007 := ⟨by decide +kernel, rfl⟩
theorem dL_law_1007 : zd cL_law 1007 (.aload_n 0) 1 1008 := ⟨by decide +kernel, rfl⟩
theorem dL_law_1008 : zd cL_law 1008 (.iload_n 3) 1 1009 := ⟨by decide +kernel, rfl⟩
theorem dL_law_1009 : zd cL_law 1009 (.iconst 1) 1 1010 := ⟨by decide +kernel, rfl⟩
theorem dL_law_1010 : zd cL_law 1010 (.iadd) 1 1011 := ⟨by decide +kernel, rfl⟩
theorem dL_law_1011 : zd cL_law 1011 (.iaload) 1 1012 := ⟨by decide +kernel, rfl⟩
theorem dL_law_1012 : zd cL_law 1012 (.invokevirtual 115) 3 1015 := ⟨by decide +kernel, rfl⟩
theorem dL_law_1015 : zd cL_law 1015 (.pop) 1 1016 := ⟨by decide +kernel, rfl⟩
theorem dL_law_1016 : zd cL_law 1016 (.aload_n 2) 1 1017 := ⟨by decide +kernel, rfl⟩
theorem dL_law_1017 : zd cL_law 1017 (.aload_n 0) 1 1018 := ⟨by decide +kernel, rfl⟩
theorem dL_law_1018 : zd cL_law 1018 (.iload_n 3) 1 1019 := ⟨by decide +kernel, rfl⟩
theorem dL_law_1019 : zd cL_law 1019 (.iconst 1) 1 1020 := ⟨by decide +kernel, rfl⟩
theorem dL_law_1020 : zd cL_law 1020 (.iadd) 1 1021 := ⟨by decide +kernel, rfl⟩
theorem dL_law_1021 : zd cL_law 1021 (.iaload) 1 1022 := ⟨by decide +kernel, rfl⟩
theorem dL_law_1022 : zd cL_law 1022 (.invokevirtual 118) 3 1025 := ⟨by decide +kernel, rfl⟩
theorem dL_law_1025 : zd cL_law 1025 (.pop) 1 1026 := ⟨by decide +kernel, rfl⟩
theorem dL_law_1026 : zd cL_law 1026 (.goto 16) 3 1029 := ⟨by decide +kernel, rfl⟩
theorem dL_law_1029 : zd cL_law 1029 (.aload_n 1) 1 1030 := ⟨by decide +kernel, rfl⟩
theorem dL_law_1030 : zd cL_law 1030 (.invokevirtual 119) 3 1033 := ⟨by decide +kernel, rfl⟩
theorem dL_law_1033 : zd cL_law 1033 (.pop2) 1 1034 := ⟨by decide +kernel, rfl⟩
theorem dL_law_1034 : zd cL_law 1034 (.aload_n 2) 1 1035 := ⟨by decide +kernel, rfl⟩
theorem dL_law_1035 : zd cL_law 1035 (.invokevirtual 123) 3 1038 := ⟨by decide +kernel, rfl⟩
theorem dL_law_1038 : zd cL_law 1038 (.pop2) 1 1039 := ⟨by decide +kernel, rfl⟩
theorem dL_law_1039 : zd cL_law 1039 (.goto 3) 3 1042 := ⟨by decide +kernel, rfl⟩
theorem dL_law_1042 : zd cL_law 1042 (.iinc 3 5) 3 1045 := ⟨by decide +kernel, rfl⟩
theorem dL_law_1045 : zd cL_law 1045 (.goto (-1027)) 3 1048 := ⟨by decide +kernel, rfl⟩
theorem dL_law_1048 : zd cL_law 1048 (.iconst 1) 1 1049 := ⟨by decide +kernel, rfl⟩
theorem dL_law_1049 : zd cL_law 1049 (.ireturn) 1 1050 := ⟨by decide +kernel, rfl⟩
theorem zsci {i : Int32} {L : Nat} {k : Int} {v : Int32} (hv : v.toInt = k) (h0 : 0 ≤ i.toInt) (hk : 0 ≤ k) (hL : L ≤ 2560) (h : i.toInt + k < (L : Int)) : vp_in (i + v) L := vp_in_iff.mpr (by rw [zaddI (x := i) (y := v) (by omega) (by omega), hv]; omega)
theorem zL5 {L : Nat} (h : L ≤ 2560) : (Int32.ofNat L - 5).toInt = (L : Int) - 5 := by
  have e := znat (N := L) (by omega)
  rw [zsubI (x := Int32.ofNat L) (y := 5) (by rw [e, show Int32.toInt 5 = 5 from rfl]; omega) (by rw [e, show Int32.toInt 5 = 5 from rfl]; omega), e]; rfl
theorem zLay_le {τ : Nat → Option (Nat × Nat)} {ρ : Nat → Nat → Option Nat} {B c c2 : Nat} (h : zLay τ ρ B c2) (hc : c ≤ c2) : zLay τ ρ B c := ⟨h.1, h.2.1, fun j hj => h.2.2 j (by omega)⟩
set_option maxHeartbeats 8000000 in
set_option maxRecDepth 100000 in
theorem law_loop {E : zE} {G : zG} (X : zX E G cL_law 4 RL room_1) {b L B : Nat} {xs : Nat → Int32} (hSc : zScr E G b L xs) (hL0 : L ≤ 2560) (hE : ∀ (s : zS) (n k : Nat) (Lc : List (Nat × Value)), n ≤ 600000 → k ≤ 7302250 → zW E G 4 s n k 1049 Lc [.int 1]) : ∀ (m : Nat) (t : Nat) (i : Int32) (c : Nat) (τ : Nat → Option (Nat × Nat)) (ρ : Nat → Nat → Option Nat) (ι : Nat → Nat → Int32) (κ : Nat → Nat → Int64), 520 - t < m → i.toInt = 5 * (t : Int) → t ≤ 512 → zLay τ ρ B c → zJ B c ι → zRQ B c ι → zW E G 4 (B + 63 + 7 * c, τ, ρ, ι, κ) (63 + 7 * t) (804540 + 826 * t) 18 [(0, .ref b), (1, .ref B), (2, .ref (B + 38)), (3, .int i)] [] := by
  have L18 : ∀ (m : Nat) (t : Nat) (i : Int32) (c : Nat) (τ : Nat → Option (Nat × Nat)) (ρ : Nat → Nat → Option Nat) (ι : Nat → Nat → Int32) (κ : Nat → Nat → Int64), 520 - t < m → i.toInt = 5 * (t : Int) → t ≤ 512 → zLay τ ρ B c → zJ B c ι → zRQ B c ι → zW E G 4 (B + 63 + 7 * c, τ, ρ, ι, κ) (63 + 7 * t) (804540 + 826 * t) 18 [(0, .ref b), (1, .ref B), (2, .ref (B + 38)), (3, .int i)] [] := by
    intro m
    induction m with
    | zero => intro t i c τ ρ ι κ h; omega
    | succ m ih => ?_
    intro t i c τ ρ ι κ hm hi ht hL hJ hR
    have hin := zclN (i := i) (by omega)
    have J : t < 512 → ∀ (c : Nat) (τ : Nat → Option (Nat × Nat)) (ρ : Nat → Nat → Option Nat) (ι : Nat → Nat → Int32) (κ : Nat → Nat → Int64), zLay τ ρ B c → zJ B c ι → zRQ B c ι → zW E G 4 (B + 63 + 7 * c, τ, ρ, ι, κ) (63 + 7 * (t + 1)) (804540 + 826 * (t + 1)) 1042 [(0, .ref b), (1, .ref B), (2, .ref (B + 38)), (3, .int i)] [] := by
      intro ht2 c τ ρ ι κ hL hJ hR
      refine r_iinc X 5 (by decide) (by rfl) (by decide) dL_law_1042 ?_
      refine r_goto X 18 dL_law_1045 (by decide) ?_
      exact zW.loc4 (by rfl) (by rfl) (by rfl) (by rfl) (ih (t + 1) _ c τ ρ ι κ (by omega) (by rw [zadd_c (x := i) 5 5 rfl (by omega) (by omega)]; omega) (by omega) hL hJ hR)
    refine r_iload_n X (by rfl) dL_law_18 ?_
    refine r_aload_n X (by rfl) dL_law_19 ?_
    refine r_slen X hSc dL_law_20 ?_
    refine r_iconst X 5 (by decide) dL_law_21 ?_
    refine r_isub X dL_law_22 ?_
    have hL5 := zL5 hL0
    refine r_icmp_gt X 1048 dL_law_23 (by decide) (fun h23 => ?_) (fun h23 => ?_)
    · refine r_iconst X 1 (by decide) dL_law_1048 ?_
      exact hE _ _ _ _ (by omega) (by omega)
    · refine r_aload_n X (by rfl) dL_law_26 ?_
      refine r_iload_n X (by rfl) dL_law_27 ?_
      refine r_sld X hSc dL_law_28 (vp_in_iff.mpr ⟨by omega, by omega⟩) ?_
      refine r_bipush X 31 (by decide) dL_law_29 ?_
      refine r_iand X dL_law_31 ?_
      generalize hsw0 : xs i.toNatClampNeg &&& 31 = w
      have hsw : w.toInt = 0 + 0 ∨ w.toInt = 0 + 1 ∨ w.toInt = 0 + 2 ∨ w.toInt = 0 + 3 ∨ w.toInt = 0 + 4 ∨ w.toInt = 0 + 5 ∨ w.toInt = 0 + 6 ∨ w.toInt = 0 + 7 ∨ w.toInt = 0 + 8 ∨ w.toInt = 0 + 9 ∨ w.toInt = 0 + 10 ∨ w.toInt = 0 + 11 ∨ w.toInt = 0 + 12 ∨ w.toInt = 0 + 13 ∨ w.toInt = 0 + 14 ∨ w.toInt = 0 + 15 ∨ w.toInt = 0 + 16 ∨ w.toInt = 0 + 17 ∨ w.toInt = 0 + 18 ∨ w.toInt = 0 + 19 ∨ w.toInt = 0 + 20 ∨ w.toInt = 0 + 21 ∨ w.toInt = 0 + 22 ∨ w.toInt = 0 + 23 ∨ w.toInt = 0 + 24 ∨ w.toInt = 0 + 25 ∨ (w.toInt < 0 ∨ 25 < w.toInt) := by omega
      rcases hsw with hs | hs | hs | hs | hs | hs | hs | hs | hs | hs | hs | hs | hs | hs | hs | hs | hs | hs | hs | hs | hs | hs | hs | hs | hs | hs | hs
      · refine r_tableIn X (j0 := 0) 152 dL_law_32 hs rfl (by decide) (by decide) (by decide) ?_
        refine r_aload_n X (by rfl) dL_law_152 ?_
        refine r_aload_n X (by rfl) dL_law_153 ?_
        refine r_iload_n X (by rfl) dL_law_154 ?_
        refine r_iconst X 1 (by decide) dL_law_155 ?_
        refine r_iadd X dL_law_156 ?_
        refine r_sld X hSc dL_law_157 (zsci (k := 1) rfl (by omega) (by decide) hL0 (by omega)) ?_
        refine r_callV X dL_law_158 zLV_L_13 zCd_X11_rule (c_X11_rule _ G _ τ ρ _ _ hL hJ _) (by first | exact zt hL1 0 rfl | exact zt hL 0 rfl) ⟨by decide, rfl, rfl⟩ rfl rfl ⟨⟨rfl, rfl⟩, ⟨by decide, by decide⟩, ⟨by show (_ : Nat) ≤ 600000; omega, by show (_ : Nat) ≤ 7302250; omega⟩, Nat.le_of_ble_eq_true rfl⟩ ?_
        intro v1 s1 hp1
        obtain ⟨r1, ι1, rfl, rfl, hC1⟩ : ∃ r1 ι1, v1 = some (.int r1) ∧ s1 = (B + 63 + 7 * c, τ, ρ, ι1, κ) ∧ zD1_rule B ι ι1 (xs (i + 1).toNatClampNeg) r1 := by
          rcases hp1 with ⟨h0, h1, h2⟩ | ⟨h0, h1, h2⟩
          · exact ⟨_, _, h1, h2, Or.inl ⟨h0, rfl, rfl⟩⟩
          · exact ⟨_, _, h1, h2, Or.inr ⟨h0, rfl, rfl⟩⟩
        have hJ1 := zT1_rule hJ hC1
        refine r_pop X rfl dL_law_161 ?_
        refine r_aload_n X (by rfl) dL_law_162 ?_
        refine r_aload_n X (by rfl) dL_law_163 ?_
        refine r_iload_n X (by rfl) dL_law_164 ?_
        refine r_iconst X 1 (by decide) dL_law_165 ?_
        refine r_iadd X dL_law_166 ?_
        refine r_sld X hSc dL_law_167 (zsci (k := 1) rfl (by omega) (by decide) hL0 (by omega)) ?_
        refine r_callV X dL_law_168 zLV_L_17 zCd_X12_rule (c_X12_rule _ G _ τ ρ _ _ hL hJ1 _) (by first | exact zt hL1 38 rfl | exact zt hL 38 rfl) ⟨by decide, rfl, rfl⟩ rfl rfl ⟨⟨rfl, rfl⟩, ⟨by decide, by decide⟩, ⟨by show (_ : Nat) ≤ 600000; omega, by show (_ : Nat) ≤ 7302250; omega⟩, Nat.le_of_ble_eq_true rfl⟩ ?_
        intro v2 s2 hp2
        obtain ⟨r2, ι2, rfl, rfl, hC2⟩ : ∃ r2 ι2, v2 = some (.int r2) ∧ s2 = (B + 63 + 7 * c, τ, ρ, ι2, κ) ∧ zD2_rule B ι1 ι2 (xs (i + 1).toNatClampNeg) r2 := by
          rcases hp2 with ⟨h0, h1, h2⟩ | ⟨h0, h1, h2⟩
          · exact ⟨_, _, h1, h2, Or.inl ⟨h0, rfl, rfl⟩⟩
          · exact ⟨_, _, h1, h2, Or.inr ⟨h0, rfl, rfl⟩⟩
        obtain ⟨hJ2, hR3, he⟩ := zT_rule hJ hR.1.1.1 hJ1 hC1 hC2
        have hR2 : zRQ B c ι2 := ⟨zSP_rule hR.1 ⟨hR3, zP_rule hR.1.1.2 hC1 hC2⟩ hC1 hC2, zU_rule hR.2 hC1 hC2⟩
        refine r_pop X rfl dL_law_171 ?_
        refine r_goto X 1042 dL_law_172 (by decide) ?_
        first | exact zW.widen (by omega) (by omega) (zW.loc4 (by rfl) (by rfl) (by rfl) (by rfl) (J (by omega) _ _ _ _ _ hL2 hJ2 hR2)) | exact zW.widen (by omega) (by omega) (zW.loc4 (by rfl) (by rfl) (by rfl) (by rfl) (J (by omega) _ _ _ _ _ hL hJ2 hR2)) | exact zW.widen (by omega) (by omega) (zW.loc4 (by rfl) (by rfl) (by rfl) (by rfl) (J (by omega) _ _ _ _ _ hL hJ hR))
      · refine r_tableIn X (j0 := 1) 175 dL_law_32 hs rfl (by decide) (by decide) (by decide) ?_
        refine r_aload_n X (by rfl) dL_law_175 ?_
        refine r_aload_n X (by rfl) dL_law_176 ?_
        refine r_iload_n X (by rfl) dL_law_177 ?_
        refine r_iconst X 1 (by decide) dL_law_178 ?_
        refine r_iadd X dL_law_179 ?_
        refine r_sld X hSc dL_law_180 (zsci (k := 1) rfl (by omega) (by decide) hL0 (by omega)) ?_
        refine r_if_eq X 188 dL_law_181 (by decide) (fun h181 => ?_) (fun h181 => ?_)
        · refine r_iconst X 0 (by decide) dL_law_188 ?_
          refine r_aload_n X (by rfl) dL_law_189 ?_
          refine r_iload_n X (by rfl) dL_law_190 ?_
          refine r_iconst X 2 (by decide) dL_law_191 ?_
          refine r_iadd X dL_law_192 ?_
          refine r_sld X hSc dL_law_193 (zsci (k := 2) rfl (by omega) (by decide) hL0 (by omega)) ?_
          refine r_aload_n X (by rfl) dL_law_194 ?_
          refine r_iload_n X (by rfl) dL_law_195 ?_
          refine r_iconst X 3 (by decide) dL_law_196 ?_
          refine r_iadd X dL_law_197 ?_
          refine r_sld X hSc dL_law_198 (zsci (k := 3) rfl (by omega) (by decide) hL0 (by omega)) ?_
          refine r_aload_n X (by rfl) dL_law_199 ?_
          refine r_iload_n X (by rfl) dL_law_200 ?_
          refine r_iconst X 4 (by decide) dL_law_201 ?_
          refine r_iadd X dL_law_202 ?_
          refine r_sld X hSc dL_law_203 (zsci (k := 4) rfl (by omega) (by decide) hL0 (by omega)) ?_
          refine r_if_eq X 211 dL_law_204 (by decide) (fun h204 => ?_) (fun h204 => ?_)
          · refine r_iconst X 0 (by decide) dL_law_211 ?_
            have hx1 : zTf (xs (i + 1).toNatClampNeg) = 0 := if_pos h181
            have hw1 : zTf (xs (i + 4).toNatClampNeg) = 0 := if_pos h204
            refine r_callV X dL_law_212 zLV_L_18 zCd_X11_scale (c_X11_scale _ G _ τ ρ _ _ hL hJ rfl _ _ _ _ (by decide) (by decide)) (by first | exact zt hL1 0 rfl | exact zt hL 0 rfl) ⟨by decide, rfl, rfl⟩ rfl rfl ⟨⟨rfl, rfl⟩, ⟨by decide, by decide⟩, ⟨by show (_ : Nat) ≤ 600000; omega, by show (_ : Nat) ≤ 7302250; omega⟩, Nat.le_of_ble_eq_true rfl⟩ ?_
            intro v1 s1 hp1
            obtain ⟨r1, z1, τ1, ρ1, ι1, rfl, rfl, hL1, hcz, hC1⟩ : ∃ r1 z1 τ1 ρ1 ι1, v1 = some (.int r1) ∧ s1 = (z1, τ1, ρ1, ι1, κ) ∧ zLay τ1 ρ1 B c ∧ ((¬ (((1 ≤ (xs (i + 2).toNatClampNeg).toInt ∧ (xs (i + 2).toNatClampNeg).toInt ≤ 3) ∧ 10 ≤ (xs (i + 3).toNatClampNeg).toInt ∧ (xs (i + 3).toNatClampNeg).toInt ≤ 990) ∧ c < 8) ∧ z1 = B + 63 + 7 * c) ∨ ((((1 ≤ (xs (i + 2).toNatClampNeg).toInt ∧ (xs (i + 2).toNatClampNeg).toInt ≤ 3) ∧ 10 ≤ (xs (i + 3).toNatClampNeg).toInt ∧ (xs (i + 3).toNatClampNeg).toInt ≤ 990) ∧ c < 8) ∧ z1 = B + 63 + 7 * (c + 1) ∧ zLay τ1 ρ1 B (c + 1))) ∧ zD1_scale B ι ι1 c (zTf (xs (i + 1).toNatClampNeg)) (xs (i + 2).toNatClampNeg) (xs (i + 3).toNatClampNeg) (zTf (xs (i + 4).toNatClampNeg)) r1 := by
              rcases hp1 with ⟨h0, h1, h2⟩ | ⟨h0, hc8, h1, h2⟩ | ⟨h0, hc8, h1, h2⟩
              · exact ⟨_, _, _, _, _, h1, h2, hL, Or.inl ⟨fun q => h0 q.1, rfl⟩, Or.inl ⟨h0, rfl, rfl⟩⟩
              · exact ⟨_, _, _, _, _, h1, h2, hL, Or.inl ⟨fun q => by have := q.2; omega, rfl⟩, Or.inr (Or.inl ⟨h0, hc8, rfl, rfl⟩)⟩
              · have hl1 := zLay_new hL rfl
                exact ⟨_, _, _, _, _, h1, h2, zLay_le hl1 (Nat.le_succ c), Or.inr ⟨⟨h0, hc8⟩, by omega, hl1⟩, Or.inr (Or.inr ⟨h0, hc8, rfl, by rw [hx1, hw1]⟩)⟩
            have hm1 := zT1_scale hJ hR.1.1.1 hC1
            refine r_pop X rfl dL_law_215 ?_
            refine r_aload_n X (by rfl) dL_law_216 ?_
            refine r_aload_n X (by rfl) dL_law_217 ?_
            refine r_iload_n X (by rfl) dL_law_218 ?_
            refine r_iconst X 1 (by decide) dL_law_219 ?_
            refine r_iadd X dL_law_220 ?_
            refine r_sld X hSc dL_law_221 (zsci (k := 1) rfl (by omega) (by decide) hL0 (by omega)) ?_
            refine r_if_eq X 229 dL_law_222 (by decide) (fun h222 => ?_) (fun h222 => ?_)
            · refine r_iconst X 0 (by decide) dL_law_229 ?_
              refine r_aload_n X (by rfl) dL_law_230 ?_
              refine r_iload_n X (by rfl) dL_law_231 ?_
              refine r_iconst X 2 (by decide) dL_law_232 ?_
              refine r_iadd X dL_law_233 ?_
              refine r_sld X hSc dL_law_234 (zsci (k := 2) rfl (by omega) (by decide) hL0 (by omega)) ?_
              refine r_aload_n X (by rfl) dL_law_235 ?_
              refine r_iload_n X (by rfl) dL_law_236 ?_
              refine r_iconst X 3 (by decide) dL_law_237 ?_
              refine r_iadd X dL_law_238 ?_
              refine r_sld X hSc dL_law_239 (zsci (k := 3) rfl (by omega) (by decide) hL0 (by omega)) ?_
              refine r_aload_n X (by rfl) dL_law_240 ?_
              refine r_iload_n X (by rfl) dL_law_241 ?_
              refine r_iconst X 4 (by decide) dL_law_242 ?_
              refine r_iadd X dL_law_243 ?_
              refine r_sld X hSc dL_law_244 (zsci (k := 4) rfl (by omega) (by decide) hL0 (by omega)) ?_
              refine r_if_eq X 252 dL_law_245 (by decide) (fun h245 => ?_) (fun h245 => ?_)
              · refine r_iconst X 0 (by decide) dL_law_252 ?_
                have hx2 : zTf (xs (i + 1).toNatClampNeg) = 0 := if_pos h222
                have hw2 : zTf (xs (i + 4).toNatClampNeg) = 0 := if_pos h245
                refine r_callV X dL_law_253 zLV_L_22 zCd_X12_scale (c_X12_scale _ G _ _ _ _ _ hL1 hJ.1 hm1 _ _ _ _ (by decide) (by decide)) (by first | exact zt hL1 38 rfl | exact zt hL 38 rfl) ⟨by decide, rfl, rfl⟩ rfl rfl ⟨⟨rfl, rfl⟩, ⟨by decide, by decide⟩, ⟨by show (_ : Nat) ≤ 600000; omega, by show (_ : Nat) ≤ 7302250; omega⟩, Nat.le_of_ble_eq_true rfl⟩ ?_
                intro v2 s2 hp2
                obtain ⟨r2, ι2, rfl, rfl, hC2⟩ : ∃ r2 ι2, v2 = some (.int r2) ∧ s2 = (z1, τ1, ρ1, ι2, κ) ∧ zD2_scale B ι1 ι2 c (zTf (xs (i + 1).toNatClampNeg)) (xs (i + 2).toNatClampNeg) (xs (i + 3).toNatClampNeg) (zTf (xs (i + 4).toNatClampNeg)) r2 := by
                  rcases hp2 with ⟨h0, h1, h2⟩ | ⟨h0, hc8, h1, h2⟩ | ⟨h0, hc8, h1, h2⟩
                  · exact ⟨_, _, h1, h2, Or.inl ⟨h0, rfl, rfl⟩⟩
                  · exact ⟨_, _, h1, h2, Or.inr (Or.inl ⟨h0, hc8, rfl, rfl⟩)⟩
                  · exact ⟨_, _, h1, h2, Or.inr (Or.inr ⟨h0, hc8, rfl, by rw [hx2, hw2]⟩)⟩
                obtain ⟨hS2, he⟩ := zT_scale hJ hR.1.1.1 hC1 hC2
                have hPq := zP_scale hR.1.1.2 hC1 hC2
                obtain ⟨c2, hz2, hL2, hJ2, hR2⟩ : ∃ c2, z1 = B + 63 + 7 * c2 ∧ zLay τ1 ρ1 B c2 ∧ zJ B c2 ι2 ∧ zRQ B c2 ι2 := by
                  rcases hcz with ⟨g0, g1⟩ | ⟨g0, g1, g2⟩
                  · rcases hS2 with ⟨q0, q1, q2⟩ | ⟨q0, q1, q2⟩
                    · exact ⟨c, g1, hL1, q1, ⟨zSP_scale hJ hR.1 hC1 hC2 ⟨q2, hPq⟩ (Or.inl ⟨q0, rfl⟩), zU_scale hR.2 hC1 hC2 (Or.inl rfl)⟩⟩
                    · exact absurd q0 g0
                  · rcases hS2 with ⟨q0, q1, q2⟩ | ⟨q0, q1, q2⟩
                    · exact absurd g0 q0
                    · exact ⟨c + 1, g1, g2, q1, ⟨zSP_scale hJ hR.1 hC1 hC2 ⟨q2, hPq⟩ (Or.inr ⟨q0, rfl⟩), zU_scale hR.2 hC1 hC2 (Or.inr ⟨q0, rfl⟩)⟩⟩
                subst hz2
                refine r_pop X rfl dL_law_256 ?_
                refine r_goto X 1042 dL_law_257 (by decide) ?_
                first | exact zW.widen (by omega) (by omega) (zW.loc4 (by rfl) (by rfl) (by rfl) (by rfl) (J (by omega) _ _ _ _ _ hL2 hJ2 hR2)) | exact zW.widen (by omega) (by omega) (zW.loc4 (by rfl) (by rfl) (by rfl) (by rfl) (J (by omega) _ _ _ _ _ hL hJ2 hR2)) | exact zW.widen (by omega) (by omega) (zW.loc4 (by rfl) (by rfl) (by rfl) (by rfl) (J (by omega) _ _ _ _ _ hL hJ hR))
              · refine r_iconst X 1 (by decide) dL_law_248 ?_
                refine r_goto X 253 dL_law_249 (by decide) ?_
                have hx2 : zTf (xs (i + 1).toNatClampNeg) = 0 := if_pos h222
                have hw2 : zTf (xs (i + 4).toNatClampNeg) = 1 := if_neg h245
                refine r_callV X dL_law_253 zLV_L_22 zCd_X12_scale (c_X12_scale _ G _ _ _ _ _ hL1 hJ.1 hm1 _ _ _ _ (by decide) (by decide)) (by first | exact zt hL1 38 rfl | exact zt hL 38 rfl) ⟨by decide, rfl, rfl⟩ rfl rfl ⟨⟨rfl, rfl⟩, ⟨by decide, by decide⟩, ⟨by show (_ : Nat) ≤ 600000; omega, by show (_ : Nat) ≤ 7302250; omega⟩, Nat.le_of_ble_eq_true rfl⟩ ?_
                intro v2 s2 hp2
                obtain ⟨r2, ι2, rfl, rfl, hC2⟩ : ∃ r2 ι2, v2 = some (.int r2) ∧ s2 = (z1, τ1, ρ1, ι2, κ) ∧ zD2_scale B ι1 ι2 c (zTf (xs (i + 1).toNatClampNeg)) (xs (i + 2).toNatClampNeg) (xs (i + 3).toNatClampNeg) (zTf (xs (i + 4).toNatClampNeg)) r2 := by
                  rcases hp2 with ⟨h0, h1, h2⟩ | ⟨h0, hc8, h1, h2⟩ | ⟨h0, hc8, h1, h2⟩
                  · exact ⟨_, _, h1, h2, Or.inl ⟨h0, rfl, rfl⟩⟩
                  · exact ⟨_, _, h1, h2, Or.inr (Or.inl ⟨h0, hc8, rfl, rfl⟩)⟩
                  · exact ⟨_, _, h1, h2, Or.inr (Or.inr ⟨h0, hc8, rfl, by rw [hx2, hw2]⟩)⟩
                obtain ⟨hS2, he⟩ := zT_scale hJ hR.1.1.1 hC1 hC2
                have hPq := zP_scale hR.1.1.2 hC1 hC2
                obtain ⟨c2, hz2, hL2, hJ2, hR2⟩ : ∃ c2, z1 = B + 63 + 7 * c2 ∧ zLay τ1 ρ1 B c2 ∧ zJ B c2 ι2 ∧ zRQ B c2 ι2 := by
                  rcases hcz with ⟨g0, g1⟩ | ⟨g0, g1, g2⟩
                  · rcases hS2 with ⟨q0, q1, q2⟩ | ⟨q0, q1, q2⟩
                    · exact ⟨c, g1, hL1, q1, ⟨zSP_scale hJ hR.1 hC1 hC2 ⟨q2, hPq⟩ (Or.inl ⟨q0, rfl⟩), zU_scale hR.2 hC1 hC2 (Or.inl rfl)⟩⟩
                    · exact absurd q0 g0
                  · rcases hS2 with ⟨q0, q1, q2⟩ | ⟨q0, q1, q2⟩
                    · exact absurd g0 q0
                    · exact ⟨c + 1, g1, g2, q1, ⟨zSP_scale hJ hR.1 hC1 hC2 ⟨q2, hPq⟩ (Or.inr ⟨q0, rfl⟩), zU_scale hR.2 hC1 hC2 (Or.inr ⟨q0, rfl⟩)⟩⟩
                subst hz2
                refine r_pop X rfl dL_law_256 ?_
                refine r_goto X 1042 dL_law_257 (by decide) ?_
                first | exact zW.widen (by omega) (by omega) (zW.loc4 (by rfl) (by rfl) (by rfl) (by rfl) (J (by omega) _ _ _ _ _ hL2 hJ2 hR2)) | exact zW.widen (by omega) (by omega) (zW.loc4 (by rfl) (by rfl) (by rfl) (by rfl) (J (by omega) _ _ _ _ _ hL hJ2 hR2)) | exact zW.widen (by omega) (by omega) (zW.loc4 (by rfl) (by rfl) (by rfl) (by rfl) (J (by omega) _ _ _ _ _ hL hJ hR))
            · refine r_iconst X 1 (by decide) dL_law_225 ?_
              refine r_goto X 230 dL_law_226 (by decide) ?_
              refine r_aload_n X (by rfl) dL_law_230 ?_
              refine r_iload_n X (by rfl) dL_law_231 ?_
              refine r_iconst X 2 (by decide) dL_law_232 ?_
              refine r_iadd X dL_law_233 ?_
              refine r_sld X hSc dL_law_234 (zsci (k := 2) rfl (by omega) (by decide) hL0 (by omega)) ?_
              refine r_aload_n X (by rfl) dL_law_235 ?_
              refine r_iload_n X (by rfl) dL_law_236 ?_
              refine r_iconst X 3 (by decide) dL_law_237 ?_
              refine r_iadd X dL_law_238 ?_
              refine r_sld X hSc dL_law_239 (zsci (k := 3) rfl (by omega) (by decide) hL0 (by omega)) ?_
              refine r_aload_n X (by rfl) dL_law_240 ?_
              refine r_iload_n X (by rfl) dL_law_241 ?_
              refine r_iconst X 4 (by decide) dL_law_242 ?_
              refine r_iadd X dL_law_243 ?_
              refine r_sld X hSc dL_law_244 (zsci (k := 4) rfl (by omega) (by decide) hL0 (by omega)) ?_
              refine r_if_eq X 252 dL_law_245 (by decide) (fun h245 => ?_) (fun h245 => ?_)
              · refine r_iconst X 0 (by decide) dL_law_252 ?_
                have hx2 : zTf (xs (i + 1).toNatClampNeg) = 1 := if_neg h222
                have hw2 : zTf (xs (i + 4).toNatClampNeg) = 0 := if_pos h245
                refine r_callV X dL_law_253 zLV_L_22 zCd_X12_scale (c_X12_scale _ G _ _ _ _ _ hL1 hJ.1 hm1 _ _ _ _ (by decide) (by decide)) (by first | exact zt hL1 38 rfl | exact zt hL 38 rfl) ⟨by decide, rfl, rfl⟩ rfl rfl ⟨⟨rfl, rfl⟩, ⟨by decide, by decide⟩, ⟨by show (_ : Nat) ≤ 600000; omega, by show (_ : Nat) ≤ 7302250; omega⟩, Nat.le_of_ble_eq_true rfl⟩ ?_
                intro v2 s2 hp2
                obtain ⟨r2, ι2, rfl, rfl, hC2⟩ : ∃ r2 ι2, v2 = some (.int r2) ∧ s2 = (z1, τ1, ρ1, ι2, κ) ∧ zD2_scale B ι1 ι2 c (zTf (xs (i + 1).toNatClampNeg)) (xs (i + 2).toNatClampNeg) (xs (i + 3).toNatClampNeg) (zTf (xs (i + 4).toNatClampNeg)) r2 := by
                  rcases hp2 with ⟨h0, h1, h2⟩ | ⟨h0, hc8, h1, h2⟩ | ⟨h0, hc8, h1, h2⟩
                  · exact ⟨_, _, h1, h2, Or.inl ⟨h0, rfl, rfl⟩⟩
                  · exact ⟨_, _, h1, h2, Or.inr (Or.inl ⟨h0, hc8, rfl, rfl⟩)⟩
                  · exact ⟨_, _, h1, h2, Or.inr (Or.inr ⟨h0, hc8, rfl, by rw [hx2, hw2]⟩)⟩
                obtain ⟨hS2, he⟩ := zT_scale hJ hR.1.1.1 hC1 hC2
                have hPq := zP_scale hR.1.1.2 hC1 hC2
                obtain ⟨c2, hz2, hL2, hJ2, hR2⟩ : ∃ c2, z1 = B + 63 + 7 * c2 ∧ zLay τ1 ρ1 B c2 ∧ zJ B c2 ι2 ∧ zRQ B c2 ι2 := by
                  rcases hcz with ⟨g0, g1⟩ | ⟨g0, g1, g2⟩
                  · rcases hS2 with ⟨q0, q1, q2⟩ | ⟨q0, q1, q2⟩
                    · exact ⟨c, g1, hL1, q1, ⟨zSP_scale hJ hR.1 hC1 hC2 ⟨q2, hPq⟩ (Or.inl ⟨q0, rfl⟩), zU_scale hR.2 hC1 hC2 (Or.inl rfl)⟩⟩
                    · exact absurd q0 g0
                  · rcases hS2 with ⟨q0, q1, q2⟩ | ⟨q0, q1, q2⟩
                    · exact absurd g0 q0
                    · exact ⟨c + 1, g1, g2, q1, ⟨zSP_scale hJ hR.1 hC1 hC2 ⟨q2, hPq⟩ (Or.inr ⟨q0, rfl⟩), zU_scale hR.2 hC1 hC2 (Or.inr ⟨q0, rfl⟩)⟩⟩
                subst hz2
                refine r_pop X rfl dL_law_256 ?_
                refine r_goto X 1042 dL_law_257 (by decide) ?_
                first | exact zW.widen (by omega) (by omega) (zW.loc4 (by rfl) (by rfl) (by rfl) (by rfl) (J (by omega) _ _ _ _ _ hL2 hJ2 hR2)) | exact zW.widen (by omega) (by omega) (zW.loc4 (by rfl) (by rfl) (by rfl) (by rfl) (J (by omega) _ _ _ _ _ hL hJ2 hR2)) | exact zW.widen (by omega) (by omega) (zW.loc4 (by rfl) (by rfl) (by rfl) (by rfl) (J (by omega) _ _ _ _ _ hL hJ hR))
              · refine r_iconst X 1 (by decide) dL_law_248 ?_
                refine r_goto X 253 dL_law_249 (by decide) ?_
                have hx2 : zTf (xs (i + 1).toNatClampNeg) = 1 := if_neg h222
                have hw2 : zTf (xs (i + 4).toNatClampNeg) = 1 := if_neg h245
                refine r_callV X dL_law_253 zLV_L_22 zCd_X12_scale (c_X12_scale _ G _ _ _ _ _ hL1 hJ.1 hm1 _ _ _ _ (by decide) (by decide)) (by first | exact zt hL1 38 rfl | exact zt hL 38 rfl) ⟨by decide, rfl, rfl⟩ rfl rfl ⟨⟨rfl, rfl⟩, ⟨by decide, by decide⟩, ⟨by show (_ : Nat) ≤ 600000; omega, by show (_ : Nat) ≤ 7302250; omega⟩, Nat.le_of_ble_eq_true rfl⟩ ?_
                intro v2 s2 hp2
                obtain ⟨r2, ι2, rfl, rfl, hC2⟩ : ∃ r2 ι2, v2 = some (.int r2) ∧ s2 = (z1, τ1, ρ1, ι2, κ) ∧ zD2_scale B ι1 ι2 c (zTf (xs (i + 1).toNatClampNeg)) (xs (i + 2).toNatClampNeg) (xs (i + 3).toNatClampNeg) (zTf (xs (i + 4).toNatClampNeg)) r2 := by
                  rcases hp2 with ⟨h0, h1, h2⟩ | ⟨h0, hc8, h1, h2⟩ | ⟨h0, hc8, h1, h2⟩
                  · exact ⟨_, _, h1, h2, Or.inl ⟨h0, rfl, rfl⟩⟩
                  · exact ⟨_, _, h1, h2, Or.inr (Or.inl ⟨h0, hc8, rfl, rfl⟩)⟩
                  · exact ⟨_, _, h1, h2, Or.inr (Or.inr ⟨h0, hc8, rfl, by rw [hx2, hw2]⟩)⟩
                obtain ⟨hS2, he⟩ := zT_scale hJ hR.1.1.1 hC1 hC2
                have hPq := zP_scale hR.1.1.2 hC1 hC2
                obtain ⟨c2, hz2, hL2, hJ2, hR2⟩ : ∃ c2, z1 = B + 63 + 7 * c2 ∧ zLay τ1 ρ1 B c2 ∧ zJ B c2 ι2 ∧ zRQ B c2 ι2 := by
                  rcases hcz with ⟨g0, g1⟩ | ⟨g0, g1, g2⟩
                  · rcases hS2 with ⟨q0, q1, q2⟩ | ⟨q0, q1, q2⟩
                    · exact ⟨c, g1, hL1, q1, ⟨zSP_scale hJ hR.1 hC1 hC2 ⟨q2, hPq⟩ (Or.inl ⟨q0, rfl⟩), zU_scale hR.2 hC1 hC2 (Or.inl rfl)⟩⟩
                    · exact absurd q0 g0
                  · rcases hS2 with ⟨q0, q1, q2⟩ | ⟨q0, q1, q2⟩
                    · exact absurd g0 q0
                    · exact ⟨c + 1, g1, g2, q1, ⟨zSP_scale hJ hR.1 hC1 hC2 ⟨q2, hPq⟩ (Or.inr ⟨q0, rfl⟩), zU_scale hR.2 hC1 hC2 (Or.inr ⟨q0, rfl⟩)⟩⟩
                subst hz2
                refine r_pop X rfl dL_law_256 ?_
                refine r_goto X 1042 dL_law_257 (by decide) ?_
                first | exact zW.widen (by omega) (by omega) (zW.loc4 (by rfl) (by rfl) (by rfl) (by rfl) (J (by omega) _ _ _ _ _ hL2 hJ2 hR2)) | exact zW.widen (by omega) (by omega) (zW.loc4 (by rfl) (by rfl) (by rfl) (by rfl) (J (by omega) _ _ _ _ _ hL hJ2 hR2)) | exact zW.widen (by omega) (by omega) (zW.loc4 (by rfl) (by rfl) (by rfl) (by rfl) (J (by omega) _ _ _ _ _ hL hJ hR))
          · refine r_iconst X 1 (by decide) dL_law_207 ?_
            refine r_goto X 212 dL_law_208 (by decide) ?_
            have hx1 : zTf (xs (i + 1).toNatClampNeg) = 0 := if_pos h181
            have hw1 : zTf (xs (i + 4).toNatClampNeg) = 1 := if_neg h204
            refine r_callV X dL_law_212 zLV_L_18 zCd_X11_scale (c_X11_scale _ G _ τ ρ _ _ hL hJ rfl _ _ _ _ (by decide) (by decide)) (by first | exact zt hL1 0 rfl | exact zt hL 0 rfl) ⟨by decide, rfl, rfl⟩ rfl rfl ⟨⟨rfl, rfl⟩, ⟨by decide, by decide⟩, ⟨by show (_ : Nat) ≤ 600000; omega, by show (_ : Nat) ≤ 7302250; omega⟩, Nat.le_of_ble_eq_true rfl⟩ ?_
            intro v1 s1 hp1
            obtain ⟨r1, z1, τ1, ρ1, ι1, rfl, rfl, hL1, hcz, hC1⟩ : ∃ r1 z1 τ1 ρ1 ι1, v1 = some (.int r1) ∧ s1 = (z1, τ1, ρ1, ι1, κ) ∧ zLay τ1 ρ1 B c ∧ ((¬ (((1 ≤ (xs (i + 2).toNatClampNeg).toInt ∧ (xs (i + 2).toNatClampNeg).toInt ≤ 3) ∧ 10 ≤ (xs (i + 3).toNatClampNeg).toInt ∧ (xs (i + 3).toNatClampNeg).toInt ≤ 990) ∧ c < 8) ∧ z1 = B + 63 + 7 * c) ∨ ((((1 ≤ (xs (i + 2).toNatClampNeg).toInt ∧ (xs (i + 2).toNatClampNeg).toInt ≤ 3) ∧ 10 ≤ (xs (i + 3).toNatClampNeg).toInt ∧ (xs (i + 3).toNatClampNeg).toInt ≤ 990) ∧ c < 8) ∧ z1 = B + 63 + 7 * (c + 1) ∧ zLay τ1 ρ1 B (c + 1))) ∧ zD1_scale B ι ι1 c (zTf (xs (i + 1).toNatClampNeg)) (xs (i + 2).toNatClampNeg) (xs (i + 3).toNatClampNeg) (zTf (xs (i + 4).toNatClampNeg)) r1 := by
              rcases hp1 with ⟨h0, h1, h2⟩ | ⟨h0, hc8, h1, h2⟩ | ⟨h0, hc8, h1, h2⟩
              · exact ⟨_, _, _, _, _, h1, h2, hL, Or.inl ⟨fun q => h0 q.1, rfl⟩, Or.inl ⟨h0, rfl, rfl⟩⟩
              · exact ⟨_, _, _, _, _, h1, h2, hL, Or.inl ⟨fun q => by have := q.2; omega, rfl⟩, Or.inr (Or.inl ⟨h0, hc8, rfl, rfl⟩)⟩
              · have hl1 := zLay_new hL rfl
                exact ⟨_, _, _, _, _, h1, h2, zLay_le hl1 (Nat.le_succ c), Or.inr ⟨⟨h0, hc8⟩, by omega, hl1⟩, Or.inr (Or.inr ⟨h0, hc8, rfl, by rw [hx1, hw1]⟩)⟩
            have hm1 := zT1_scale hJ hR.1.1.1 hC1
            refine r_pop X rfl dL_law_215 ?_
            refine r_aload_n X (by rfl) dL_law_216 ?_
            refine r_aload_n X (by rfl) dL_law_217 ?_
            refine r_iload_n X (by rfl) dL_law_218 ?_
            refine r_iconst X 1 (by decide) dL_law_219 ?_
            refine r_iadd X dL_law_220 ?_
            refine r_sld X hSc dL_law_221 (zsci (k := 1) rfl (by omega) (by decide) hL0 (by omega)) ?_
            refine r_if_eq X 229 dL_law_222 (by decide) (fun h222 => ?_) (fun h222 => ?_)
            · refine r_iconst X 0 (by decide) dL_law_229 ?_
              refine r_aload_n X (by rfl) dL_law_230 ?_
              refine r_iload_n X (by rfl) dL_law_231 ?_
              refine r_iconst X 2 (by decide) dL_law_232 ?_
              refine r_iadd X dL_law_233 ?_
              refine r_sld X hSc dL_law_234 (zsci (k := 2) rfl (by omega) (by decide) hL0 (by omega)) ?_
              refine r_aload_n X (by rfl) dL_law_235 ?_
              refine r_iload_n X (by rfl) dL_law_236 ?_
              refine r_iconst X 3 (by decide) dL_law_237 ?_
              refine r_iadd X dL_law_238 ?_
              refine r_sld X hSc dL_law_239 (zsci (k := 3) rfl (by omega) (by decide) hL0 (by omega)) ?_
              refine r_aload_n X (by rfl) dL_law_240 ?_
              refine r_iload_n X (by rfl) dL_law_241 ?_
              refine r_iconst X 4 (by decide) dL_law_242 ?_
              refine r_iadd X dL_law_243 ?_
              refine r_sld X hSc dL_law_244 (zsci (k := 4) rfl (by omega) (by decide) hL0 (by omega)) ?_
              refine r_if_eq X 252 dL_law_245 (by decide) (fun h245 => ?_) (fun h245 => ?_)
              · refine r_iconst X 0 (by decide) dL_law_252 ?_
                have hx2 : zTf (xs (i + 1).toNatClampNeg) = 0 := if_pos h222
                have hw2 : zTf (xs (i + 4).toNatClampNeg) = 0 := if_pos h245
                refine r_callV X dL_law_253 zLV_L_22 zCd_X12_scale (c_X12_scale _ G _ _ _ _ _ hL1 hJ.1 hm1 _ _ _ _ (by decide) (by decide)) (by first | exact zt hL1 38 rfl | exact zt hL 38 rfl) ⟨by decide, rfl, rfl⟩ rfl rfl ⟨⟨rfl, rfl⟩, ⟨by decide, by decide⟩, ⟨by show (_ : Nat) ≤ 600000; omega, by show (_ : Nat) ≤ 7302250; omega⟩, Nat.le_of_ble_eq_true rfl⟩ ?_
                intro v2 s2 hp2
                obtain ⟨r2, ι2, rfl, rfl, hC2⟩ : ∃ r2 ι2, v2 = some (.int r2) ∧ s2 = (z1, τ1, ρ1, ι2, κ) ∧ zD2_scale B ι1 ι2 c (zTf (xs (i + 1).toNatClampNeg)) (xs (i + 2).toNatClampNeg) (xs (i + 3).toNatClampNeg) (zTf (xs (i + 4).toNatClampNeg)) r2 := by
                  rcases hp2 with ⟨h0, h1, h2⟩ | ⟨h0, hc8, h1, h2⟩ | ⟨h0, hc8, h1, h2⟩
                  · exact ⟨_, _, h1, h2, Or.inl ⟨h0, rfl, rfl⟩⟩
                  · exact ⟨_, _, h1, h2, Or.inr (Or.inl ⟨h0, hc8, rfl, rfl⟩)⟩
                  · exact ⟨_, _, h1, h2, Or.inr (Or.inr ⟨h0, hc8, rfl, by rw [hx2, hw2]⟩)⟩
                obtain ⟨hS2, he⟩ := zT_scale hJ hR.1.1.1 hC1 hC2
                have hPq := zP_scale hR.1.1.2 hC1 hC2
                obtain ⟨c2, hz2, hL2, hJ2, hR2⟩ : ∃ c2, z1 = B + 63 + 7 * c2 ∧ zLay τ1 ρ1 B c2 ∧ zJ B c2 ι2 ∧ zRQ B c2 ι2 := by
                  rcases hcz with ⟨g0, g1⟩ | ⟨g0, g1, g2⟩
                  · rcases hS2 with ⟨q0, q1, q2⟩ | ⟨q0, q1, q2⟩
                    · exact ⟨c, g1, hL1, q1, ⟨zSP_scale hJ hR.1 hC1 hC2 ⟨q2, hPq⟩ (Or.inl ⟨q0, rfl⟩), zU_scale hR.2 hC1 hC2 (Or.inl rfl)⟩⟩
                    · exact absurd q0 g0
                  · rcases hS2 with ⟨q0, q1, q2⟩ | ⟨q0, q1, q2⟩
                    · exact absurd g0 q0
                    · exact ⟨c + 1, g1, g2, q1, ⟨zSP_scale hJ hR.1 hC1 hC2 ⟨q2, hPq⟩ (Or.inr ⟨q0, rfl⟩), zU_scale hR.2 hC1 hC2 (Or.inr ⟨q0, rfl⟩)⟩⟩
                subst hz2
                refine r_pop X rfl dL_law_256 ?_
                refine r_goto X 1042 dL_law_257 (by decide) ?_
                first | exact zW.widen (by omega) (by omega) (zW.loc4 (by rfl) (by rfl) (by rfl) (by rfl) (J (by omega) _ _ _ _ _ hL2 hJ2 hR2)) | exact zW.widen (by omega) (by omega) (zW.loc4 (by rfl) (by rfl) (by rfl) (by rfl) (J (by omega) _ _ _ _ _ hL hJ2 hR2)) | exact zW.widen (by omega) (by omega) (zW.loc4 (by rfl) (by rfl) (by rfl) (by rfl) (J (by omega) _ _ _ _ _ hL hJ hR))
              · refine r_iconst X 1 (by decide) dL_law_248 ?_
                refine r_goto X 253 dL_law_249 (by decide) ?_
                have hx2 : zTf (xs (i + 1).toNatClampNeg) = 0 := if_pos h222
                have hw2 : zTf (xs (i + 4).toNatClampNeg) = 1 := if_neg h245
                refine r_callV X dL_law_253 zLV_L_22 zCd_X12_scale (c_X12_scale _ G _ _ _ _ _ hL1 hJ.1 hm1 _ _ _ _ (by decide) (by decide)) (by first | exact zt hL1 38 rfl | exact zt hL 38 rfl) ⟨by decide, rfl, rfl⟩ rfl rfl ⟨⟨rfl, rfl⟩, ⟨by decide, by decide⟩, ⟨by show (_ : Nat) ≤ 600000; omega, by show (_ : Nat) ≤ 7302250; omega⟩, Nat.le_of_ble_eq_true rfl⟩ ?_
                intro v2 s2 hp2
                obtain ⟨r2, ι2, rfl, rfl, hC2⟩ : ∃ r2 ι2, v2 = some (.int r2) ∧ s2 = (z1, τ1, ρ1, ι2, κ) ∧ zD2_scale B ι1 ι2 c (zTf (xs (i + 1).toNatClampNeg)) (xs (i + 2).toNatClampNeg) (xs (i + 3).toNatClampNeg) (zTf (xs (i + 4).toNatClampNeg)) r2 := by
                  rcases hp2 with ⟨h0, h1, h2⟩ | ⟨h0, hc8, h1, h2⟩ | ⟨h0, hc8, h1, h2⟩
                  · exact ⟨_, _, h1, h2, Or.inl ⟨h0, rfl, rfl⟩⟩
                  · exact ⟨_, _, h1, h2, Or.inr (Or.inl ⟨h0, hc8, rfl, rfl⟩)⟩
                  · exact ⟨_, _, h1, h2, Or.inr (Or.inr ⟨h0, hc8, rfl, by rw [hx2, hw2]⟩)⟩
                obtain ⟨hS2, he⟩ := zT_scale hJ hR.1.1.1 hC1 hC2
                have hPq := zP_scale hR.1.1.2 hC1 hC2
                obtain ⟨c2, hz2, hL2, hJ2, hR2⟩ : ∃ c2, z1 = B + 63 + 7 * c2 ∧ zLay τ1 ρ1 B c2 ∧ zJ B c2 ι2 ∧ zRQ B c2 ι2 := by
                  rcases hcz with ⟨g0, g1⟩ | ⟨g0, g1, g2⟩
                  · rcases hS2 with ⟨q0, q1, q2⟩ | ⟨q0, q1, q2⟩
                    · exact ⟨c, g1, hL1, q1, ⟨zSP_scale hJ hR.1 hC1 hC2 ⟨q2, hPq⟩ (Or.inl ⟨q0, rfl⟩), zU_scale hR.2 hC1 hC2 (Or.inl rfl)⟩⟩
                    · exact absurd q0 g0
                  · rcases hS2 with ⟨q0, q1, q2⟩ | ⟨q0, q1, q2⟩
                    · exact absurd g0 q0
                    · exact ⟨c + 1, g1, g2, q1, ⟨zSP_scale hJ hR.1 hC1 hC2 ⟨q2, hPq⟩ (Or.inr ⟨q0, rfl⟩), zU_scale hR.2 hC1 hC2 (Or.inr ⟨q0, rfl⟩)⟩⟩
                subst hz2
                refine r_pop X rfl dL_law_256 ?_
                refine r_goto X 1042 dL_law_257 (by decide) ?_
                first | exact zW.widen (by omega) (by omega) (zW.loc4 (by rfl) (by rfl) (by rfl) (by rfl) (J (by omega) _ _ _ _ _ hL2 hJ2 hR2)) | exact zW.widen (by omega) (by omega) (zW.loc4 (by rfl) (by rfl) (by rfl) (by rfl) (J (by omega) _ _ _ _ _ hL hJ2 hR2)) | exact zW.widen (by omega) (by omega) (zW.loc4 (by rfl) (by rfl) (by rfl) (by rfl) (J (by omega) _ _ _ _ _ hL hJ hR))
            · refine r_iconst X 1 (by decide) dL_law_225 ?_
              refine r_goto X 230 dL_law_226 (by decide) ?_
              refine r_aload_n X (by rfl) dL_law_230 ?_
              refine r_iload_n X (by rfl) dL_law_231 ?_
              refine r_iconst X 2 (by decide) dL_law_232 ?_
              refine r_iadd X dL_law_233 ?_
              refine r_sld X hSc dL_law_234 (zsci (k := 2) rfl (by omega) (by decide) hL0 (by omega)) ?_
              refine r_aload_n X (by rfl) dL_law_235 ?_
              refine r_iload_n X (by rfl) dL_law_236 ?_
              refine r_iconst X 3 (by decide) dL_law_237 ?_
              refine r_iadd X dL_law_238 ?_
              refine r_sld X hSc dL_law_239 (zsci (k := 3) rfl (by omega) (by decide) hL0 (by omega)) ?_
              refine r_aload_n X (by rfl) dL_law_240 ?_
              refine r_iload_n X (by rfl) dL_law_241 ?_
              refine r_iconst X 4 (by decide) dL_law_242 ?_
              refine r_iadd X dL_law_243 ?_
              refine r_sld X hSc dL_law_244 (zsci (k := 4) rfl (by omega) (by decide) hL0 (by omega)) ?_
              refine r_if_eq X 252 dL_law_245 (by decide) (fun h245 => ?_) (fun h245 => ?_)
              · refine r_iconst X 0 (by decide) dL_law_252 ?_
                have hx2 : zTf (xs (i + 1).toNatClampNeg) = 1 := if_neg h222
                have hw2 : zTf (xs (i + 4).toNatClampNeg) = 0 := if_pos h245
                refine r_callV X dL_law_253 zLV_L_22 zCd_X12_scale (c_X12_scale _ G _ _ _ _ _ hL1 hJ.1 hm1 _ _ _ _ (by decide) (by decide)) (by first | exact zt hL1 38 rfl | exact zt hL 38 rfl) ⟨by decide, rfl, rfl⟩ rfl rfl ⟨⟨rfl, rfl⟩, ⟨by decide, by decide⟩, ⟨by show (_ : Nat) ≤ 600000; omega, by show (_ : Nat) ≤ 7302250; omega⟩, Nat.le_of_ble_eq_true rfl⟩ ?_
                intro v2 s2 hp2
                obtain ⟨r2, ι2, rfl, rfl, hC2⟩ : ∃ r2 ι2, v2 = some (.int r2) ∧ s2 = (z1, τ1, ρ1, ι2, κ) ∧ zD2_scale B ι1 ι2 c (zTf (xs (i + 1).toNatClampNeg)) (xs (i + 2).toNatClampNeg) (xs (i + 3).toNatClampNeg) (zTf (xs (i + 4).toNatClampNeg)) r2 := by
                  rcases hp2 with ⟨h0, h1, h2⟩ | ⟨h0, hc8, h1, h2⟩ | ⟨h0, hc8, h1, h2⟩
                  · exact ⟨_, _, h1, h2, Or.inl ⟨h0, rfl, rfl⟩⟩
                  · exact ⟨_, _, h1, h2, Or.inr (Or.inl ⟨h0, hc8, rfl, rfl⟩)⟩
                  · exact ⟨_, _, h1, h2, Or.inr (Or.inr ⟨h0, hc8, rfl, by rw [hx2, hw2]⟩)⟩
                obtain ⟨hS2, he⟩ := zT_scale hJ hR.1.1.1 hC1 hC2
                have hPq := zP_scale hR.1.1.2 hC1 hC2
                obtain ⟨c2, hz2, hL2, hJ2, hR2⟩ : ∃ c2, z1 = B + 63 + 7 * c2 ∧ zLay τ1 ρ1 B c2 ∧ zJ B c2 ι2 ∧ zRQ B c2 ι2 := by
                  rcases hcz with ⟨g0, g1⟩ | ⟨g0, g1, g2⟩
                  · rcases hS2 with ⟨q0, q1, q2⟩ | ⟨q0, q1, q2⟩
                    · exact ⟨c, g1, hL1, q1, ⟨zSP_scale hJ hR.1 hC1 hC2 ⟨q2, hPq⟩ (Or.inl ⟨q0, rfl⟩), zU_scale hR.2 hC1 hC2 (Or.inl rfl)⟩⟩
                    · exact absurd q0 g0
                  · rcases hS2 with ⟨q0, q1, q2⟩ | ⟨q0, q1, q2⟩
                    · exact absurd g0 q0
                    · exact ⟨c + 1, g1, g2, q1, ⟨zSP_scale hJ hR.1 hC1 hC2 ⟨q2, hPq⟩ (Or.inr ⟨q0, rfl⟩), zU_scale hR.2 hC1 hC2 (Or.inr ⟨q0, rfl⟩)⟩⟩
                subst hz2
                refine r_pop X rfl dL_law_256 ?_
                refine r_goto X 1042 dL_law_257 (by decide) ?_
                first | exact zW.widen (by omega) (by omega) (zW.loc4 (by rfl) (by rfl) (by rfl) (by rfl) (J (by omega) _ _ _ _ _ hL2 hJ2 hR2)) | exact zW.widen (by omega) (by omega) (zW.loc4 (by rfl) (by rfl) (by rfl) (by rfl) (J (by omega) _ _ _ _ _ hL hJ2 hR2)) | exact zW.widen (by omega) (by omega) (zW.loc4 (by rfl) (by rfl) (by rfl) (by rfl) (J (by omega) _ _ _ _ _ hL hJ hR))
              · refine r_iconst X 1 (by decide) dL_law_248 ?_
                refine r_goto X 253 dL_law_249 (by decide) ?_
                have hx2 : zTf (xs (i + 1).toNatClampNeg) = 1 := if_neg h222
                have hw2 : zTf (xs (i + 4).toNatClampNeg) = 1 := if_neg h245
                refine r_callV X dL_law_253 zLV_L_22 zCd_X12_scale (c_X12_scale _ G _ _ _ _ _ hL1 hJ.1 hm1 _ _ _ _ (by decide) (by decide)) (by first | exact zt hL1 38 rfl | exact zt hL 38 rfl) ⟨by decide, rfl, rfl⟩ rfl rfl ⟨⟨rfl, rfl⟩, ⟨by decide, by decide⟩, ⟨by show (_ : Nat) ≤ 600000; omega, by show (_ : Nat) ≤ 7302250; omega⟩, Nat.le_of_ble_eq_true rfl⟩ ?_
                intro v2 s2 hp2
                obtain ⟨r2, ι2, rfl, rfl, hC2⟩ : ∃ r2 ι2, v2 = some (.int r2) ∧ s2 = (z1, τ1, ρ1, ι2, κ) ∧ zD2_scale B ι1 ι2 c (zTf (xs (i + 1).toNatClampNeg)) (xs (i + 2).toNatClampNeg) (xs (i + 3).toNatClampNeg) (zTf (xs (i + 4).toNatClampNeg)) r2 := by
                  rcases hp2 with ⟨h0, h1, h2⟩ | ⟨h0, hc8, h1, h2⟩ | ⟨h0, hc8, h1, h2⟩
                  · exact ⟨_, _, h1, h2, Or.inl ⟨h0, rfl, rfl⟩⟩
                  · exact ⟨_, _, h1, h2, Or.inr (Or.inl ⟨h0, hc8, rfl, rfl⟩)⟩
                  · exact ⟨_, _, h1, h2, Or.inr (Or.inr ⟨h0, hc8, rfl, by rw [hx2, hw2]⟩)⟩
                obtain ⟨hS2, he⟩ := zT_scale hJ hR.1.1.1 hC1 hC2
                have hPq := zP_scale hR.1.1.2 hC1 hC2
                obtain ⟨c2, hz2, hL2, hJ2, hR2⟩ : ∃ c2, z1 = B + 63 + 7 * c2 ∧ zLay τ1 ρ1 B c2 ∧ zJ B c2 ι2 ∧ zRQ B c2 ι2 := by
                  rcases hcz with ⟨g0, g1⟩ | ⟨g0, g1, g2⟩
                  · rcases hS2 with ⟨q0, q1, q2⟩ | ⟨q0, q1, q2⟩
                    · exact ⟨c, g1, hL1, q1, ⟨zSP_scale hJ hR.1 hC1 hC2 ⟨q2, hPq⟩ (Or.inl ⟨q0, rfl⟩), zU_scale hR.2 hC1 hC2 (Or.inl rfl)⟩⟩
                    · exact absurd q0 g0
                  · rcases hS2 with ⟨q0, q1, q2⟩ | ⟨q0, q1, q2⟩
                    · exact absurd g0 q0
                    · exact ⟨c + 1, g1, g2, q1, ⟨zSP_scale hJ hR.1 hC1 hC2 ⟨q2, hPq⟩ (Or.inr ⟨q0, rfl⟩), zU_scale hR.2 hC1 hC2 (Or.inr ⟨q0, rfl⟩)⟩⟩
                subst hz2
                refine r_pop X rfl dL_law_256 ?_
                refine r_goto X 1042 dL_law_257 (by decide) ?_
                first | exact zW.widen (by omega) (by omega) (zW.loc4 (by rfl) (by rfl) (by rfl) (by rfl) (J (by omega) _ _ _ _ _ hL2 hJ2 hR2)) | exact zW.widen (by omega) (by omega) (zW.loc4 (by rfl) (by rfl) (by rfl) (by rfl) (J (by omega) _ _ _ _ _ hL hJ2 hR2)) | exact zW.widen (by omega) (by omega) (zW.loc4 (by rfl) (by rfl) (by rfl) (by rfl) (J (by omega) _ _ _ _ _ hL hJ hR))
        · refine r_iconst X 1 (by decide) dL_law_184 ?_
          refine r_goto X 189 dL_law_185 (by decide) ?_
          refine r_aload_n X (by rfl) dL_law_189 ?_
          refine r_iload_n X (by rfl) dL_law_190 ?_
          refine r_iconst X 2 (by decide) dL_law_191 ?_
          refine r_iadd X dL_law_192 ?_
          refine r_sld X hSc dL_law_193 (zsci (k := 2) rfl (by omega) (by decide) hL0 (by omega)) ?_
          refine r_aload_n X (by rfl) dL_law_194 ?_
          refine r_iload_n X (by rfl) dL_law_195 ?_
          refine r_iconst X 3 (by decide) dL_law_196 ?_
          refine r_iadd X dL_law_197 ?_
          refine r_sld X hSc dL_law_198 (zsci (k := 3) rfl (by omega) (by decide) hL0 (by omega)) ?_
          refine r_aload_n X (by rfl) dL_law_199 ?_
          refine r_iload_n X (by rfl) dL_law_200 ?_
          refine r_iconst X 4 (by decide) dL_law_201 ?_
          refine r_iadd X dL_law_202 ?_
          refine r_sld X hSc dL_law_203 (zsci (k := 4) rfl (by omega) (by decide) hL0 (by omega)) ?_
          refine r_if_eq X 211 dL_law_204 (by decide) (fun h204 => ?_) (fun h204 => ?_)
          · refine r_iconst X 0 (by decide) dL_law_211 ?_
            have hx1 : zTf (xs (i + 1).toNatClampNeg) = 1 := if_neg h181
            have hw1 : zTf (xs (i + 4).toNatClampNeg) = 0 := if_pos h204
            refine r_callV X dL_law_212 zLV_L_18 zCd_X11_scale (c_X11_scale _ G _ τ ρ _ _ hL hJ rfl _ _ _ _ (by decide) (by decide)) (by first | exact zt hL1 0 rfl | exact zt hL 0 rfl) ⟨by decide, rfl, rfl⟩ rfl rfl ⟨⟨rfl, rfl⟩, ⟨by decide, by decide⟩, ⟨by show (_ : Nat) ≤ 600000; omega, by show (_ : Nat) ≤ 7302250; omega⟩, Nat.le_of_ble_eq_true rfl⟩ ?_
            intro v1 s1 hp1
            obtain ⟨r1, z1, τ1, ρ1, ι1, rfl, rfl, hL1, hcz, hC1⟩ : ∃ r1 z1 τ1 ρ1 ι1, v1 = some (.int r1) ∧ s1 = (z1, τ1, ρ1, ι1, κ) ∧ zLay τ1 ρ1 B c ∧ ((¬ (((1 ≤ (xs (i + 2).toNatClampNeg).toInt ∧ (xs (i + 2).toNatClampNeg).toInt ≤ 3) ∧ 10 ≤ (xs (i + 3).toNatClampNeg).toInt ∧ (xs (i + 3).toNatClampNeg).toInt ≤ 990) ∧ c < 8) ∧ z1 = B + 63 + 7 * c) ∨ ((((1 ≤ (xs (i + 2).toNatClampNeg).toInt ∧ (xs (i + 2).toNatClampNeg).toInt ≤ 3) ∧ 10 ≤ (xs (i + 3).toNatClampNeg).toInt ∧ (xs (i + 3).toNatClampNeg).toInt ≤ 990) ∧ c < 8) ∧ z1 = B + 63 + 7 * (c + 1) ∧ zLay τ1 ρ1 B (c + 1))) ∧ zD1_scale B ι ι1 c (zTf (xs (i + 1).toNatClampNeg)) (xs (i + 2).toNatClampNeg) (xs (i + 3).toNatClampNeg) (zTf (xs (i + 4).toNatClampNeg)) r1 := by
              rcases hp1 with ⟨h0, h1, h2⟩ | ⟨h0, hc8, h1, h2⟩ | ⟨h0, hc8, h1, h2⟩
              · exact ⟨_, _, _, _, _, h1, h2, hL, Or.inl ⟨fun q => h0 q.1, rfl⟩, Or.inl ⟨h0, rfl, rfl⟩⟩
              · exact ⟨_, _, _, _, _, h1, h2, hL, Or.inl ⟨fun q => by have := q.2; omega, rfl⟩, Or.inr (Or.inl ⟨h0, hc8, rfl, rfl⟩)⟩
              · have hl1 := zLay_new hL rfl
                exact ⟨_, _, _, _, _, h1, h2, zLay_le hl1 (Nat.le_succ c), Or.inr ⟨⟨h0, hc8⟩, by omega, hl1⟩, Or.inr (Or.inr ⟨h0, hc8, rfl, by rw [hx1, hw1]⟩)⟩
            have hm1 := zT1_scale hJ hR.1.1.1 hC1
            refine r_pop X rfl dL_law_215 ?_
            refine r_aload_n X (by rfl) dL_law_216 ?_
            refine r_aload_n X (by rfl) dL_law_217 ?_
            refine r_iload_n X (by rfl) dL_law_218 ?_
            refine r_iconst X 1 (by decide) dL_law_219 ?_
            refine r_iadd X dL_law_220 ?_
            refine r_sld X hSc dL_law_221 (zsci (k := 1) rfl (by omega) (by decide) hL0 (by omega)) ?_
            refine r_if_eq X 229 dL_law_222 (by decide) (fun h222 => ?_) (fun h222 => ?_)
            · refine r_iconst X 0 (by decide) dL_law_229 ?_
              refine r_aload_n X (by rfl) dL_law_230 ?_
              refine r_iload_n X (by rfl) dL_law_231 ?_
              refine r_iconst X 2 (by decide) dL_law_232 ?_
              refine r_iadd X dL_law_233 ?_
              refine r_sld X hSc dL_law_234 (zsci (k := 2) rfl (by omega) (by decide) hL0 (by omega)) ?_
              refine r_aload_n X (by rfl) dL_law_235 ?_
              refine r_iload_n X (by rfl) dL_law_236 ?_
              refine r_iconst X 3 (by decide) dL_law_237 ?_
              refine r_iadd X dL_law_238 ?_
              refine r_sld X hSc dL_law_239 (zsci (k := 3) rfl (by omega) (by decide) hL0 (by omega)) ?_
              refine r_aload_n X (by rfl) dL_law_240 ?_
              refine r_iload_n X (by rfl) dL_law_241 ?_
              refine r_iconst X 4 (by decide) dL_law_242 ?_
              refine r_iadd X dL_law_243 ?_
              refine r_sld X hSc dL_law_244 (zsci (k := 4) rfl (by omega) (by decide) hL0 (by omega)) ?_
              refine r_if_eq X 252 dL_law_245 (by decide) (fun h245 => ?_) (fun h245 => ?_)
              · refine r_iconst X 0 (by decide) dL_law_252 ?_
                have hx2 : zTf (xs (i + 1).toNatClampNeg) = 0 := if_pos h222
                have hw2 : zTf (xs (i + 4).toNatClampNeg) = 0 := if_pos h245
                refine r_callV X dL_law_253 zLV_L_22 zCd_X12_scale (c_X12_scale _ G _ _ _ _ _ hL1 hJ.1 hm1 _ _ _ _ (by decide) (by decide)) (by first | exact zt hL1 38 rfl | exact zt hL 38 rfl) ⟨by decide, rfl, rfl⟩ rfl rfl ⟨⟨rfl, rfl⟩, ⟨by decide, by decide⟩, ⟨by show (_ : Nat) ≤ 600000; omega, by show (_ : Nat) ≤ 7302250; omega⟩, Nat.le_of_ble_eq_true rfl⟩ ?_
                intro v2 s2 hp2
                obtain ⟨r2, ι2, rfl, rfl, hC2⟩ : ∃ r2 ι2, v2 = some (.int r2) ∧ s2 = (z1, τ1, ρ1, ι2, κ) ∧ zD2_scale B ι1 ι2 c (zTf (xs (i + 1).toNatClampNeg)) (xs (i + 2).toNatClampNeg) (xs (i + 3).toNatClampNeg) (zTf (xs (i + 4).toNatClampNeg)) r2 := by
                  rcases hp2 with ⟨h0, h1, h2⟩ | ⟨h0, hc8, h1, h2⟩ | ⟨h0, hc8, h1, h2⟩
                  · exact ⟨_, _, h1, h2, Or.inl ⟨h0, rfl, rfl⟩⟩
                  · exact ⟨_, _, h1, h2, Or.inr (Or.inl ⟨h0, hc8, rfl, rfl⟩)⟩
                  · exact ⟨_, _, h1, h2, Or.inr (Or.inr ⟨h0, hc8, rfl, by rw [hx2, hw2]⟩)⟩
                obtain ⟨hS2, he⟩ := zT_scale hJ hR.1.1.1 hC1 hC2
                have hPq := zP_scale hR.1.1.2 hC1 hC2
                obtain ⟨c2, hz2, hL2, hJ2, hR2⟩ : ∃ c2, z1 = B + 63 + 7 * c2 ∧ zLay τ1 ρ1 B c2 ∧ zJ B c2 ι2 ∧ zRQ B c2 ι2 := by
                  rcases hcz with ⟨g0, g1⟩ | ⟨g0, g1, g2⟩
                  · rcases hS2 with ⟨q0, q1, q2⟩ | ⟨q0, q1, q2⟩
                    · exact ⟨c, g1, hL1, q1, ⟨zSP_scale hJ hR.1 hC1 hC2 ⟨q2, hPq⟩ (Or.inl ⟨q0, rfl⟩), zU_scale hR.2 hC1 hC2 (Or.inl rfl)⟩⟩
                    · exact absurd q0 g0
                  · rcases hS2 with ⟨q0, q1, q2⟩ | ⟨q0, q1, q2⟩
                    · exact absurd g0 q0
                    · exact ⟨c + 1, g1, g2, q1, ⟨zSP_scale hJ hR.1 hC1 hC2 ⟨q2, hPq⟩ (Or.inr ⟨q0, rfl⟩), zU_scale hR.2 hC1 hC2 (Or.inr ⟨q0, rfl⟩)⟩⟩
                subst hz2
                refine r_pop X rfl dL_law_256 ?_
                refine r_goto X 1042 dL_law_257 (by decide) ?_
                first | exact zW.widen (by omega) (by omega) (zW.loc4 (by rfl) (by rfl) (by rfl) (by rfl) (J (by omega) _ _ _ _ _ hL2 hJ2 hR2)) | exact zW.widen (by omega) (by omega) (zW.loc4 (by rfl) (by rfl) (by rfl) (by rfl) (J (by omega) _ _ _ _ _ hL hJ2 hR2)) | exact zW.widen (by omega) (by omega) (zW.loc4 (by rfl) (by rfl) (by rfl) (by rfl) (J (by omega) _ _ _ _ _ hL hJ hR))
              · refine r_iconst X 1 (by decide) dL_law_248 ?_
                refine r_goto X 253 dL_law_249 (by decide) ?_
                have hx2 : zTf (xs (i + 1).toNatClampNeg) = 0 := if_pos h222
                have hw2 : zTf (xs (i + 4).toNatClampNeg) = 1 := if_neg h245
                refine r_callV X dL_law_253 zLV_L_22 zCd_X12_scale (c_X12_scale _ G _ _ _ _ _ hL1 hJ.1 hm1 _ _ _ _ (by decide) (by decide)) (by first | exact zt hL1 38 rfl | exact zt hL 38 rfl) ⟨by decide, rfl, rfl⟩ rfl rfl ⟨⟨rfl, rfl⟩, ⟨by decide, by decide⟩, ⟨by show (_ : Nat) ≤ 600000; omega, by show (_ : Nat) ≤ 7302250; omega⟩, Nat.le_of_ble_eq_true rfl⟩ ?_
                intro v2 s2 hp2
                obtain ⟨r2, ι2, rfl, rfl, hC2⟩ : ∃ r2 ι2, v2 = some (.int r2) ∧ s2 = (z1, τ1, ρ1, ι2, κ) ∧ zD2_scale B ι1 ι2 c (zTf (xs (i + 1).toNatClampNeg)) (xs (i + 2).toNatClampNeg) (xs (i + 3).toNatClampNeg) (zTf (xs (i + 4).toNatClampNeg)) r2 := by
                  rcases hp2 with ⟨h0, h1, h2⟩ | ⟨h0, hc8, h1, h2⟩ | ⟨h0, hc8, h1, h2⟩
                  · exact ⟨_, _, h1, h2, Or.inl ⟨h0, rfl, rfl⟩⟩
                  · exact ⟨_, _, h1, h2, Or.inr (Or.inl ⟨h0, hc8, rfl, rfl⟩)⟩
                  · exact ⟨_, _, h1, h2, Or.inr (Or.inr ⟨h0, hc8, rfl, by rw [hx2, hw2]⟩)⟩
                obtain ⟨hS2, he⟩ := zT_scale hJ hR.1.1.1 hC1 hC2
                have hPq := zP_scale hR.1.1.2 hC1 hC2
                obtain ⟨c2, hz2, hL2, hJ2, hR2⟩ : ∃ c2, z1 = B + 63 + 7 * c2 ∧ zLay τ1 ρ1 B c2 ∧ zJ B c2 ι2 ∧ zRQ B c2 ι2 := by
                  rcases hcz with ⟨g0, g1⟩ | ⟨g0, g1, g2⟩
                  · rcases hS2 with ⟨q0, q1, q2⟩ | ⟨q0, q1, q2⟩
                    · exact ⟨c, g1, hL1, q1, ⟨zSP_scale hJ hR.1 hC1 hC2 ⟨q2, hPq⟩ (Or.inl ⟨q0, rfl⟩), zU_scale hR.2 hC1 hC2 (Or.inl rfl)⟩⟩
                    · exact absurd q0 g0
                  · rcases hS2 with ⟨q0, q1, q2⟩ | ⟨q0, q1, q2⟩
                    · exact absurd g0 q0
                    · exact ⟨c + 1, g1, g2, q1, ⟨zSP_scale hJ hR.1 hC1 hC2 ⟨q2, hPq⟩ (Or.inr ⟨q0, rfl⟩), zU_scale hR.2 hC1 hC2 (Or.inr ⟨q0, rfl⟩)⟩⟩
                subst hz2
                refine r_pop X rfl dL_law_256 ?_
                refine r_goto X 1042 dL_law_257 (by decide) ?_
                first | exact zW.widen (by omega) (by omega) (zW.loc4 (by rfl) (by rfl) (by rfl) (by rfl) (J (by omega) _ _ _ _ _ hL2 hJ2 hR2)) | exact zW.widen (by omega) (by omega) (zW.loc4 (by rfl) (by rfl) (by rfl) (by rfl) (J (by omega) _ _ _ _ _ hL hJ2 hR2)) | exact zW.widen (by omega) (by omega) (zW.loc4 (by rfl) (by rfl) (by rfl) (by rfl) (J (by omega) _ _ _ _ _ hL hJ hR))
            · refine r_iconst X 1 (by decide) dL_law_225 ?_
              refine r_goto X 230 dL_law_226 (by decide) ?_
              refine r_aload_n X (by rfl) dL_law_230 ?_
              refine r_iload_n X (by rfl) dL_law_231 ?_
              refine r_iconst X 2 (by decide) dL_law_232 ?_
              refine r_iadd X dL_law_233 ?_
              refine r_sld X hSc dL_law_234 (zsci (k := 2) rfl (by omega) (by decide) hL0 (by omega)) ?_
              refine r_aload_n X (by rfl) dL_law_235 ?_
              refine r_iload_n X (by rfl) dL_law_236 ?_
              refine r_iconst X 3 (by decide) dL_law_237 ?_
              refine r_iadd X dL_law_238 ?_
              refine r_sld X hSc dL_law_239 (zsci (k := 3) rfl (by omega) (by decide) hL0 (by omega)) ?_
              refine r_aload_n X (by rfl) dL_law_240 ?_
              refine r_iload_n X (by rfl) dL_law_241 ?_
              refine r_iconst X 4 (by decide) dL_law_242 ?_
              refine r_iadd X dL_law_243 ?_
              refine r_sld X hSc dL_law_244 (zsci (k := 4) rfl (by omega) (by decide) hL0 (by omega)) ?_
              refine r_if_eq X 252 dL_law_245 (by decide) (fun h245 => ?_) (fun h245 => ?_)
              · refine r_iconst X 0 (by decide) dL_law_252 ?_
                have hx2 : zTf (xs (i + 1).toNatClampNeg) = 1 := if_neg h222
                have hw2 : zTf (xs (i + 4).toNatClampNeg) = 0 := if_pos h245
                refine r_callV X dL_law_253 zLV_L_22 zCd_X12_scale (c_X12_scale _ G _ _ _ _ _ hL1 hJ.1 hm1 _ _ _ _ (by decide) (by decide)) (by first | exact zt hL1 38 rfl | exact zt hL 38 rfl) ⟨by decide, rfl, rfl⟩ rfl rfl ⟨⟨rfl, rfl⟩, ⟨by decide, by decide⟩, ⟨by show (_ : Nat) ≤ 600000; omega, by show (_ : Nat) ≤ 7302250; omega⟩, Nat.le_of_ble_eq_true rfl⟩ ?_
                intro v2 s2 hp2
                obtain ⟨r2, ι2, rfl, rfl, hC2⟩ : ∃ r2 ι2, v2 = some (.int r2) ∧ s2 = (z1, τ1, ρ1, ι2, κ) ∧ zD2_scale B ι1 ι2 c (zTf (xs (i + 1).toNatClampNeg)) (xs (i + 2).toNatClampNeg) (xs (i + 3).toNatClampNeg) (zTf (xs (i + 4).toNatClampNeg)) r2 := by
                  rcases hp2 with ⟨h0, h1, h2⟩ | ⟨h0, hc8, h1, h2⟩ | ⟨h0, hc8, h1, h2⟩
                  · exact ⟨_, _, h1, h2, Or.inl ⟨h0, rfl, rfl⟩⟩
                  · exact ⟨_, _, h1, h2, Or.inr (Or.inl ⟨h0, hc8, rfl, rfl⟩)⟩
                  · exact ⟨_, _, h1, h2, Or.inr (Or.inr ⟨h0, hc8, rfl, by rw [hx2, hw2]⟩)⟩
                obtain ⟨hS2, he⟩ := zT_scale hJ hR.1.1.1 hC1 hC2
                have hPq := zP_scale hR.1.1.2 hC1 hC2
                obtain ⟨c2, hz2, hL2, hJ2, hR2⟩ : ∃ c2, z1 = B + 63 + 7 * c2 ∧ zLay τ1 ρ1 B c2 ∧ zJ B c2 ι2 ∧ zRQ B c2 ι2 := by
                  rcases hcz with ⟨g0, g1⟩ | ⟨g0, g1, g2⟩
                  · rcases hS2 with ⟨q0, q1, q2⟩ | ⟨q0, q1, q2⟩
                    · exact ⟨c, g1, hL1, q1, ⟨zSP_scale hJ hR.1 hC1 hC2 ⟨q2, hPq⟩ (Or.inl ⟨q0, rfl⟩), zU_scale hR.2 hC1 hC2 (Or.inl rfl)⟩⟩
                    · exact absurd q0 g0
                  · rcases hS2 with ⟨q0, q1, q2⟩ | ⟨q0, q1, q2⟩
                    · exact absurd g0 q0
                    · exact ⟨c + 1, g1, g2, q1, ⟨zSP_scale hJ hR.1 hC1 hC2 ⟨q2, hPq⟩ (Or.inr ⟨q0, rfl⟩), zU_scale hR.2 hC1 hC2 (Or.inr ⟨q0, rfl⟩)⟩⟩
                subst hz2
                refine r_pop X rfl dL_law_256 ?_
                refine r_goto X 1042 dL_law_257 (by decide) ?_
                first | exact zW.widen (by omega) (by omega) (zW.loc4 (by rfl) (by rfl) (by rfl) (by rfl) (J (by omega) _ _ _ _ _ hL2 hJ2 hR2)) | exact zW.widen (by omega) (by omega) (zW.loc4 (by rfl) (by rfl) (by rfl) (by rfl) (J (by omega) _ _ _ _ _ hL hJ2 hR2)) | exact zW.widen (by omega) (by omega) (zW.loc4 (by rfl) (by rfl) (by rfl) (by rfl) (J (by omega) _ _ _ _ _ hL hJ hR))
              · refine r_iconst X 1 (by decide) dL_law_248 ?_
                refine r_goto X 253 dL_law_249 (by decide) ?_
                have hx2 : zTf (xs (i + 1).toNatClampNeg) = 1 := if_neg h222
                have hw2 : zTf (xs (i + 4).toNatClampNeg) = 1 := if_neg h245
                refine r_callV X dL_law_253 zLV_L_22 zCd_X12_scale (c_X12_scale _ G _ _ _ _ _ hL1 hJ.1 hm1 _ _ _ _ (by decide) (by decide)) (by first | exact zt hL1 38 rfl | exact zt hL 38 rfl) ⟨by decide, rfl, rfl⟩ rfl rfl ⟨⟨rfl, rfl⟩, ⟨by decide, by decide⟩, ⟨by show (_ : Nat) ≤ 600000; omega, by show (_ : Nat) ≤ 7302250; omega⟩, Nat.le_of_ble_eq_true rfl⟩ ?_
                intro v2 s2 hp2
                obtain ⟨r2, ι2, rfl, rfl, hC2⟩ : ∃ r2 ι2, v2 = some (.int r2) ∧ s2 = (z1, τ1, ρ1, ι2, κ) ∧ zD2_scale B ι1 ι2 c (zTf (xs (i + 1).toNatClampNeg)) (xs (i + 2).toNatClampNeg) (xs (i + 3).toNatClampNeg) (zTf (xs (i + 4).toNatClampNeg)) r2 := by
                  rcases hp2 with ⟨h0, h1, h2⟩ | ⟨h0, hc8, h1, h2⟩ | ⟨h0, hc8, h1, h2⟩
                  · exact ⟨_, _, h1, h2, Or.inl ⟨h0, rfl, rfl⟩⟩
                  · exact ⟨_, _, h1, h2, Or.inr (Or.inl ⟨h0, hc8, rfl, rfl⟩)⟩
                  · exact ⟨_, _, h1, h2, Or.inr (Or.inr ⟨h0, hc8, rfl, by rw [hx2, hw2]⟩)⟩
                obtain ⟨hS2, he⟩ := zT_scale hJ hR.1.1.1 hC1 hC2
                have hPq := zP_scale hR.1.1.2 hC1 hC2
                obtain ⟨c2, hz2, hL2, hJ2, hR2⟩ : ∃ c2, z1 = B + 63 + 7 * c2 ∧ zLay τ1 ρ1 B c2 ∧ zJ B c2 ι2 ∧ zRQ B c2 ι2 := by
                  rcases hcz with ⟨g0, g1⟩ | ⟨g0, g1, g2⟩
                  · rcases hS2 with ⟨q0, q1, q2⟩ | ⟨q0, q1, q2⟩
                    · exact ⟨c, g1, hL1, q1, ⟨zSP_scale hJ hR.1 hC1 hC2 ⟨q2, hPq⟩ (Or.inl ⟨q0, rfl⟩), zU_scale hR.2 hC1 hC2 (Or.inl rfl)⟩⟩
                    · exact absurd q0 g0
                  · rcases hS2 with ⟨q0, q1, q2⟩ | ⟨q0, q1, q2⟩
                    · exact absurd g0 q0
                    · exact ⟨c + 1, g1, g2, q1, ⟨zSP_scale hJ hR.1 hC1 hC2 ⟨q2, hPq⟩ (Or.inr ⟨q0, rfl⟩), zU_scale hR.2 hC1 hC2 (Or.inr ⟨q0, rfl⟩)⟩⟩
                subst hz2
                refine r_pop X rfl dL_law_256 ?_
                refine r_goto X 1042 dL_law_257 (by decide) ?_
                first | exact zW.widen (by omega) (by omega) (zW.loc4 (by rfl) (by rfl) (by rfl) (by rfl) (J (by omega) _ _ _ _ _ hL2 hJ2 hR2)) | exact zW.widen (by omega) (by omega) (zW.loc4 (by rfl) (by rfl) (by rfl) (by rfl) (J (by omega) _ _ _ _ _ hL hJ2 hR2)) | exact zW.widen (by omega) (by omega) (zW.loc4 (by rfl) (by rfl) (by rfl) (by rfl) (J (by omega) _ _ _ _ _ hL hJ hR))
          · refine r_iconst X 1 (by decide) dL_law_207 ?_
            refine r_goto X 212 dL_law_208 (by decide) ?_
            have hx1 : zTf (xs (i + 1).toNatClampNeg) = 1 := if_neg h181
            have hw1 : zTf (xs (i + 4).toNatClampNeg) = 1 := if_neg h204
            refine r_callV X dL_law_212 zLV_L_18 zCd_X11_scale (c_X11_scale _ G _ τ ρ _ _ hL hJ rfl _ _ _ _ (by decide) (by decide)) (by first | exact zt hL1 0 rfl | exact zt hL 0 rfl) ⟨by decide, rfl, rfl⟩ rfl rfl ⟨⟨rfl, rfl⟩, ⟨by decide, by decide⟩, ⟨by show (_ : Nat) ≤ 600000; omega, by show (_ : Nat) ≤ 7302250; omega⟩, Nat.le_of_ble_eq_true rfl⟩ ?_
            intro v1 s1 hp1
            obtain ⟨r1, z1, τ1, ρ1, ι1, rfl, rfl, hL1, hcz, hC1⟩ : ∃ r1 z1 τ1 ρ1 ι1, v1 = some (.int r1) ∧ s1 = (z1, τ1, ρ1, ι1, κ) ∧ zLay τ1 ρ1 B c ∧ ((¬ (((1 ≤ (xs (i + 2).toNatClampNeg).toInt ∧ (xs (i + 2).toNatClampNeg).toInt ≤ 3) ∧ 10 ≤ (xs (i + 3).toNatClampNeg).toInt ∧ (xs (i + 3).toNatClampNeg).toInt ≤ 990) ∧ c < 8) ∧ z1 = B + 63 + 7 * c) ∨ ((((1 ≤ (xs (i + 2).toNatClampNeg).toInt ∧ (xs (i + 2).toNatClampNeg).toInt ≤ 3) ∧ 10 ≤ (xs (i + 3).toNatClampNeg).toInt ∧ (xs (i + 3).toNatClampNeg).toInt ≤ 990) ∧ c < 8) ∧ z1 = B + 63 + 7 * (c + 1) ∧ zLay τ1 ρ1 B (c + 1))) ∧ zD1_scale B ι ι1 c (zTf (xs (i + 1).toNatClampNeg)) (xs (i + 2).toNatClampNeg) (xs (i + 3).toNatClampNeg) (zTf (xs (i + 4).toNatClampNeg)) r1 := by
              rcases hp1 with ⟨h0, h1, h2⟩ | ⟨h0, hc8, h1, h2⟩ | ⟨h0, hc8, h1, h2⟩
              · exact ⟨_, _, _, _, _, h1, h2, hL, Or.inl ⟨fun q => h0 q.1, rfl⟩, Or.inl ⟨h0, rfl, rfl⟩⟩
              · exact ⟨_, _, _, _, _, h1, h2, hL, Or.inl ⟨fun q => by have := q.2; omega, rfl⟩, Or.inr (Or.inl ⟨h0, hc8, rfl, rfl⟩)⟩
              · have hl1 := zLay_new hL rfl
                exact ⟨_, _, _, _, _, h1, h2, zLay_le hl1 (Nat.le_succ c), Or.inr ⟨⟨h0, hc8⟩, by omega, hl1⟩, Or.inr (Or.inr ⟨h0, hc8, rfl, by rw [hx1, hw1]⟩)⟩
            have hm1 := zT1_scale hJ hR.1.1.1 hC1
            refine r_pop X rfl dL_law_215 ?_
            refine r_aload_n X (by rfl) dL_law_216 ?_
            refine r_aload_n X (by rfl) dL_law_217 ?_
            refine r_iload_n X (by rfl) dL_law_218 ?_
            refine r_iconst X 1 (by decide) dL_law_219 ?_
            refine r_iadd X dL_law_220 ?_
            refine r_sld X hSc dL_law_221 (zsci (k := 1) rfl (by omega) (by decide) hL0 (by omega)) ?_
            refine r_if_eq X 229 dL_law_222 (by decide) (fun h222 => ?_) (fun h222 => ?_)
            · refine r_iconst X 0 (by decide) dL_law_229 ?_
              refine r_aload_n X (by rfl) dL_law_230 ?_
              refine r_iload_n X (by rfl) dL_law_231 ?_
              refine r_iconst X 2 (by decide) dL_law_232 ?_
              refine r_iadd X dL_law_233 ?_
              refine r_sld X hSc dL_law_234 (zsci (k := 2) rfl (by omega) (by decide) hL0 (by omega)) ?_
              refine r_aload_n X (by rfl) dL_law_235 ?_
              refine r_iload_n X (by rfl) dL_law_236 ?_
              refine r_iconst X 3 (by decide) dL_law_237 ?_
              refine r_iadd X dL_law_238 ?_
              refine r_sld X hSc dL_law_239 (zsci (k := 3) rfl (by omega) (by decide) hL0 (by omega)) ?_
              refine r_aload_n X (by rfl) dL_law_240 ?_
              refine r_iload_n X (by rfl) dL_law_241 ?_
              refine r_iconst X 4 (by decide) dL_law_242 ?_
              refine r_iadd X dL_law_243 ?_
              refine r_sld X hSc dL_law_244 (zsci (k := 4) rfl (by omega) (by decide) hL0 (by omega)) ?_
              refine r_if_eq X 252 dL_law_245 (by decide) (fun h245 => ?_) (fun h245 => ?_)
              · refine r_iconst X 0 (by decide) dL_law_252 ?_
                have hx2 : zTf (xs (i + 1).toNatClampNeg) = 0 := if_pos h222
                have hw2 : zTf (xs (i + 4).toNatClampNeg) = 0 := if_pos h245
                refine r_callV X dL_law_253 zLV_L_22 zCd_X12_scale (c_X12_scale _ G _ _ _ _ _ hL1 hJ.1 hm1 _ _ _ _ (by decide) (by decide)) (by first | exact zt hL1 38 rfl | exact zt hL 38 rfl) ⟨by decide, rfl, rfl⟩ rfl rfl ⟨⟨rfl, rfl⟩, ⟨by decide, by decide⟩, ⟨by show (_ : Nat) ≤ 600000; omega, by show (_ : Nat) ≤ 7302250; omega⟩, Nat.le_of_ble_eq_true rfl⟩ ?_
                intro v2 s2 hp2
                obtain ⟨r2, ι2, rfl, rfl, hC2⟩ : ∃ r2 ι2, v2 = some (.int r2) ∧ s2 = (z1, τ1, ρ1, ι2, κ) ∧ zD2_scale B ι1 ι2 c (zTf (xs (i + 1).toNatClampNeg)) (xs (i + 2).toNatClampNeg) (xs (i + 3).toNatClampNeg) (zTf (xs (i + 4).toNatClampNeg)) r2 := by
                  rcases hp2 with ⟨h0, h1, h2⟩ | ⟨h0, hc8, h1, h2⟩ | ⟨h0, hc8, h1, h2⟩
                  · exact ⟨_, _, h1, h2, Or.inl ⟨h0, rfl, rfl⟩⟩
                  · exact ⟨_, _, h1, h2, Or.inr (Or.inl ⟨h0, hc8, rfl, rfl⟩)⟩
                  · exact ⟨_, _, h1, h2, Or.inr (Or.inr ⟨h0, hc8, rfl, by rw [hx2, hw2]⟩)⟩
                obtain ⟨hS2, he⟩ := zT_scale hJ hR.1.1.1 hC1 hC2
                have hPq := zP_scale hR.1.1.2 hC1 hC2
                obtain ⟨c2, hz2, hL2, hJ2, hR2⟩ : ∃ c2, z1 = B + 63 + 7 * c2 ∧ zLay τ1 ρ1 B c2 ∧ zJ B c2 ι2 ∧ zRQ B c2 ι2 := by
                  rcases hcz with ⟨g0, g1⟩ | ⟨g0, g1, g2⟩
                  · rcases hS2 with ⟨q0, q1, q2⟩ | ⟨q0, q1, q2⟩
                    · exact ⟨c, g1, hL1, q1, ⟨zSP_scale hJ hR.1 hC1 hC2 ⟨q2, hPq⟩ (Or.inl ⟨q0, rfl⟩), zU_scale hR.2 hC1 hC2 (Or.inl rfl)⟩⟩
                    · exact absurd q0 g0
                  · rcases hS2 with ⟨q0, q1, q2⟩ | ⟨q0, q1, q2⟩
                    · exact absurd g0 q0
                    · exact ⟨c + 1, g1, g2, q1, ⟨zSP_scale hJ hR.1 hC1 hC2 ⟨q2, hPq⟩ (Or.inr ⟨q0, rfl⟩), zU_scale hR.2 hC1 hC2 (Or.inr ⟨q0, rfl⟩)⟩⟩
                subst hz2
                refine r_pop X rfl dL_law_256 ?_
                refine r_goto X 1042 dL_law_257 (by decide) ?_
                first | exact zW.widen (by omega) (by omega) (zW.loc4 (by rfl) (by rfl) (by rfl) (by rfl) (J (by omega) _ _ _ _ _ hL2 hJ2 hR2)) | exact zW.widen (by omega) (by omega) (zW.loc4 (by rfl) (by rfl) (by rfl) (by rfl) (J (by omega) _ _ _ _ _ hL hJ2 hR2)) | exact zW.widen (by omega) (by omega) (zW.loc4 (by rfl) (by rfl) (by rfl) (by rfl) (J (by omega) _ _ _ _ _ hL hJ hR))
              · refine r_iconst X 1 (by decide) dL_law_248 ?_
                refine r_goto X 253 dL_law_249 (by decide) ?_
                have hx2 : zTf (xs (i + 1).toNatClampNeg) = 0 := if_pos h222
                have hw2 : zTf (xs (i + 4).toNatClampNeg) = 1 := if_neg h245
                refine r_callV X dL_law_253 zLV_L_22 zCd_X12_scale (c_X12_scale _ G _ _ _ _ _ hL1 hJ.1 hm1 _ _ _ _ (by decide) (by decide)) (by first | exact zt hL1 38 rfl | exact zt hL 38 rfl) ⟨by decide, rfl, rfl⟩ rfl rfl ⟨⟨rfl, rfl⟩, ⟨by decide, by decide⟩, ⟨by show (_ : Nat) ≤ 600000; omega, by show (_ : Nat) ≤ 7302250; omega⟩, Nat.le_of_ble_eq_true rfl⟩ ?_
                intro v2 s2 hp2
                obtain ⟨r2, ι2, rfl, rfl, hC2⟩ : ∃ r2 ι2, v2 = some (.int r2) ∧ s2 = (z1, τ1, ρ1, ι2, κ) ∧ zD2_scale B ι1 ι2 c (zTf (xs (i + 1).toNatClampNeg)) (xs (i + 2).toNatClampNeg) (xs (i + 3).toNatClampNeg) (zTf (xs (i + 4).toNatClampNeg)) r2 := by
                  rcases hp2 with ⟨h0, h1, h2⟩ | ⟨h0, hc8, h1, h2⟩ | ⟨h0, hc8, h1, h2⟩
                  · exact ⟨_, _, h1, h2, Or.inl ⟨h0, rfl, rfl⟩⟩
                  · exact ⟨_, _, h1, h2, Or.inr (Or.inl ⟨h0, hc8, rfl, rfl⟩)⟩
                  · exact ⟨_, _, h1, h2, Or.inr (Or.inr ⟨h0, hc8, rfl, by rw [hx2, hw2]⟩)⟩
                obtain ⟨hS2, he⟩ := zT_scale hJ hR.1.1.1 hC1 hC2
                have hPq := zP_scale hR.1.1.2 hC1 hC2
                obtain ⟨c2, hz2, hL2, hJ2, hR2⟩ : ∃ c2, z1 = B + 63 + 7 * c2 ∧ zLay τ1 ρ1 B c2 ∧ zJ B c2 ι2 ∧ zRQ B c2 ι2 := by
                  rcases hcz with ⟨g0, g1⟩ | ⟨g0, g1, g2⟩
                  · rcases hS2 with ⟨q0, q1, q2⟩ | ⟨q0, q1, q2⟩
                    · exact ⟨c, g1, hL1, q1, ⟨zSP_scale hJ hR.1 hC1 hC2 ⟨q2, hPq⟩ (Or.inl ⟨q0, rfl⟩), zU_scale hR.2 hC1 hC2 (Or.inl rfl)⟩⟩
                    · exact absurd q0 g0
                  · rcases hS2 with ⟨q0, q1, q2⟩ | ⟨q0, q1, q2⟩
                    · exact absurd g0 q0
                    · exact ⟨c + 1, g1, g2, q1, ⟨zSP_scale hJ hR.1 hC1 hC2 ⟨q2, hPq⟩ (Or.inr ⟨q0, rfl⟩), zU_scale hR.2 hC1 hC2 (Or.inr ⟨q0, rfl⟩)⟩⟩
                subst hz2
                refine r_pop X rfl dL_law_256 ?_
                refine r_goto X 1042 dL_law_257 (by decide) ?_
                first | exact zW.widen (by omega) (by omega) (zW.loc4 (by rfl) (by rfl) (by rfl) (by rfl) (J (by omega) _ _ _ _ _ hL2 hJ2 hR2)) | exact zW.widen (by omega) (by omega) (zW.loc4 (by rfl) (by rfl) (by rfl) (by rfl) (J (by omega) _ _ _ _ _ hL hJ2 hR2)) | exact zW.widen (by omega) (by omega) (zW.loc4 (by rfl) (by rfl) (by rfl) (by rfl) (J (by omega) _ _ _ _ _ hL hJ hR))
            · refine r_iconst X 1 (by decide) dL_law_225 ?_
              refine r_goto X 230 dL_law_226 (by decide) ?_
              refine r_aload_n X (by rfl) dL_law_230 ?_
              refine r_iload_n X (by rfl) dL_law_231 ?_
              refine r_iconst X 2 (by decide) dL_law_232 ?_
              refine r_iadd X dL_law_233 ?_
              refine r_sld X hSc dL_law_234 (zsci (k := 2) rfl (by omega) (by decide) hL0 (by omega)) ?_
              refine r_aload_n X (by rfl) dL_law_235 ?_
              refine r_iload_n X (by rfl) dL_law_236 ?_
              refine r_iconst X 3 (by decide) dL_law_237 ?_
              refine r_iadd X dL_law_238 ?_
              refine r_sld X hSc dL_law_239 (zsci (k := 3) rfl (by omega) (by decide) hL0 (by omega)) ?_
              refine r_aload_n X (by rfl) dL_law_240 ?_
              refine r_iload_n X (by rfl) dL_law_241 ?_
              refine r_iconst X 4 (by decide) dL_law_242 ?_
              refine r_iadd X dL_law_243 ?_
              refine r_sld X hSc dL_law_244 (zsci (k := 4) rfl (by omega) (by decide) hL0 (by omega)) ?_
              refine r_if_eq X 252 dL_law_245 (by decide) (fun h245 => ?_) (fun h245 => ?_)
              · refine r_iconst X 0 (by decide) dL_law_252 ?_
                have hx2 : zTf (xs (i + 1).toNatClampNeg) = 1 := if_neg h222
                have hw2 : zTf (xs (i + 4).toNatClampNeg) = 0 := if_pos h245
                refine r_callV X dL_law_253 zLV_L_22 zCd_X12_scale (c_X12_scale _ G _ _ _ _ _ hL1 hJ.1 hm1 _ _ _ _ (by decide) (by decide)) (by first | exact zt hL1 38 rfl | exact zt hL 38 rfl) ⟨by decide, rfl, rfl⟩ rfl rfl ⟨⟨rfl, rfl⟩, ⟨by decide, by decide⟩, ⟨by show (_ : Nat) ≤ 600000; omega, by show (_ : Nat) ≤ 7302250; omega⟩, Nat.le_of_ble_eq_true rfl⟩ ?_
                intro v2 s2 hp2
                obtain ⟨r2, ι2, rfl, rfl, hC2⟩ : ∃ r2 ι2, v2 = some (.int r2) ∧ s2 = (z1, τ1, ρ1, ι2, κ) ∧ zD2_scale B ι1 ι2 c (zTf (xs (i + 1).toNatClampNeg)) (xs (i + 2).toNatClampNeg) (xs (i + 3).toNatClampNeg) (zTf (xs (i + 4).toNatClampNeg)) r2 := by
                  rcases hp2 with ⟨h0, h1, h2⟩ | ⟨h0, hc8, h1, h2⟩ | ⟨h0, hc8, h1, h2⟩
                  · exact ⟨_, _, h1, h2, Or.inl ⟨h0, rfl, rfl⟩⟩
                  · exact ⟨_, _, h1, h2, Or.inr (Or.inl ⟨h0, hc8, rfl, rfl⟩)⟩
                  · exact ⟨_, _, h1, h2, Or.inr (Or.inr ⟨h0, hc8, rfl, by rw [hx2, hw2]⟩)⟩
                obtain ⟨hS2, he⟩ := zT_scale hJ hR.1.1.1 hC1 hC2
                have hPq := zP_scale hR.1.1.2 hC1 hC2
                obtain ⟨c2, hz2, hL2, hJ2, hR2⟩ : ∃ c2, z1 = B + 63 + 7 * c2 ∧ zLay τ1 ρ1 B c2 ∧ zJ B c2 ι2 ∧ zRQ B c2 ι2 := by
                  rcases hcz with ⟨g0, g1⟩ | ⟨g0, g1, g2⟩
                  · rcases hS2 with ⟨q0, q1, q2⟩ | ⟨q0, q1, q2⟩
                    · exact ⟨c, g1, hL1, q1, ⟨zSP_scale hJ hR.1 hC1 hC2 ⟨q2, hPq⟩ (Or.inl ⟨q0, rfl⟩), zU_scale hR.2 hC1 hC2 (Or.inl rfl)⟩⟩
                    · exact absurd q0 g0
                  · rcases hS2 with ⟨q0, q1, q2⟩ | ⟨q0, q1, q2⟩
                    · exact absurd g0 q0
                    · exact ⟨c + 1, g1, g2, q1, ⟨zSP_scale hJ hR.1 hC1 hC2 ⟨q2, hPq⟩ (Or.inr ⟨q0, rfl⟩), zU_scale hR.2 hC1 hC2 (Or.inr ⟨q0, rfl⟩)⟩⟩
                subst hz2
                refine r_pop X rfl dL_law_256 ?_
                refine r_goto X 1042 dL_law_257 (by decide) ?_
                first | exact zW.widen (by omega) (by omega) (zW.loc4 (by rfl) (by rfl) (by rfl) (by rfl) (J (by omega) _ _ _ _ _ hL2 hJ2 hR2)) | exact zW.widen (by omega) (by omega) (zW.loc4 (by rfl) (by rfl) (by rfl) (by rfl) (J (by omega) _ _ _ _ _ hL hJ2 hR2)) | exact zW.widen (by omega) (by omega) (zW.loc4 (by rfl) (by rfl) (by rfl) (by rfl) (J (by omega) _ _ _ _ _ hL hJ hR))
              · refine r_iconst X 1 (by decide) dL_law_248 ?_
                refine r_goto X 253 dL_law_249 (by decide) ?_
                have hx2 : zTf (xs (i + 1).toNatClampNeg) = 1 := if_neg h222
                have hw2 : zTf (xs (i + 4).toNatClampNeg) = 1 := if_neg h245
                refine r_callV X dL_law_253 zLV_L_22 zCd_X12_scale (c_X12_scale _ G _ _ _ _ _ hL1 hJ.1 hm1 _ _ _ _ (by decide) (by decide)) (by first | exact zt hL1 38 rfl | exact zt hL 38 rfl) ⟨by decide, rfl, rfl⟩ rfl rfl ⟨⟨rfl, rfl⟩, ⟨by decide, by decide⟩, ⟨by show (_ : Nat) ≤ 600000; omega, by show (_ : Nat) ≤ 7302250; omega⟩, Nat.le_of_ble_eq_true rfl⟩ ?_
                intro v2 s2 hp2
                obtain ⟨r2, ι2, rfl, rfl, hC2⟩ : ∃ r2 ι2, v2 = some (.int r2) ∧ s2 = (z1, τ1, ρ1, ι2, κ) ∧ zD2_scale B ι1 ι2 c (zTf (xs (i + 1).toNatClampNeg)) (xs (i + 2).toNatClampNeg) (xs (i + 3).toNatClampNeg) (zTf (xs (i + 4).toNatClampNeg)) r2 := by
                  rcases hp2 with ⟨h0, h1, h2⟩ | ⟨h0, hc8, h1, h2⟩ | ⟨h0, hc8, h1, h2⟩
                  · exact ⟨_, _, h1, h2, Or.inl ⟨h0, rfl, rfl⟩⟩
                  · exact ⟨_, _, h1, h2, Or.inr (Or.inl ⟨h0, hc8, rfl, rfl⟩)⟩
                  · exact ⟨_, _, h1, h2, Or.inr (Or.inr ⟨h0, hc8, rfl, by rw [hx2, hw2]⟩)⟩
                obtain ⟨hS2, he⟩ := zT_scale hJ hR.1.1.1 hC1 hC2
                have hPq := zP_scale hR.1.1.2 hC1 hC2
                obtain ⟨c2, hz2, hL2, hJ2, hR2⟩ : ∃ c2, z1 = B + 63 + 7 * c2 ∧ zLay τ1 ρ1 B c2 ∧ zJ B c2 ι2 ∧ zRQ B c2 ι2 := by
                  rcases hcz with ⟨g0, g1⟩ | ⟨g0, g1, g2⟩
                  · rcases hS2 with ⟨q0, q1, q2⟩ | ⟨q0, q1, q2⟩
                    · exact ⟨c, g1, hL1, q1, ⟨zSP_scale hJ hR.1 hC1 hC2 ⟨q2, hPq⟩ (Or.inl ⟨q0, rfl⟩), zU_scale hR.2 hC1 hC2 (Or.inl rfl)⟩⟩
                    · exact absurd q0 g0
                  · rcases hS2 with ⟨q0, q1, q2⟩ | ⟨q0, q1, q2⟩
                    · exact absurd g0 q0
                    · exact ⟨c + 1, g1, g2, q1, ⟨zSP_scale hJ hR.1 hC1 hC2 ⟨q2, hPq⟩ (Or.inr ⟨q0, rfl⟩), zU_scale hR.2 hC1 hC2 (Or.inr ⟨q0, rfl⟩)⟩⟩
                subst hz2
                refine r_pop X rfl dL_law_256 ?_
                refine r_goto X 1042 dL_law_257 (by decide) ?_
                first | exact zW.widen (by omega) (by omega) (zW.loc4 (by rfl) (by rfl) (by rfl) (by rfl) (J (by omega) _ _ _ _ _ hL2 hJ2 hR2)) | exact zW.widen (by omega) (by omega) (zW.loc4 (by rfl) (by rfl) (by rfl) (by rfl) (J (by omega) _ _ _ _ _ hL hJ2 hR2)) | exact zW.widen (by omega) (by omega) (zW.loc4 (by rfl) (by rfl) (by rfl) (by rfl) (J (by omega) _ _ _ _ _ hL hJ hR))
      · refine r_tableIn X (j0 := 2) 260 dL_law_32 hs rfl (by decide) (by decide) (by decide) ?_
        refine r_aload_n X (by rfl) dL_law_260 ?_
        refine r_aload_n X (by rfl) dL_law_261 ?_
        refine r_iload_n X (by rfl) dL_law_262 ?_
        refine r_iconst X 1 (by decide) dL_law_263 ?_
        refine r_iadd X dL_law_264 ?_
        refine r_sld X hSc dL_law_265 (zsci (k := 1) rfl (by omega) (by decide) hL0 (by omega)) ?_
        refine r_aload_n X (by rfl) dL_law_266 ?_
        refine r_iload_n X (by rfl) dL_law_267 ?_
        refine r_iconst X 2 (by decide) dL_law_268 ?_
        refine r_iadd X dL_law_269 ?_
        refine r_sld X hSc dL_law_270 (zsci (k := 2) rfl (by omega) (by decide) hL0 (by omega)) ?_
        refine r_callV X dL_law_271 zLV_L_23 zCd_X11_place (e_X11_place _ G _ τ ρ _ _ hL hJ (zPF_of hJ hR.1) _ _) (by first | exact zt hL1 0 rfl | exact zt hL 0 rfl) ⟨by decide, rfl, rfl⟩ rfl rfl ⟨⟨rfl, rfl⟩, ⟨by decide, by decide⟩, ⟨by show (_ : Nat) ≤ 600000; omega, by show (_ : Nat) ≤ 7302250; omega⟩, Nat.le_of_ble_eq_true rfl⟩ ?_
        intro v1 s1 hp1
        obtain ⟨r1, κ1, rfl, rfl, hC1⟩ : ∃ r1 κ1, v1 = some (.int r1) ∧ s1 = (B + 63 + 7 * c, τ, ρ, ι, κ1) ∧ zE1_place B c ι (xs (i + 1).toNatClampNeg) (xs (i + 2).toNatClampNeg) r1 := by
          rcases hp1 with ⟨h0, h1, h2⟩ | ⟨h0, k2, h1, h2⟩
          · exact ⟨_, _, h1, h2, Or.inl ⟨h0, rfl⟩⟩
          · exact ⟨_, _, h1, h2, Or.inr ⟨h0, rfl⟩⟩
        obtain ⟨hst1, hM1⟩ := zPsM_1 hR.1 zEdp_s
        refine r_pop X rfl dL_law_274 ?_
        refine r_aload_n X (by rfl) dL_law_275 ?_
        refine r_aload_n X (by rfl) dL_law_276 ?_
        refine r_iload_n X (by rfl) dL_law_277 ?_
        refine r_iconst X 1 (by decide) dL_law_278 ?_
        refine r_iadd X dL_law_279 ?_
        refine r_sld X hSc dL_law_280 (zsci (k := 1) rfl (by omega) (by decide) hL0 (by omega)) ?_
        refine r_aload_n X (by rfl) dL_law_281 ?_
        refine r_iload_n X (by rfl) dL_law_282 ?_
        refine r_iconst X 2 (by decide) dL_law_283 ?_
        refine r_iadd X dL_law_284 ?_
        refine r_sld X hSc dL_law_285 (zsci (k := 2) rfl (by omega) (by decide) hL0 (by omega)) ?_
        refine r_callV X dL_law_286 zLV_L_27 zCd_X12_place (e2_X12_place _ G _ τ ρ _ _ hL hJ hst1 hM1 _ _) (by first | exact zt hL1 38 rfl | exact zt hL 38 rfl) ⟨by decide, rfl, rfl⟩ rfl rfl ⟨⟨rfl, rfl⟩, ⟨by decide, by decide⟩, ⟨by show (_ : Nat) ≤ 600000; omega, by show (_ : Nat) ≤ 7302250; omega⟩, Nat.le_of_ble_eq_true rfl⟩ ?_
        intro v2 s2 hp2
        obtain ⟨r2, ι2, κ2, rfl, rfl, hJ2, hF2, hC2⟩ : ∃ r2 ι2 κ2, v2 = some (.int r2) ∧ s2 = (B + 63 + 7 * c, τ, ρ, ι2, κ2) ∧ zJ B c ι2 ∧ zFdp B c ι ι2 ∧ zE2_place B c ι (xs (i + 1).toNatClampNeg) (xs (i + 2).toNatClampNeg) r2 := by
          rcases hp2 with ⟨h0, h1, h2⟩ | ⟨h0, i2, k2, h1, h2, h3, h4⟩
          · exact ⟨_, _, _, h1, h2, hJ, zFdp_s, Or.inl ⟨h0, rfl⟩⟩
          · exact ⟨_, _, _, h1, h2, zJ_fq hJ h3, Or.inr ⟨h3, h4⟩, Or.inr ⟨h0, rfl⟩⟩
        have hR2 := zRQ_q hJ hR zEdp_s hF2
        have he := zT_place hR.1 hC1 hC2
        refine r_pop X rfl dL_law_289 ?_
        refine r_goto X 1042 dL_law_290 (by decide) ?_
        first | exact zW.widen (by omega) (by omega) (zW.loc4 (by rfl) (by rfl) (by rfl) (by rfl) (J (by omega) _ _ _ _ _ hL2 hJ2 hR2)) | exact zW.widen (by omega) (by omega) (zW.loc4 (by rfl) (by rfl) (by rfl) (by rfl) (J (by omega) _ _ _ _ _ hL hJ2 hR2)) | exact zW.widen (by omega) (by omega) (zW.loc4 (by rfl) (by rfl) (by rfl) (by rfl) (J (by omega) _ _ _ _ _ hL hJ hR))
      · refine r_tableIn X (j0 := 3) 293 dL_law_32 hs rfl (by decide) (by decide) (by decide) ?_
        refine r_aload_n X (by rfl) dL_law_293 ?_
        refine r_aload_n X (by rfl) dL_law_294 ?_
        refine r_iload_n X (by rfl) dL_law_295 ?_
        refine r_iconst X 1 (by decide) dL_law_296 ?_
        refine r_iadd X dL_law_297 ?_
        refine r_sld X hSc dL_law_298 (zsci (k := 1) rfl (by omega) (by decide) hL0 (by omega)) ?_
        refine r_aload_n X (by rfl) dL_law_299 ?_
        refine r_iload_n X (by rfl) dL_law_300 ?_
        refine r_iconst X 2 (by decide) dL_law_301 ?_
        refine r_iadd X dL_law_302 ?_
        refine r_sld X hSc dL_law_303 (zsci (k := 2) rfl (by omega) (by decide) hL0 (by omega)) ?_
        refine r_aload_n X (by rfl) dL_law_304 ?_
        refine r_iload_n X (by rfl) dL_law_305 ?_
        refine r_iconst X 3 (by decide) dL_law_306 ?_
        refine r_iadd X dL_law_307 ?_
        refine r_sld X hSc dL_law_308 (zsci (k := 3) rfl (by omega) (by decide) hL0 (by omega)) ?_
        refine r_aload_n X (by rfl) dL_law_309 ?_
        refine r_iload_n X (by rfl) dL_law_310 ?_
        refine r_iconst X 4 (by decide) dL_law_311 ?_
        refine r_iadd X dL_law_312 ?_
        refine r_sld X hSc dL_law_313 (zsci (k := 4) rfl (by omega) (by decide) hL0 (by omega)) ?_
        refine r_callV X dL_law_314 zLV_L_28 zCd_X11_span (c_X11_span _ G _ τ ρ _ _ hL hJ _ _ _ _) (by first | exact zt hL1 0 rfl | exact zt hL 0 rfl) ⟨by decide, rfl, rfl⟩ rfl rfl ⟨⟨rfl, rfl⟩, ⟨by decide, by decide⟩, ⟨by show (_ : Nat) ≤ 600000; omega, by show (_ : Nat) ≤ 7302250; omega⟩, Nat.le_of_ble_eq_true rfl⟩ ?_
        intro v1 s1 hp1
        obtain ⟨r1, ι1, rfl, rfl, hC1⟩ : ∃ r1 ι1, v1 = some (.int r1) ∧ s1 = (B + 63 + 7 * c, τ, ρ, ι1, κ) ∧ zD1_span B ι ι1 c (xs (i + 1).toNatClampNeg) (xs (i + 2).toNatClampNeg) (xs (i + 3).toNatClampNeg) (xs (i + 4).toNatClampNeg) r1 := by
          rcases hp1 with ⟨h0, h1, h2⟩ | ⟨h0, h3, h1, h2⟩ | ⟨h0, h3, h4, h1, h2⟩ | ⟨h0, h3, h4, ⟨r, h1, h5⟩, i1, h2, f1, f2, f3, f4, f5⟩
          · exact ⟨_, _, h1, h2, Or.inl ⟨h0, rfl, rfl⟩⟩
          · exact ⟨_, _, h1, h2, Or.inr (Or.inl ⟨h0, h3, rfl, rfl⟩)⟩
          · exact ⟨_, _, h1, h2, Or.inr (Or.inr (Or.inl ⟨h0, h3, h4, rfl, rfl⟩))⟩
          · exact ⟨_, _, h1, h2, Or.inr (Or.inr (Or.inr ⟨h0, h3, h4, h5, f1, f2, f3, f4, f5⟩))⟩
        obtain ⟨hJ1, hM1⟩ := zT1_span hJ hC1
        refine r_pop X rfl dL_law_317 ?_
        refine r_aload_n X (by rfl) dL_law_318 ?_
        refine r_aload_n X (by rfl) dL_law_319 ?_
        refine r_iload_n X (by rfl) dL_law_320 ?_
        refine r_iconst X 1 (by decide) dL_law_321 ?_
        refine r_iadd X dL_law_322 ?_
        refine r_sld X hSc dL_law_323 (zsci (k := 1) rfl (by omega) (by decide) hL0 (by omega)) ?_
        refine r_aload_n X (by rfl) dL_law_324 ?_
        refine r_iload_n X (by rfl) dL_law_325 ?_
        refine r_iconst X 2 (by decide) dL_law_326 ?_
        refine r_iadd X dL_law_327 ?_
        refine r_sld X hSc dL_law_328 (zsci (k := 2) rfl (by omega) (by decide) hL0 (by omega)) ?_
        refine r_aload_n X (by rfl) dL_law_329 ?_
        refine r_iload_n X (by rfl) dL_law_330 ?_
        refine r_iconst X 3 (by decide) dL_law_331 ?_
        refine r_iadd X dL_law_332 ?_
        refine r_sld X hSc dL_law_333 (zsci (k := 3) rfl (by omega) (by decide) hL0 (by omega)) ?_
        refine r_aload_n X (by rfl) dL_law_334 ?_
        refine r_iload_n X (by rfl) dL_law_335 ?_
        refine r_iconst X 4 (by decide) dL_law_336 ?_
        refine r_iadd X dL_law_337 ?_
        refine r_sld X hSc dL_law_338 (zsci (k := 4) rfl (by omega) (by decide) hL0 (by omega)) ?_
        refine r_callV X dL_law_339 zLV_L_32 zCd_X12_span (c_X12_span _ G _ τ ρ _ _ hL hJ1 _ _ _ _) (by first | exact zt hL1 38 rfl | exact zt hL 38 rfl) ⟨by decide, rfl, rfl⟩ rfl rfl ⟨⟨rfl, rfl⟩, ⟨by decide, by decide⟩, ⟨by show (_ : Nat) ≤ 600000; omega, by show (_ : Nat) ≤ 7302250; omega⟩, Nat.le_of_ble_eq_true rfl⟩ ?_
        intro v2 s2 hp2
        obtain ⟨r2, ι2, rfl, rfl, hC2⟩ : ∃ r2 ι2, v2 = some (.int r2) ∧ s2 = (B + 63 + 7 * c, τ, ρ, ι2, κ) ∧ zD2_span B ι1 ι2 c (xs (i + 1).toNatClampNeg) (xs (i + 2).toNatClampNeg) (xs (i + 3).toNatClampNeg) (xs (i + 4).toNatClampNeg) r2 := by
          rcases hp2 with ⟨h0, h1, h2⟩ | ⟨h0, h3, h1, h2⟩ | ⟨h0, h3, h4, h1, h2⟩ | ⟨h0, h3, h4, ⟨r, h1, h5⟩, h2⟩
          · exact ⟨_, _, h1, h2, Or.inl ⟨h0, rfl, rfl⟩⟩
          · exact ⟨_, _, h1, h2, Or.inr (Or.inl ⟨h0, h3, rfl, rfl⟩)⟩
          · exact ⟨_, _, h1, h2, Or.inr (Or.inr (Or.inl ⟨h0, h3, h4, rfl, rfl⟩))⟩
          · exact ⟨_, _, h1, h2, Or.inr (Or.inr (Or.inr ⟨h0, h3, h4, h5, rfl⟩))⟩
        obtain ⟨hJ2, hR3, he⟩ := zT_span hJ hR.1.1.1 hJ1 hM1 hC1 hC2
        have hR2 : zRQ B c ι2 := ⟨zSP_span hJ hR.1 ⟨hR3, zP_span hJ hR.1.1.2 hC1 hC2⟩ hC1 hC2, zU_span hJ hR.2 hC1 hC2⟩
        refine r_pop X rfl dL_law_342 ?_
        refine r_goto X 1042 dL_law_343 (by decide) ?_
        first | exact zW.widen (by omega) (by omega) (zW.loc4 (by rfl) (by rfl) (by rfl) (by rfl) (J (by omega) _ _ _ _ _ hL2 hJ2 hR2)) | exact zW.widen (by omega) (by omega) (zW.loc4 (by rfl) (by rfl) (by rfl) (by rfl) (J (by omega) _ _ _ _ _ hL hJ2 hR2)) | exact zW.widen (by omega) (by omega) (zW.loc4 (by rfl) (by rfl) (by rfl) (by rfl) (J (by omega) _ _ _ _ _ hL hJ hR))
      · refine r_tableIn X (j0 := 4) 346 dL_law_32 hs rfl (by decide) (by decide) (by decide) ?_
        refine r_aload_n X (by rfl) dL_law_346 ?_
        refine r_aload_n X (by rfl) dL_law_347 ?_
        refine r_iload_n X (by rfl) dL_law_348 ?_
        refine r_iconst X 1 (by decide) dL_law_349 ?_
        refine r_iadd X dL_law_350 ?_
        refine r_sld X hSc dL_law_351 (zsci (k := 1) rfl (by omega) (by decide) hL0 (by omega)) ?_
        refine r_aload_n X (by rfl) dL_law_352 ?_
        refine r_iload_n X (by rfl) dL_law_353 ?_
        refine r_iconst X 2 (by decide) dL_law_354 ?_
        refine r_iadd X dL_law_355 ?_
        refine r_sld X hSc dL_law_356 (zsci (k := 2) rfl (by omega) (by decide) hL0 (by omega)) ?_
        refine r_callV X dL_law_357 zLV_L_33 zCd_X11_mark (c_X11_mark _ G _ τ ρ _ _ hL hJ _ _) (by first | exact zt hL1 0 rfl | exact zt hL 0 rfl) ⟨by decide, rfl, rfl⟩ rfl rfl ⟨⟨rfl, rfl⟩, ⟨by decide, by decide⟩, ⟨by show (_ : Nat) ≤ 600000; omega, by show (_ : Nat) ≤ 7302250; omega⟩, Nat.le_of_ble_eq_true rfl⟩ ?_
        intro v1 s1 hp1
        obtain ⟨r1, rfl, rfl, hC1⟩ : ∃ r1, v1 = some (.int r1) ∧ s1 = (B + 63 + 7 * c, τ, ρ, ι, κ) ∧ zD1_mark B ι c (xs (i + 1).toNatClampNeg) (xs (i + 2).toNatClampNeg) r1 := by
          rcases hp1 with ⟨h0, h1, h2⟩ | ⟨h0, h1, h2⟩
          · exact ⟨_, h1, h2, Or.inl ⟨h0, rfl⟩⟩
          · exact ⟨_, h1, h2, Or.inr ⟨h0, rfl⟩⟩
        refine r_pop X rfl dL_law_360 ?_
        refine r_aload_n X (by rfl) dL_law_361 ?_
        refine r_aload_n X (by rfl) dL_law_362 ?_
        refine r_iload_n X (by rfl) dL_law_363 ?_
        refine r_iconst X 1 (by decide) dL_law_364 ?_
        refine r_iadd X dL_law_365 ?_
        refine r_sld X hSc dL_law_366 (zsci (k := 1) rfl (by omega) (by decide) hL0 (by omega)) ?_
        refine r_aload_n X (by rfl) dL_law_367 ?_
        refine r_iload_n X (by rfl) dL_law_368 ?_
        refine r_iconst X 2 (by decide) dL_law_369 ?_
        refine r_iadd X dL_law_370 ?_
        refine r_sld X hSc dL_law_371 (zsci (k := 2) rfl (by omega) (by decide) hL0 (by omega)) ?_
        refine r_callV X dL_law_372 zLV_L_36 zCd_X12_mark (c_X12_mark _ G _ τ ρ _ _ hL hJ _ _) (by first | exact zt hL1 38 rfl | exact zt hL 38 rfl) ⟨by decide, rfl, rfl⟩ rfl rfl ⟨⟨rfl, rfl⟩, ⟨by decide, by decide⟩, ⟨by show (_ : Nat) ≤ 600000; omega, by show (_ : Nat) ≤ 7302250; omega⟩, Nat.le_of_ble_eq_true rfl⟩ ?_
        intro v2 s2 hp2
        obtain ⟨r2, rfl, rfl, hC2⟩ : ∃ r2, v2 = some (.int r2) ∧ s2 = (B + 63 + 7 * c, τ, ρ, ι, κ) ∧ zD2_mark B ι c (xs (i + 1).toNatClampNeg) (xs (i + 2).toNatClampNeg) r2 := by
          rcases hp2 with ⟨h0, h1, h2⟩ | ⟨h0, h3, h1, h2⟩ | ⟨h0, h3, r, h1, ⟨q, e, h4, h5, h6, h7, h8⟩, h2⟩
          · exact ⟨_, h1, h2, Or.inl ⟨h0, rfl⟩⟩
          · exact ⟨_, h1, h2, Or.inr (Or.inl ⟨h0, h3, rfl⟩)⟩
          · exact ⟨_, h1, h2, Or.inr (Or.inr ⟨h0, h3, q, e, h4, h5, h6, h7, h8⟩)⟩
        have hJ2 := hJ
        have hR2 := hR
        have he := zT_mark hJ hR.1.1.1 hC1 hC2
        refine r_pop X rfl dL_law_375 ?_
        refine r_goto X 1042 dL_law_376 (by decide) ?_
        first | exact zW.widen (by omega) (by omega) (zW.loc4 (by rfl) (by rfl) (by rfl) (by rfl) (J (by omega) _ _ _ _ _ hL2 hJ2 hR2)) | exact zW.widen (by omega) (by omega) (zW.loc4 (by rfl) (by rfl) (by rfl) (by rfl) (J (by omega) _ _ _ _ _ hL hJ2 hR2)) | exact zW.widen (by omega) (by omega) (zW.loc4 (by rfl) (by rfl) (by rfl) (by rfl) (J (by omega) _ _ _ _ _ hL hJ hR))
      · refine r_tableIn X (j0 := 5) 379 dL_law_32 hs rfl (by decide) (by decide) (by decide) ?_
        refine r_aload_n X (by rfl) dL_law_379 ?_
        refine r_aload_n X (by rfl) dL_law_380 ?_
        refine r_iload_n X (by rfl) dL_law_381 ?_
        refine r_iconst X 1 (by decide) dL_law_382 ?_
        refine r_iadd X dL_law_383 ?_
        refine r_sld X hSc dL_law_384 (zsci (k := 1) rfl (by omega) (by decide) hL0 (by omega)) ?_
        refine r_callV X dL_law_385 zLV_L_37 zCd_X11_marks (c_X11_marks _ G _ τ ρ _ _ hL hJ _) (by first | exact zt hL1 0 rfl | exact zt hL 0 rfl) ⟨by decide, rfl, rfl⟩ rfl rfl ⟨⟨rfl, rfl⟩, ⟨by decide, by decide⟩, ⟨by show (_ : Nat) ≤ 600000; omega, by show (_ : Nat) ≤ 7302250; omega⟩, Nat.le_of_ble_eq_true rfl⟩ ?_
        intro v1 s1 hp1
        obtain ⟨r1, rfl, rfl, hC1⟩ : ∃ r1, v1 = some (.int r1) ∧ s1 = (B + 63 + 7 * c, τ, ρ, ι, κ) ∧ zD1_marks B ι c (xs (i + 1).toNatClampNeg) r1 := by
          rcases hp1 with ⟨h0, h1, h2⟩ | ⟨h0, h1, h2⟩
          · exact ⟨_, h1, h2, Or.inl ⟨h0, rfl⟩⟩
          · exact ⟨_, h1, h2, Or.inr ⟨h0, rfl⟩⟩
        refine r_pop X rfl dL_law_388 ?_
        refine r_aload_n X (by rfl) dL_law_389 ?_
        refine r_aload_n X (by rfl) dL_law_390 ?_
        refine r_iload_n X (by rfl) dL_law_391 ?_
        refine r_iconst X 1 (by decide) dL_law_392 ?_
        refine r_iadd X dL_law_393 ?_
        refine r_sld X hSc dL_law_394 (zsci (k := 1) rfl (by omega) (by decide) hL0 (by omega)) ?_
        refine r_callV X dL_law_395 zLV_L_40 zCd_X12_marks (c_X12_marks _ G _ τ ρ _ _ hL hJ _) (by first | exact zt hL1 38 rfl | exact zt hL 38 rfl) ⟨by decide, rfl, rfl⟩ rfl rfl ⟨⟨rfl, rfl⟩, ⟨by decide, by decide⟩, ⟨by show (_ : Nat) ≤ 600000; omega, by show (_ : Nat) ≤ 7302250; omega⟩, Nat.le_of_ble_eq_true rfl⟩ ?_
        intro v2 s2 hp2
        obtain ⟨r2, rfl, rfl, hC2⟩ : ∃ r2, v2 = some (.int r2) ∧ s2 = (B + 63 + 7 * c, τ, ρ, ι, κ) ∧ zD2_marks B ι c (xs (i + 1).toNatClampNeg) r2 := by
          rcases hp2 with ⟨h0, h1, h2⟩ | ⟨h0, r, h1, h3, h2⟩
          · exact ⟨_, h1, h2, Or.inl ⟨h0, rfl⟩⟩
          · exact ⟨_, h1, h2, Or.inr ⟨h0, h3⟩⟩
        have hJ2 := hJ
        have hR2 := hR
        have he := zT_marks hR.1.1.1 hC1 hC2
        refine r_pop X rfl dL_law_398 ?_
        refine r_goto X 1042 dL_law_399 (by decide) ?_
        first | exact zW.widen (by omega) (by omega) (zW.loc4 (by rfl) (by rfl) (by rfl) (by rfl) (J (by omega) _ _ _ _ _ hL2 hJ2 hR2)) | exact zW.widen (by omega) (by omega) (zW.loc4 (by rfl) (by rfl) (by rfl) (by rfl) (J (by omega) _ _ _ _ _ hL hJ2 hR2)) | exact zW.widen (by omega) (by omega) (zW.loc4 (by rfl) (by rfl) (by rfl) (by rfl) (J (by omega) _ _ _ _ _ hL hJ hR))
      · refine r_tableIn X (j0 := 6) 402 dL_law_32 hs rfl (by decide) (by decide) (by decide) ?_
        refine r_aload_n X (by rfl) dL_law_402 ?_
        refine r_aload_n X (by rfl) dL_law_403 ?_
        refine r_iload_n X (by rfl) dL_law_404 ?_
        refine r_iconst X 1 (by decide) dL_law_405 ?_
        refine r_iadd X dL_law_406 ?_
        refine r_sld X hSc dL_law_407 (zsci (k := 1) rfl (by omega) (by decide) hL0 (by omega)) ?_
        refine r_aload_n X (by rfl) dL_law_408 ?_
        refine r_iload_n X (by rfl) dL_law_409 ?_
        refine r_iconst X 2 (by decide) dL_law_410 ?_
        refine r_iadd X dL_law_411 ?_
        refine r_sld X hSc dL_law_412 (zsci (k := 2) rfl (by omega) (by decide) hL0 (by omega)) ?_
        refine r_callV X dL_law_413 zLV_L_41 zCd_X11_closest (e_X11_closest _ G _ τ ρ _ _ hL hJ (zPF_of hJ hR.1) hR.2 (zMn_of hJ hR.1) _ _) (by first | exact zt hL1 0 rfl | exact zt hL 0 rfl) ⟨by decide, rfl, rfl⟩ rfl rfl ⟨⟨rfl, rfl⟩, ⟨by decide, by decide⟩, ⟨by show (_ : Nat) ≤ 600000; omega, by show (_ : Nat) ≤ 7302250; omega⟩, Nat.le_of_ble_eq_true rfl⟩ ?_
        intro v1 s1 hp1
        obtain ⟨r1, ι1, κ1, rfl, rfl, hC1⟩ : ∃ r1 ι1 κ1, v1 = some (.int r1) ∧ s1 = (B + 63 + 7 * c, τ, ρ, ι1, κ1) ∧ zE1_closest B c ι ι1 (xs (i + 1).toNatClampNeg) (xs (i + 2).toNatClampNeg) r1 := hp1
        obtain ⟨hJ1, hR1⟩ := zT1_closest hJ hR hC1
        refine r_pop X rfl dL_law_416 ?_
        refine r_aload_n X (by rfl) dL_law_417 ?_
        refine r_aload_n X (by rfl) dL_law_418 ?_
        refine r_iload_n X (by rfl) dL_law_419 ?_
        refine r_iconst X 1 (by decide) dL_law_420 ?_
        refine r_iadd X dL_law_421 ?_
        refine r_sld X hSc dL_law_422 (zsci (k := 1) rfl (by omega) (by decide) hL0 (by omega)) ?_
        refine r_aload_n X (by rfl) dL_law_423 ?_
        refine r_iload_n X (by rfl) dL_law_424 ?_
        refine r_iconst X 2 (by decide) dL_law_425 ?_
        refine r_iadd X dL_law_426 ?_
        refine r_sld X hSc dL_law_427 (zsci (k := 2) rfl (by omega) (by decide) hL0 (by omega)) ?_
        refine r_callV X dL_law_428 zLV_L_44 zCd_X12_closest (e2_X12_closest _ G _ τ ρ _ _ hL hJ1 (zst_of hR1.1) hR1.1.2.2.2 _ _ _ (zMu_of hJ1 hR1.1 _)) (by first | exact zt hL1 38 rfl | exact zt hL 38 rfl) ⟨by decide, rfl, rfl⟩ rfl rfl ⟨⟨rfl, rfl⟩, ⟨by decide, by decide⟩, ⟨by show (_ : Nat) ≤ 600000; omega, by show (_ : Nat) ≤ 7302250; omega⟩, Nat.le_of_ble_eq_true rfl⟩ ?_
        intro v2 s2 hp2
        obtain ⟨r2, ι2, κ2, rfl, rfl, hF2, hM2, hC2⟩ : ∃ r2 ι2 κ2, v2 = some (.int r2) ∧ s2 = (B + 63 + 7 * c, τ, ρ, ι2, κ2) ∧ zFq B ι1 ι2 ∧ zPsM B c ι2 ∧ zE2_closest B c ι1 (xs (i + 1).toNatClampNeg) (xs (i + 2).toNatClampNeg) r2 := hp2
        have hJ2 := zJ_fq hJ1 hF2
        have hR2 := zRQ_q hJ1 hR1 zEdp_s (Or.inr ⟨hF2, hM2⟩)
        have he := zT_closest hJ hR hJ1 hR1 hC1 hC2
        refine r_pop X rfl dL_law_431 ?_
        refine r_goto X 1042 dL_law_432 (by decide) ?_
        first | exact zW.widen (by omega) (by omega) (zW.loc4 (by rfl) (by rfl) (by rfl) (by rfl) (J (by omega) _ _ _ _ _ hL2 hJ2 hR2)) | exact zW.widen (by omega) (by omega) (zW.loc4 (by rfl) (by rfl) (by rfl) (by rfl) (J (by omega) _ _ _ _ _ hL hJ2 hR2)) | exact zW.widen (by omega) (by omega) (zW.loc4 (by rfl) (by rfl) (by rfl) (by rfl) (J (by omega) _ _ _ _ _ hL hJ hR))
      · refine r_tableIn X (j0 := 7) 435 dL_law_32 hs rfl (by decide) (by decide) (by decide) ?_
        refine r_aload_n X (by rfl) dL_law_435 ?_
        refine r_aload_n X (by rfl) dL_law_436 ?_
        refine r_iload_n X (by rfl) dL_law_437 ?_
        refine r_iconst X 1 (by decide) dL_law_438 ?_
        refine r_iadd X dL_law_439 ?_
        refine r_sld X hSc dL_law_440 (zsci (k := 1) rfl (by omega) (by decide) hL0 (by omega)) ?_
        refine r_callV X dL_law_441 zLV_L_45 zCd_X11_off (c_X11_off _ G _ τ ρ _ _ hL hJ _) (by first | exact zt hL1 0 rfl | exact zt hL 0 rfl) ⟨by decide, rfl, rfl⟩ rfl rfl ⟨⟨rfl, rfl⟩, ⟨by decide, by decide⟩, ⟨by show (_ : Nat) ≤ 600000; omega, by show (_ : Nat) ≤ 7302250; omega⟩, Nat.le_of_ble_eq_true rfl⟩ ?_
        intro v1 s1 hp1
        obtain ⟨r1, ι1, rfl, rfl, hC1⟩ : ∃ r1 ι1, v1 = some (.int r1) ∧ s1 = (B + 63 + 7 * c, τ, ρ, ι1, κ) ∧ zE1_off B ι ι1 (xs (i + 1).toNatClampNeg) r1 := by
          rcases hp1 with ⟨h0, h1, h2⟩ | ⟨h0, h1, h2⟩
          · exact ⟨_, _, h1, h2, Or.inl ⟨h0, rfl, rfl⟩⟩
          · exact ⟨_, _, h1, h2, Or.inr ⟨h0, rfl, rfl⟩⟩
        have hJ1 := zT1_off hJ hC1
        refine r_pop X rfl dL_law_444 ?_
        refine r_aload_n X (by rfl) dL_law_445 ?_
        refine r_aload_n X (by rfl) dL_law_446 ?_
        refine r_iload_n X (by rfl) dL_law_447 ?_
        refine r_iconst X 1 (by decide) dL_law_448 ?_
        refine r_iadd X dL_law_449 ?_
        refine r_sld X hSc dL_law_450 (zsci (k := 1) rfl (by omega) (by decide) hL0 (by omega)) ?_
        refine r_callV X dL_law_451 zLV_L_48 zCd_X12_off (c_X12_off _ G _ τ ρ _ _ hL hJ1 _) (by first | exact zt hL1 38 rfl | exact zt hL 38 rfl) ⟨by decide, rfl, rfl⟩ rfl rfl ⟨⟨rfl, rfl⟩, ⟨by decide, by decide⟩, ⟨by show (_ : Nat) ≤ 600000; omega, by show (_ : Nat) ≤ 7302250; omega⟩, Nat.le_of_ble_eq_true rfl⟩ ?_
        intro v2 s2 hp2
        obtain ⟨r2, ι2, rfl, rfl, hC2⟩ : ∃ r2 ι2, v2 = some (.int r2) ∧ s2 = (B + 63 + 7 * c, τ, ρ, ι2, κ) ∧ zE2_off B ι1 ι2 (xs (i + 1).toNatClampNeg) r2 := by
          rcases hp2 with ⟨h0, h1, h2⟩ | ⟨h0, h1, h2⟩
          · exact ⟨_, _, h1, h2, Or.inl ⟨h0, rfl, rfl⟩⟩
          · exact ⟨_, _, h1, h2, Or.inr ⟨h0, rfl, rfl⟩⟩
        obtain ⟨hJ2, hR3, he⟩ := zT_off hJ hR.1 hC1 hC2
        have hR2 : zRQ B c ι2 := ⟨hR3, zU_off hR.2 hC1 hC2⟩
        refine r_pop X rfl dL_law_454 ?_
        refine r_goto X 1042 dL_law_455 (by decide) ?_
        first | exact zW.widen (by omega) (by omega) (zW.loc4 (by rfl) (by rfl) (by rfl) (by rfl) (J (by omega) _ _ _ _ _ hL2 hJ2 hR2)) | exact zW.widen (by omega) (by omega) (zW.loc4 (by rfl) (by rfl) (by rfl) (by rfl) (J (by omega) _ _ _ _ _ hL hJ2 hR2)) | exact zW.widen (by omega) (by omega) (zW.loc4 (by rfl) (by rfl) (by rfl) (by rfl) (J (by omega) _ _ _ _ _ hL hJ hR))
      · refine r_tableIn X (j0 := 8) 458 dL_law_32 hs rfl (by decide) (by decide) (by decide) ?_
        refine r_aload_n X (by rfl) dL_law_458 ?_
        refine r_aload_n X (by rfl) dL_law_459 ?_
        refine r_iload_n X (by rfl) dL_law_460 ?_
        refine r_iconst X 1 (by decide) dL_law_461 ?_
        refine r_iadd X dL_law_462 ?_
        refine r_sld X hSc dL_law_463 (zsci (k := 1) rfl (by omega) (by decide) hL0 (by omega)) ?_
        refine r_aload_n X (by rfl) dL_law_464 ?_
        refine r_iload_n X (by rfl) dL_law_465 ?_
        refine r_iconst X 2 (by decide) dL_law_466 ?_
        refine r_iadd X dL_law_467 ?_
        refine r_sld X hSc dL_law_468 (zsci (k := 2) rfl (by omega) (by decide) hL0 (by omega)) ?_
        refine r_aload_n X (by rfl) dL_law_469 ?_
        refine r_iload_n X (by rfl) dL_law_470 ?_
        refine r_iconst X 3 (by decide) dL_law_471 ?_
        refine r_iadd X dL_law_472 ?_
        refine r_sld X hSc dL_law_473 (zsci (k := 3) rfl (by omega) (by decide) hL0 (by omega)) ?_
        refine r_aload_n X (by rfl) dL_law_474 ?_
        refine r_iload_n X (by rfl) dL_law_475 ?_
        refine r_iconst X 4 (by decide) dL_law_476 ?_
        refine r_iadd X dL_law_477 ?_
        refine r_sld X hSc dL_law_478 (zsci (k := 4) rfl (by omega) (by decide) hL0 (by omega)) ?_
        refine r_callV X dL_law_479 zLV_L_49 zCd_X11_set (e_X11_set _ G _ τ ρ _ _ hL hJ (zPF_of hJ hR.1) _ _ _ _) (by first | exact zt hL1 0 rfl | exact zt hL 0 rfl) ⟨by decide, rfl, rfl⟩ rfl rfl ⟨⟨rfl, rfl⟩, ⟨by decide, by decide⟩, ⟨by show (_ : Nat) ≤ 600000; omega, by show (_ : Nat) ≤ 7302250; omega⟩, Nat.le_of_ble_eq_true rfl⟩ ?_
        intro v1 s1 hp1
        obtain ⟨r1, ι1, κ1, rfl, rfl, hC1⟩ : ∃ r1 ι1 κ1, v1 = some (.int r1) ∧ s1 = (B + 63 + 7 * c, τ, ρ, ι1, κ1) ∧ zE1_set B c ι ι1 (xs (i + 1).toNatClampNeg) (xs (i + 2).toNatClampNeg) (xs (i + 3).toNatClampNeg) (xs (i + 4).toNatClampNeg) r1 := by
          rcases hp1 with ⟨h0, h1, h2⟩ | ⟨h0, k2, h1, h2⟩
          · exact ⟨_, _, _, h1, h2, Or.inl ⟨h0, rfl, rfl⟩⟩
          · exact ⟨_, _, _, h1, h2, Or.inr ⟨h0, rfl, rfl⟩⟩
        obtain ⟨hJ1, hst1, hM1⟩ := zT1_set hJ hR.1 hC1
        refine r_pop X rfl dL_law_482 ?_
        refine r_aload_n X (by rfl) dL_law_483 ?_
        refine r_aload_n X (by rfl) dL_law_484 ?_
        refine r_iload_n X (by rfl) dL_law_485 ?_
        refine r_iconst X 1 (by decide) dL_law_486 ?_
        refine r_iadd X dL_law_487 ?_
        refine r_sld X hSc dL_law_488 (zsci (k := 1) rfl (by omega) (by decide) hL0 (by omega)) ?_
        refine r_aload_n X (by rfl) dL_law_489 ?_
        refine r_iload_n X (by rfl) dL_law_490 ?_
        refine r_iconst X 2 (by decide) dL_law_491 ?_
        refine r_iadd X dL_law_492 ?_
        refine r_sld X hSc dL_law_493 (zsci (k := 2) rfl (by omega) (by decide) hL0 (by omega)) ?_
        refine r_aload_n X (by rfl) dL_law_494 ?_
        refine r_iload_n X (by rfl) dL_law_495 ?_
        refine r_iconst X 3 (by decide) dL_law_496 ?_
        refine r_iadd X dL_law_497 ?_
        refine r_sld X hSc dL_law_498 (zsci (k := 3) rfl (by omega) (by decide) hL0 (by omega)) ?_
        refine r_aload_n X (by rfl) dL_law_499 ?_
        refine r_iload_n X (by rfl) dL_law_500 ?_
        refine r_iconst X 4 (by decide) dL_law_501 ?_
        refine r_iadd X dL_law_502 ?_
        refine r_sld X hSc dL_law_503 (zsci (k := 4) rfl (by omega) (by decide) hL0 (by omega)) ?_
        refine r_callV X dL_law_504 zLV_L_52 zCd_X12_set (e2_X12_set _ G _ τ ρ _ _ hL hJ1 hst1 hM1 _ _ _ _) (by first | exact zt hL1 38 rfl | exact zt hL 38 rfl) ⟨by decide, rfl, rfl⟩ rfl rfl ⟨⟨rfl, rfl⟩, ⟨by decide, by decide⟩, ⟨by show (_ : Nat) ≤ 600000; omega, by show (_ : Nat) ≤ 7302250; omega⟩, Nat.le_of_ble_eq_true rfl⟩ ?_
        intro v2 s2 hp2
        obtain ⟨r2, ι2, κ2, rfl, rfl, hC2⟩ : ∃ r2 ι2 κ2, v2 = some (.int r2) ∧ s2 = (B + 63 + 7 * c, τ, ρ, ι2, κ2) ∧ zE2_set B c ι1 ι2 (xs (i + 1).toNatClampNeg) (xs (i + 2).toNatClampNeg) (xs (i + 3).toNatClampNeg) (xs (i + 4).toNatClampNeg) r2 := by
          rcases hp2 with ⟨h0, h1, h2⟩ | ⟨h0, i2, k2, h1, h2, h3, h4⟩
          · exact ⟨_, _, _, h1, h2, Or.inl ⟨h0, rfl, rfl⟩⟩
          · exact ⟨_, _, _, h1, h2, Or.inr ⟨h0, rfl, _, h3, h4, rfl⟩⟩
        obtain ⟨hJ2, hR3, he⟩ := zT_set hJ hR.1 hC1 hC2
        have hR2 : zRQ B c ι2 := ⟨hR3, zU_set hR.2 hC1 hC2⟩
        refine r_pop X rfl dL_law_507 ?_
        refine r_goto X 1042 dL_law_508 (by decide) ?_
        first | exact zW.widen (by omega) (by omega) (zW.loc4 (by rfl) (by rfl) (by rfl) (by rfl) (J (by omega) _ _ _ _ _ hL2 hJ2 hR2)) | exact zW.widen (by omega) (by omega) (zW.loc4 (by rfl) (by rfl) (by rfl) (by rfl) (J (by omega) _ _ _ _ _ hL hJ2 hR2)) | exact zW.widen (by omega) (by omega) (zW.loc4 (by rfl) (by rfl) (by rfl) (by rfl) (J (by omega) _ _ _ _ _ hL hJ hR))
      · refine r_tableIn X (j0 := 9) 511 dL_law_32 hs rfl (by decide) (by decide) (by decide) ?_
        refine r_aload_n X (by rfl) dL_law_511 ?_
        refine r_aload_n X (by rfl) dL_law_512 ?_
        refine r_iload_n X (by rfl) dL_law_513 ?_
        refine r_iconst X 1 (by decide) dL_law_514 ?_
        refine r_iadd X dL_law_515 ?_
        refine r_sld X hSc dL_law_516 (zsci (k := 1) rfl (by omega) (by decide) hL0 (by omega)) ?_
        refine r_aload_n X (by rfl) dL_law_517 ?_
        refine r_iload_n X (by rfl) dL_law_518 ?_
        refine r_iconst X 2 (by decide) dL_law_519 ?_
        refine r_iadd X dL_law_520 ?_
        refine r_sld X hSc dL_law_521 (zsci (k := 2) rfl (by omega) (by decide) hL0 (by omega)) ?_
        refine r_aload_n X (by rfl) dL_law_522 ?_
        refine r_iload_n X (by rfl) dL_law_523 ?_
        refine r_iconst X 3 (by decide) dL_law_524 ?_
        refine r_iadd X dL_law_525 ?_
        refine r_sld X hSc dL_law_526 (zsci (k := 3) rfl (by omega) (by decide) hL0 (by omega)) ?_
        refine r_callV X dL_law_527 zLV_L_53 zCd_X11_against (e_X11_against _ G _ τ ρ _ _ hL hJ (zPF_of hJ hR.1) _ _ _) (by first | exact zt hL1 0 rfl | exact zt hL 0 rfl) ⟨by decide, rfl, rfl⟩ rfl rfl ⟨⟨rfl, rfl⟩, ⟨by decide, by decide⟩, ⟨by show (_ : Nat) ≤ 600000; omega, by show (_ : Nat) ≤ 7302250; omega⟩, Nat.le_of_ble_eq_true rfl⟩ ?_
        intro v1 s1 hp1
        obtain ⟨r1, κ1, rfl, rfl, hC1⟩ : ∃ r1 κ1, v1 = some (.int r1) ∧ s1 = (B + 63 + 7 * c, τ, ρ, ι, κ1) ∧ zE1_against B c ι (xs (i + 1).toNatClampNeg) (xs (i + 2).toNatClampNeg) (xs (i + 3).toNatClampNeg) r1 := by
          rcases hp1 with ⟨h0, h1, h2⟩ | ⟨h0, k2, h1, h2⟩
          · exact ⟨_, _, h1, h2, Or.inl ⟨h0, rfl⟩⟩
          · exact ⟨_, _, h1, h2, Or.inr ⟨h0, rfl⟩⟩
        obtain ⟨hst1, hM1⟩ := zPsM_1 hR.1 zEdp_s
        refine r_pop X rfl dL_law_530 ?_
        refine r_aload_n X (by rfl) dL_law_531 ?_
        refine r_aload_n X (by rfl) dL_law_532 ?_
        refine r_iload_n X (by rfl) dL_law_533 ?_
        refine r_iconst X 1 (by decide) dL_law_534 ?_
        refine r_iadd X dL_law_535 ?_
        refine r_sld X hSc dL_law_536 (zsci (k := 1) rfl (by omega) (by decide) hL0 (by omega)) ?_
        refine r_aload_n X (by rfl) dL_law_537 ?_
        refine r_iload_n X (by rfl) dL_law_538 ?_
        refine r_iconst X 2 (by decide) dL_law_539 ?_
        refine r_iadd X dL_law_540 ?_
        refine r_sld X hSc dL_law_541 (zsci (k := 2) rfl (by omega) (by decide) hL0 (by omega)) ?_
        refine r_aload_n X (by rfl) dL_law_542 ?_
        refine r_iload_n X (by rfl) dL_law_543 ?_
        refine r_iconst X 3 (by decide) dL_law_544 ?_
        refine r_iadd X dL_law_545 ?_
        refine r_sld X hSc dL_law_546 (zsci (k := 3) rfl (by omega) (by decide) hL0 (by omega)) ?_
        refine r_callV X dL_law_547 zLV_L_57 zCd_X12_against (e2_X12_against _ G _ τ ρ _ _ hL hJ hst1 hM1 _ _ _) (by first | exact zt hL1 38 rfl | exact zt hL 38 rfl) ⟨by decide, rfl, rfl⟩ rfl rfl ⟨⟨rfl, rfl⟩, ⟨by decide, by decide⟩, ⟨by show (_ : Nat) ≤ 600000; omega, by show (_ : Nat) ≤ 7302250; omega⟩, Nat.le_of_ble_eq_true rfl⟩ ?_
        intro v2 s2 hp2
        obtain ⟨r2, ι2, κ2, rfl, rfl, hJ2, hF2, hC2⟩ : ∃ r2 ι2 κ2, v2 = some (.int r2) ∧ s2 = (B + 63 + 7 * c, τ, ρ, ι2, κ2) ∧ zJ B c ι2 ∧ zFdp B c ι ι2 ∧ zE2_against B c ι (xs (i + 1).toNatClampNeg) (xs (i + 2).toNatClampNeg) (xs (i + 3).toNatClampNeg) r2 := by
          rcases hp2 with ⟨h0, h1, h2⟩ | ⟨h0, i2, k2, h1, h2, h3, h4⟩
          · exact ⟨_, _, _, h1, h2, hJ, zFdp_s, Or.inl ⟨h0, rfl⟩⟩
          · exact ⟨_, _, _, h1, h2, zJ_fq hJ h3, Or.inr ⟨h3, h4⟩, Or.inr ⟨h0, rfl⟩⟩
        have hR2 := zRQ_q hJ hR zEdp_s hF2
        have he := zT_against hR.1 hC1 hC2
        refine r_pop X rfl dL_law_550 ?_
        refine r_goto X 1042 dL_law_551 (by decide) ?_
        first | exact zW.widen (by omega) (by omega) (zW.loc4 (by rfl) (by rfl) (by rfl) (by rfl) (J (by omega) _ _ _ _ _ hL2 hJ2 hR2)) | exact zW.widen (by omega) (by omega) (zW.loc4 (by rfl) (by rfl) (by rfl) (by rfl) (J (by omega) _ _ _ _ _ hL hJ2 hR2)) | exact zW.widen (by omega) (by omega) (zW.loc4 (by rfl) (by rfl) (by rfl) (by rfl) (J (by omega) _ _ _ _ _ hL hJ hR))
      · refine r_tableIn X (j0 := 10) 554 dL_law_32 hs rfl (by decide) (by decide) (by decide) ?_
        refine r_aload_n X (by rfl) dL_law_554 ?_
        refine r_aload_n X (by rfl) dL_law_555 ?_
        refine r_iload_n X (by rfl) dL_law_556 ?_
        refine r_iconst X 1 (by decide) dL_law_557 ?_
        refine r_iadd X dL_law_558 ?_
        refine r_sld X hSc dL_law_559 (zsci (k := 1) rfl (by omega) (by decide) hL0 (by omega)) ?_
        refine r_aload_n X (by rfl) dL_law_560 ?_
        refine r_iload_n X (by rfl) dL_law_561 ?_
        refine r_iconst X 2 (by decide) dL_law_562 ?_
        refine r_iadd X dL_law_563 ?_
        refine r_sld X hSc dL_law_564 (zsci (k := 2) rfl (by omega) (by decide) hL0 (by omega)) ?_
        refine r_callV X dL_law_565 zLV_L_58 zCd_X11_nearest (e_X11_nearest _ G _ τ ρ _ _ hL hJ (zPF_of hJ hR.1) hR.2 (zMn_of hJ hR.1) _ _) (by first | exact zt hL1 0 rfl | exact zt hL 0 rfl) ⟨by decide, rfl, rfl⟩ rfl rfl ⟨⟨rfl, rfl⟩, ⟨by decide, by decide⟩, ⟨by show (_ : Nat) ≤ 600000; omega, by show (_ : Nat) ≤ 7302250; omega⟩, Nat.le_of_ble_eq_true rfl⟩ ?_
        intro v1 s1 hp1
        obtain ⟨r1, ι1, κ1, rfl, rfl, hC1⟩ : ∃ r1 ι1 κ1, v1 = some (.int r1) ∧ s1 = (B + 63 + 7 * c, τ, ρ, ι1, κ1) ∧ zE1_nearest B c ι ι1 (xs (i + 1).toNatClampNeg) (xs (i + 2).toNatClampNeg) r1 := hp1
        obtain ⟨hJ1, hR1⟩ := zT1_nearest hJ hR hC1
        refine r_pop X rfl dL_law_568 ?_
        refine r_aload_n X (by rfl) dL_law_569 ?_
        refine r_aload_n X (by rfl) dL_law_570 ?_
        refine r_iload_n X (by rfl) dL_law_571 ?_
        refine r_iconst X 1 (by decide) dL_law_572 ?_
        refine r_iadd X dL_law_573 ?_
        refine r_sld X hSc dL_law_574 (zsci (k := 1) rfl (by omega) (by decide) hL0 (by omega)) ?_
        refine r_aload_n X (by rfl) dL_law_575 ?_
        refine r_iload_n X (by rfl) dL_law_576 ?_
        refine r_iconst X 2 (by decide) dL_law_577 ?_
        refine r_iadd X dL_law_578 ?_
        refine r_sld X hSc dL_law_579 (zsci (k := 2) rfl (by omega) (by decide) hL0 (by omega)) ?_
        refine r_callV X dL_law_580 zLV_L_61 zCd_X12_nearest (e2_X12_nearest _ G _ τ ρ _ _ hL hJ1 (zst_of hR1.1) hR1.1.2.2.2 _ _ _ (zMu_of hJ1 hR1.1 _)) (by first | exact zt hL1 38 rfl | exact zt hL 38 rfl) ⟨by decide, rfl, rfl⟩ rfl rfl ⟨⟨rfl, rfl⟩, ⟨by decide, by decide⟩, ⟨by show (_ : Nat) ≤ 600000; omega, by show (_ : Nat) ≤ 7302250; omega⟩, Nat.le_of_ble_eq_true rfl⟩ ?_
        intro v2 s2 hp2
        obtain ⟨r2, ι2, κ2, rfl, rfl, hF2, hM2, hC2⟩ : ∃ r2 ι2 κ2, v2 = some (.int r2) ∧ s2 = (B + 63 + 7 * c, τ, ρ, ι2, κ2) ∧ zFq B ι1 ι2 ∧ zPsM B c ι2 ∧ zE2_nearest B c ι1 (xs (i + 1).toNatClampNeg) (xs (i + 2).toNatClampNeg) r2 := hp2
        have hJ2 := zJ_fq hJ1 hF2
        have hR2 := zRQ_q hJ1 hR1 zEdp_s (Or.inr ⟨hF2, hM2⟩)
        have he := zT_nearest hJ hR hJ1 hR1 hC1 hC2
        refine r_pop X rfl dL_law_583 ?_
        refine r_goto X 1042 dL_law_584 (by decide) ?_
        first | exact zW.widen (by omega) (by omega) (zW.loc4 (by rfl) (by rfl) (by rfl) (by rfl) (J (by omega) _ _ _ _ _ hL2 hJ2 hR2)) | exact zW.widen (by omega) (by omega) (zW.loc4 (by rfl) (by rfl) (by rfl) (by rfl) (J (by omega) _ _ _ _ _ hL hJ2 hR2)) | exact zW.widen (by omega) (by omega) (zW.loc4 (by rfl) (by rfl) (by rfl) (by rfl) (J (by omega) _ _ _ _ _ hL hJ hR))
      · refine r_tableIn X (j0 := 11) 587 dL_law_32 hs rfl (by decide) (by decide) (by decide) ?_
        refine r_aload_n X (by rfl) dL_law_587 ?_
        refine r_aload_n X (by rfl) dL_law_588 ?_
        refine r_iload_n X (by rfl) dL_law_589 ?_
        refine r_iconst X 1 (by decide) dL_law_590 ?_
        refine r_iadd X dL_law_591 ?_
        refine r_sld X hSc dL_law_592 (zsci (k := 1) rfl (by omega) (by decide) hL0 (by omega)) ?_
        refine r_aload_n X (by rfl) dL_law_593 ?_
        refine r_iload_n X (by rfl) dL_law_594 ?_
        refine r_iconst X 2 (by decide) dL_law_595 ?_
        refine r_iadd X dL_law_596 ?_
        refine r_sld X hSc dL_law_597 (zsci (k := 2) rfl (by omega) (by decide) hL0 (by omega)) ?_
        refine r_callV X dL_law_598 zLV_L_62 zCd_X11_between (e_X11_between _ G _ τ ρ _ _ hL hJ (zPF_of hJ hR.1) hR.2 (zMn_of hJ hR.1) _ _) (by first | exact zt hL1 0 rfl | exact zt hL 0 rfl) ⟨by decide, rfl, rfl⟩ rfl rfl ⟨⟨rfl, rfl⟩, ⟨by decide, by decide⟩, ⟨by show (_ : Nat) ≤ 600000; omega, by show (_ : Nat) ≤ 7302250; omega⟩, Nat.le_of_ble_eq_true rfl⟩ ?_
        intro v1 s1 hp1
        obtain ⟨r1, ι1, κ1, rfl, rfl, hC1⟩ : ∃ r1 ι1 κ1, v1 = some (.int r1) ∧ s1 = (B + 63 + 7 * c, τ, ρ, ι1, κ1) ∧ zE1_between B c ι ι1 (xs (i + 1).toNatClampNeg) (xs (i + 2).toNatClampNeg) r1 := hp1
        obtain ⟨hJ1, hR1⟩ := zT1_between hJ hR hC1
        refine r_aload_n X (by rfl) dL_law_601 ?_
        refine r_aload_n X (by rfl) dL_law_602 ?_
        refine r_iload_n X (by rfl) dL_law_603 ?_
        refine r_iconst X 1 (by decide) dL_law_604 ?_
        refine r_iadd X dL_law_605 ?_
        refine r_sld X hSc dL_law_606 (zsci (k := 1) rfl (by omega) (by decide) hL0 (by omega)) ?_
        refine r_aload_n X (by rfl) dL_law_607 ?_
        refine r_iload_n X (by rfl) dL_law_608 ?_
        refine r_iconst X 2 (by decide) dL_law_609 ?_
        refine r_iadd X dL_law_610 ?_
        refine r_sld X hSc dL_law_611 (zsci (k := 2) rfl (by omega) (by decide) hL0 (by omega)) ?_
        refine r_callV X dL_law_612 zLV_L_65 zCd_X12_between (e2_X12_between _ G _ τ ρ _ _ hL hJ1 (zst_of hR1.1) hR1.1.2.2.2 _ _ _ (zMu_of hJ1 hR1.1 _)) (by first | exact zt hL1 38 rfl | exact zt hL 38 rfl) ⟨by decide, rfl, rfl⟩ rfl rfl ⟨⟨rfl, rfl⟩, ⟨by decide, by decide⟩, ⟨by show (_ : Nat) ≤ 600000; omega, by show (_ : Nat) ≤ 7302250; omega⟩, Nat.le_of_ble_eq_true rfl⟩ ?_
        intro v2 s2 hp2
        obtain ⟨r2, ι2, κ2, rfl, rfl, hF2, hM2, hC2⟩ : ∃ r2 ι2 κ2, v2 = some (.int r2) ∧ s2 = (B + 63 + 7 * c, τ, ρ, ι2, κ2) ∧ zFq B ι1 ι2 ∧ zPsM B c ι2 ∧ zE2_between B c ι1 (xs (i + 1).toNatClampNeg) (xs (i + 2).toNatClampNeg) r2 := hp2
        have hJ2 := zJ_fq hJ1 hF2
        have hR2 := zRQ_q hJ1 hR1 zEdp_s (Or.inr ⟨hF2, hM2⟩)
        have he := zT_between hJ hR hJ1 hR1 hC1 hC2
        refine r_icmp_eq X 1042 dL_law_615 (by decide) (fun h615 => ?_) (fun h615 => ?_)
        · first | exact zW.widen (by omega) (by omega) (zW.loc4 (by rfl) (by rfl) (by rfl) (by rfl) (J (by omega) _ _ _ _ _ hL2 hJ2 hR2)) | exact zW.widen (by omega) (by omega) (zW.loc4 (by rfl) (by rfl) (by rfl) (by rfl) (J (by omega) _ _ _ _ _ hL hJ2 hR2)) | exact zW.widen (by omega) (by omega) (zW.loc4 (by rfl) (by rfl) (by rfl) (by rfl) (J (by omega) _ _ _ _ _ hL hJ hR))
        · exact absurd he h615
      · refine r_tableIn X (j0 := 12) 620 dL_law_32 hs rfl (by decide) (by decide) (by decide) ?_
        refine r_aload_n X (by rfl) dL_law_620 ?_
        refine r_aload_n X (by rfl) dL_law_621 ?_
        refine r_iload_n X (by rfl) dL_law_622 ?_
        refine r_iconst X 1 (by decide) dL_law_623 ?_
        refine r_iadd X dL_law_624 ?_
        refine r_sld X hSc dL_law_625 (zsci (k := 1) rfl (by omega) (by decide) hL0 (by omega)) ?_
        refine r_callV X dL_law_626 zLV_L_66 zCd_X11_factor (c_X11_factor _ G _ τ ρ _ _ hL hJ _) (by first | exact zt hL1 0 rfl | exact zt hL 0 rfl) ⟨by decide, rfl, rfl⟩ rfl rfl ⟨⟨rfl, rfl⟩, ⟨by decide, by decide⟩, ⟨by show (_ : Nat) ≤ 600000; omega, by show (_ : Nat) ≤ 7302250; omega⟩, Nat.le_of_ble_eq_true rfl⟩ ?_
        intro v1 s1 hp1
        obtain ⟨r1, ι1, rfl, rfl, hC1⟩ : ∃ r1 ι1, v1 = some (.int r1) ∧ s1 = (B + 63 + 7 * c, τ, ρ, ι1, κ) ∧ zD1_factor B ι ι1 (xs (i + 1).toNatClampNeg) r1 := by
          rcases hp1 with ⟨h0, h1, h2⟩ | ⟨h0, h3, h1, h2⟩ | ⟨h0, h3, h1, h2⟩
          · exact ⟨_, _, h1, h2, Or.inl ⟨h0, rfl, rfl⟩⟩
          · exact ⟨_, _, h1, h2, Or.inr (Or.inl ⟨h0, h3, rfl, rfl⟩)⟩
          · exact ⟨_, _, h1, h2, Or.inr (Or.inr ⟨h0, h3, rfl, rfl⟩)⟩
        have hJ1 := zT1_factor hJ hC1
        refine r_pop X rfl dL_law_629 ?_
        refine r_aload_n X (by rfl) dL_law_630 ?_
        refine r_aload_n X (by rfl) dL_law_631 ?_
        refine r_iload_n X (by rfl) dL_law_632 ?_
        refine r_iconst X 1 (by decide) dL_law_633 ?_
        refine r_iadd X dL_law_634 ?_
        refine r_sld X hSc dL_law_635 (zsci (k := 1) rfl (by omega) (by decide) hL0 (by omega)) ?_
        refine r_callV X dL_law_636 zLV_L_69 zCd_X12_factor (c_X12_factor _ G _ τ ρ _ _ hL hJ1 _) (by first | exact zt hL1 38 rfl | exact zt hL 38 rfl) ⟨by decide, rfl, rfl⟩ rfl rfl ⟨⟨rfl, rfl⟩, ⟨by decide, by decide⟩, ⟨by show (_ : Nat) ≤ 600000; omega, by show (_ : Nat) ≤ 7302250; omega⟩, Nat.le_of_ble_eq_true rfl⟩ ?_
        intro v2 s2 hp2
        obtain ⟨r2, ι2, rfl, rfl, hC2⟩ : ∃ r2 ι2, v2 = some (.int r2) ∧ s2 = (B + 63 + 7 * c, τ, ρ, ι2, κ) ∧ zD2_factor B ι1 ι2 (xs (i + 1).toNatClampNeg) r2 := by
          rcases hp2 with ⟨h0, h1, h2⟩ | ⟨h0, h3, h1, h2⟩ | ⟨h0, h3, h1, h2⟩
          · exact ⟨_, _, h1, h2, Or.inl ⟨h0, rfl, rfl⟩⟩
          · exact ⟨_, _, h1, h2, Or.inr (Or.inl ⟨h0, h3, rfl, rfl⟩)⟩
          · exact ⟨_, _, h1, h2, Or.inr (Or.inr ⟨h0, h3, rfl, rfl⟩)⟩
        obtain ⟨hJ2, hR3, he⟩ := zT_factor hJ hR.1.1.1 hJ1 hC1 hC2
        have hR2 : zRQ B c ι2 := ⟨zSP_factor hR.1 ⟨hR3, zP_factor hR.1.1.2 hC1 hC2⟩ hC1 hC2, zU_factor hR.2 hC1 hC2⟩
        refine r_pop X rfl dL_law_639 ?_
        refine r_goto X 1042 dL_law_640 (by decide) ?_
        first | exact zW.widen (by omega) (by omega) (zW.loc4 (by rfl) (by rfl) (by rfl) (by rfl) (J (by omega) _ _ _ _ _ hL2 hJ2 hR2)) | exact zW.widen (by omega) (by omega) (zW.loc4 (by rfl) (by rfl) (by rfl) (by rfl) (J (by omega) _ _ _ _ _ hL hJ2 hR2)) | exact zW.widen (by omega) (by omega) (zW.loc4 (by rfl) (by rfl) (by rfl) (by rfl) (J (by omega) _ _ _ _ _ hL hJ hR))
      · refine r_tableIn X (j0 := 13) 643 dL_law_32 hs rfl (by decide) (by decide) (by decide) ?_
        refine r_aload_n X (by rfl) dL_law_643 ?_
        refine r_callV X dL_law_644 zLV_L_70 zCd_X11_clear (c_X11_clear _ G _ τ ρ _ _ hL hJ) (by first | exact zt hL1 0 rfl | exact zt hL 0 rfl) ⟨by decide, rfl, rfl⟩ rfl rfl ⟨⟨rfl, rfl⟩, ⟨by decide, by decide⟩, ⟨by show (_ : Nat) ≤ 600000; omega, by show (_ : Nat) ≤ 7302250; omega⟩, Nat.le_of_ble_eq_true rfl⟩ ?_
        intro v1 s1 hp1
        obtain ⟨r1, ι1, rfl, rfl, hC1⟩ : ∃ r1 ι1, v1 = some (.int r1) ∧ s1 = (B + 63 + 7 * c, τ, ρ, ι1, κ) ∧ zD1_clear B ι ι1 r1 := by
          obtain ⟨h1, h2⟩ := hp1
          exact ⟨_, _, h1, h2, rfl, rfl⟩
        have hJ1 := zT1_clear hJ hC1
        refine r_pop X rfl dL_law_647 ?_
        refine r_aload_n X (by rfl) dL_law_648 ?_
        refine r_callV X dL_law_649 zLV_L_74 zCd_X12_clear (c_X12_clear _ G _ τ ρ _ _ hL hJ1) (by first | exact zt hL1 38 rfl | exact zt hL 38 rfl) ⟨by decide, rfl, rfl⟩ rfl rfl ⟨⟨rfl, rfl⟩, ⟨by decide, by decide⟩, ⟨by show (_ : Nat) ≤ 600000; omega, by show (_ : Nat) ≤ 7302250; omega⟩, Nat.le_of_ble_eq_true rfl⟩ ?_
        intro v2 s2 hp2
        obtain ⟨r2, ι2, rfl, rfl, hC2⟩ : ∃ r2 ι2, v2 = some (.int r2) ∧ s2 = (B + 63 + 7 * c, τ, ρ, ι2, κ) ∧ zD2_clear B ι1 ι2 r2 := by
          obtain ⟨h1, h2⟩ := hp2
          exact ⟨_, _, h1, h2, rfl, rfl⟩
        obtain ⟨hJ2, hR3, he⟩ := zT_clear hJ hR.1.1.1 hJ1 hC1 hC2
        have hR2 : zRQ B c ι2 := ⟨zSP_clear hR.1 ⟨hR3, zP_clear hR.1.1.2 hC1 hC2⟩ hC1 hC2, zU_clear hR.2 hC1 hC2⟩
        refine r_pop X rfl dL_law_652 ?_
        refine r_goto X 1042 dL_law_653 (by decide) ?_
        first | exact zW.widen (by omega) (by omega) (zW.loc4 (by rfl) (by rfl) (by rfl) (by rfl) (J (by omega) _ _ _ _ _ hL2 hJ2 hR2)) | exact zW.widen (by omega) (by omega) (zW.loc4 (by rfl) (by rfl) (by rfl) (by rfl) (J (by omega) _ _ _ _ _ hL hJ2 hR2)) | exact zW.widen (by omega) (by omega) (zW.loc4 (by rfl) (by rfl) (by rfl) (by rfl) (J (by omega) _ _ _ _ _ hL hJ hR))
      · refine r_tableIn X (j0 := 14) 656 dL_law_32 hs rfl (by decide) (by decide) (by decide) ?_
        refine r_aload_n X (by rfl) dL_law_656 ?_
        refine r_aload_n X (by rfl) dL_law_657 ?_
        refine r_iload_n X (by rfl) dL_law_658 ?_
        refine r_iconst X 1 (by decide) dL_law_659 ?_
        refine r_iadd X dL_law_660 ?_
        refine r_sld X hSc dL_law_661 (zsci (k := 1) rfl (by omega) (by decide) hL0 (by omega)) ?_
        refine r_callV X dL_law_662 zLV_L_75 zCd_X11_chain (c_X11_chain _ G _ τ ρ _ _ hL hJ zTq_ok hR.1.1.2.1 hR.1.1.1.1.2 (zT_cg hJ hR.1.1.1) _) (by first | exact zt hL1 0 rfl | exact zt hL 0 rfl) ⟨by decide, rfl, rfl⟩ rfl rfl ⟨⟨rfl, rfl⟩, ⟨by decide, by decide⟩, ⟨by show (_ : Nat) ≤ 600000; omega, by show (_ : Nat) ≤ 7302250; omega⟩, Nat.le_of_ble_eq_true rfl⟩ ?_
        intro v1 s1 hp1
        obtain ⟨r1, ι1, κ1, rfl, rfl, hZ1, hP1, hC1⟩ := hp1
        obtain ⟨hJ1, hL01, hM1⟩ := zT1_plain hJ hR.1.1 hZ1
        refine r_pop X rfl dL_law_665 ?_
        refine r_aload_n X (by rfl) dL_law_666 ?_
        refine r_aload_n X (by rfl) dL_law_667 ?_
        refine r_iload_n X (by rfl) dL_law_668 ?_
        refine r_iconst X 1 (by decide) dL_law_669 ?_
        refine r_iadd X dL_law_670 ?_
        refine r_sld X hSc dL_law_671 (zsci (k := 1) rfl (by omega) (by decide) hL0 (by omega)) ?_
        refine r_callV X dL_law_672 zLV_L_78 zCd_X12_chain (c_X12_chain _ G _ τ ρ _ _ hL hJ1 hL01 hM1 _) (by first | exact zt hL1 38 rfl | exact zt hL 38 rfl) ⟨by decide, rfl, rfl⟩ rfl rfl ⟨⟨rfl, rfl⟩, ⟨by decide, by decide⟩, ⟨by show (_ : Nat) ≤ 600000; omega, by show (_ : Nat) ≤ 7302250; omega⟩, Nat.le_of_ble_eq_true rfl⟩ ?_
        intro v2 s2 hp2
        obtain ⟨r2, ι2, κ2, rfl, rfl, hG2, hM2, hC2⟩ := hp2
        have hJ2 := zJ_fm0 hJ1 hG2
        have hR2 := zRQ_0 hR (zT2_plain hJ hR.1.1 hZ1 hP1 hG2 hM2) hZ1 hG2
        have he := zT_chain hJ hR.1.1 hZ1 hC1 hC2
        refine r_pop X rfl dL_law_675 ?_
        refine r_goto X 1042 dL_law_676 (by decide) ?_
        first | exact zW.widen (by omega) (by omega) (zW.loc4 (by rfl) (by rfl) (by rfl) (by rfl) (J (by omega) _ _ _ _ _ hL2 hJ2 hR2)) | exact zW.widen (by omega) (by omega) (zW.loc4 (by rfl) (by rfl) (by rfl) (by rfl) (J (by omega) _ _ _ _ _ hL hJ2 hR2)) | exact zW.widen (by omega) (by omega) (zW.loc4 (by rfl) (by rfl) (by rfl) (by rfl) (J (by omega) _ _ _ _ _ hL hJ hR))
      · refine r_tableIn X (j0 := 15) 679 dL_law_32 hs rfl (by decide) (by decide) (by decide) ?_
        refine r_aload_n X (by rfl) dL_law_679 ?_
        refine r_aload_n X (by rfl) dL_law_680 ?_
        refine r_iload_n X (by rfl) dL_law_681 ?_
        refine r_iconst X 1 (by decide) dL_law_682 ?_
        refine r_iadd X dL_law_683 ?_
        refine r_sld X hSc dL_law_684 (zsci (k := 1) rfl (by omega) (by decide) hL0 (by omega)) ?_
        refine r_aload_n X (by rfl) dL_law_685 ?_
        refine r_iload_n X (by rfl) dL_law_686 ?_
        refine r_iconst X 2 (by decide) dL_law_687 ?_
        refine r_iadd X dL_law_688 ?_
        refine r_sld X hSc dL_law_689 (zsci (k := 2) rfl (by omega) (by decide) hL0 (by omega)) ?_
        refine r_aload_n X (by rfl) dL_law_690 ?_
        refine r_iload_n X (by rfl) dL_law_691 ?_
        refine r_iconst X 3 (by decide) dL_law_692 ?_
        refine r_iadd X dL_law_693 ?_
        refine r_sld X hSc dL_law_694 (zsci (k := 3) rfl (by omega) (by decide) hL0 (by omega)) ?_
        refine r_aload_n X (by rfl) dL_law_695 ?_
        refine r_iload_n X (by rfl) dL_law_696 ?_
        refine r_iconst X 4 (by decide) dL_law_697 ?_
        refine r_iadd X dL_law_698 ?_
        refine r_sld X hSc dL_law_699 (zsci (k := 4) rfl (by omega) (by decide) hL0 (by omega)) ?_
        refine r_callV X dL_law_700 zLV_L_79 zCd_X11_pairs (c_X11_pairs _ G _ τ ρ _ _ hL hJ zTq_ok hR.1.1.2.1 hR.1.1.1.1.2 _ _ _ _) (by first | exact zt hL1 0 rfl | exact zt hL 0 rfl) ⟨by decide, rfl, rfl⟩ rfl rfl ⟨⟨rfl, rfl⟩, ⟨by decide, by decide⟩, ⟨by show (_ : Nat) ≤ 600000; omega, by show (_ : Nat) ≤ 7302250; omega⟩, Nat.le_of_ble_eq_true rfl⟩ ?_
        intro v1 s1 hp1
        obtain ⟨r1, ι1, κ1, rfl, rfl, hZ1, hP1⟩ := hp1
        obtain ⟨hJ1, hL01, hM1⟩ := zT1_plain hJ hR.1.1 hZ1
        refine r_pop X rfl dL_law_703 ?_
        refine r_aload_n X (by rfl) dL_law_704 ?_
        refine r_aload_n X (by rfl) dL_law_705 ?_
        refine r_iload_n X (by rfl) dL_law_706 ?_
        refine r_iconst X 1 (by decide) dL_law_707 ?_
        refine r_iadd X dL_law_708 ?_
        refine r_sld X hSc dL_law_709 (zsci (k := 1) rfl (by omega) (by decide) hL0 (by omega)) ?_
        refine r_aload_n X (by rfl) dL_law_710 ?_
        refine r_iload_n X (by rfl) dL_law_711 ?_
        refine r_iconst X 2 (by decide) dL_law_712 ?_
        refine r_iadd X dL_law_713 ?_
        refine r_sld X hSc dL_law_714 (zsci (k := 2) rfl (by omega) (by decide) hL0 (by omega)) ?_
        refine r_aload_n X (by rfl) dL_law_715 ?_
        refine r_iload_n X (by rfl) dL_law_716 ?_
        refine r_iconst X 3 (by decide) dL_law_717 ?_
        refine r_iadd X dL_law_718 ?_
        refine r_sld X hSc dL_law_719 (zsci (k := 3) rfl (by omega) (by decide) hL0 (by omega)) ?_
        refine r_aload_n X (by rfl) dL_law_720 ?_
        refine r_iload_n X (by rfl) dL_law_721 ?_
        refine r_iconst X 4 (by decide) dL_law_722 ?_
        refine r_iadd X dL_law_723 ?_
        refine r_sld X hSc dL_law_724 (zsci (k := 4) rfl (by omega) (by decide) hL0 (by omega)) ?_
        refine r_callV X dL_law_725 zLV_L_82 zCd_X12_pairs (c_X12_pairs _ G _ τ ρ _ _ hL hL01 hM1 _ _ _ _) (by first | exact zt hL1 38 rfl | exact zt hL 38 rfl) ⟨by decide, rfl, rfl⟩ rfl rfl ⟨⟨rfl, rfl⟩, ⟨by decide, by decide⟩, ⟨by show (_ : Nat) ≤ 600000; omega, by show (_ : Nat) ≤ 7302250; omega⟩, Nat.le_of_ble_eq_true rfl⟩ ?_
        intro v2 s2 hp2
        obtain ⟨r2, ι2, κ2, rfl, rfl, hG2, hM2⟩ := hp2
        have hJ2 := zJ_fm0 hJ1 hG2
        have hR2 := zRQ_0 hR (zT2_plain hJ hR.1.1 hZ1 hP1 hG2 hM2) hZ1 hG2
        refine r_pop X rfl dL_law_728 ?_
        refine r_goto X 1042 dL_law_729 (by decide) ?_
        first | exact zW.widen (by omega) (by omega) (zW.loc4 (by rfl) (by rfl) (by rfl) (by rfl) (J (by omega) _ _ _ _ _ hL2 hJ2 hR2)) | exact zW.widen (by omega) (by omega) (zW.loc4 (by rfl) (by rfl) (by rfl) (by rfl) (J (by omega) _ _ _ _ _ hL hJ2 hR2)) | exact zW.widen (by omega) (by omega) (zW.loc4 (by rfl) (by rfl) (by rfl) (by rfl) (J (by omega) _ _ _ _ _ hL hJ hR))
      · refine r_tableIn X (j0 := 16) 732 dL_law_32 hs rfl (by decide) (by decide) (by decide) ?_
        refine r_aload_n X (by rfl) dL_law_732 ?_
        refine r_aload_n X (by rfl) dL_law_733 ?_
        refine r_iload_n X (by rfl) dL_law_734 ?_
        refine r_iconst X 1 (by decide) dL_law_735 ?_
        refine r_iadd X dL_law_736 ?_
        refine r_sld X hSc dL_law_737 (zsci (k := 1) rfl (by omega) (by decide) hL0 (by omega)) ?_
        refine r_aload_n X (by rfl) dL_law_738 ?_
        refine r_iload_n X (by rfl) dL_law_739 ?_
        refine r_iconst X 2 (by decide) dL_law_740 ?_
        refine r_iadd X dL_law_741 ?_
        refine r_sld X hSc dL_law_742 (zsci (k := 2) rfl (by omega) (by decide) hL0 (by omega)) ?_
        refine r_aload_n X (by rfl) dL_law_743 ?_
        refine r_iload_n X (by rfl) dL_law_744 ?_
        refine r_iconst X 3 (by decide) dL_law_745 ?_
        refine r_iadd X dL_law_746 ?_
        refine r_sld X hSc dL_law_747 (zsci (k := 3) rfl (by omega) (by decide) hL0 (by omega)) ?_
        refine r_callV X dL_law_748 zLV_L_83 zCd_X11_fewest (c_X11_fewest _ G _ τ ρ _ _ hL hJ _ _ _) (by first | exact zt hL1 0 rfl | exact zt hL 0 rfl) ⟨by decide, rfl, rfl⟩ rfl rfl ⟨⟨rfl, rfl⟩, ⟨by decide, by decide⟩, ⟨by show (_ : Nat) ≤ 600000; omega, by show (_ : Nat) ≤ 7302250; omega⟩, Nat.le_of_ble_eq_true rfl⟩ ?_
        intro v1 s1 hp1
        obtain ⟨r1, ι1, κ1, rfl, rfl, hJ1, hE1⟩ : ∃ r1 ι1 κ1, v1 = some (.int r1) ∧ s1 = (B + 63 + 7 * c, τ, ρ, ι1, κ1) ∧ zJ B c ι1 ∧ zEdp B ι ι1 := by
          obtain ⟨r, i1, k1, h1, h2, h3⟩ := hp1
          exact ⟨r, i1, k1, h1, h2, zJ_fc hJ h3, zEdp_q h3⟩
        refine r_pop X rfl dL_law_751 ?_
        refine r_aload_n X (by rfl) dL_law_752 ?_
        refine r_aload_n X (by rfl) dL_law_753 ?_
        refine r_iload_n X (by rfl) dL_law_754 ?_
        refine r_iconst X 1 (by decide) dL_law_755 ?_
        refine r_iadd X dL_law_756 ?_
        refine r_sld X hSc dL_law_757 (zsci (k := 1) rfl (by omega) (by decide) hL0 (by omega)) ?_
        refine r_aload_n X (by rfl) dL_law_758 ?_
        refine r_iload_n X (by rfl) dL_law_759 ?_
        refine r_iconst X 2 (by decide) dL_law_760 ?_
        refine r_iadd X dL_law_761 ?_
        refine r_sld X hSc dL_law_762 (zsci (k := 2) rfl (by omega) (by decide) hL0 (by omega)) ?_
        refine r_aload_n X (by rfl) dL_law_763 ?_
        refine r_iload_n X (by rfl) dL_law_764 ?_
        refine r_iconst X 3 (by decide) dL_law_765 ?_
        refine r_iadd X dL_law_766 ?_
        refine r_sld X hSc dL_law_767 (zsci (k := 3) rfl (by omega) (by decide) hL0 (by omega)) ?_
        refine r_callV X dL_law_768 zLV_L_86 zCd_X12_fewest (c_X12_fewest _ G _ τ ρ _ _ hL hJ1 _ _ _) (by first | exact zt hL1 38 rfl | exact zt hL 38 rfl) ⟨by decide, rfl, rfl⟩ rfl rfl ⟨⟨rfl, rfl⟩, ⟨by decide, by decide⟩, ⟨by show (_ : Nat) ≤ 600000; omega, by show (_ : Nat) ≤ 7302250; omega⟩, Nat.le_of_ble_eq_true rfl⟩ ?_
        intro v2 s2 hp2
        obtain ⟨r2, ι2, κ2, rfl, rfl, hJ2, hF2⟩ : ∃ r2 ι2 κ2, v2 = some (.int r2) ∧ s2 = (B + 63 + 7 * c, τ, ρ, ι2, κ2) ∧ zJ B c ι2 ∧ zFdp B c ι1 ι2 := by
          obtain ⟨r, i1, h1, h2, h3, -⟩ := hp2
          exact ⟨r, i1, _, h1, h2, zJ_fm hJ1 h3, zFdp_q h3⟩
        have hR2 := zRQ_q hJ hR hE1 hF2
        refine r_pop X rfl dL_law_771 ?_
        refine r_goto X 1042 dL_law_772 (by decide) ?_
        first | exact zW.widen (by omega) (by omega) (zW.loc4 (by rfl) (by rfl) (by rfl) (by rfl) (J (by omega) _ _ _ _ _ hL2 hJ2 hR2)) | exact zW.widen (by omega) (by omega) (zW.loc4 (by rfl) (by rfl) (by rfl) (by rfl) (J (by omega) _ _ _ _ _ hL hJ2 hR2)) | exact zW.widen (by omega) (by omega) (zW.loc4 (by rfl) (by rfl) (by rfl) (by rfl) (J (by omega) _ _ _ _ _ hL hJ hR))
      · refine r_tableIn X (j0 := 17) 775 dL_law_32 hs rfl (by decide) (by decide) (by decide) ?_
        refine r_aload_n X (by rfl) dL_law_775 ?_
        refine r_aload_n X (by rfl) dL_law_776 ?_
        refine r_iload_n X (by rfl) dL_law_777 ?_
        refine r_iconst X 1 (by decide) dL_law_778 ?_
        refine r_iadd X dL_law_779 ?_
        refine r_sld X hSc dL_law_780 (zsci (k := 1) rfl (by omega) (by decide) hL0 (by omega)) ?_
        refine r_aload_n X (by rfl) dL_law_781 ?_
        refine r_iload_n X (by rfl) dL_law_782 ?_
        refine r_iconst X 2 (by decide) dL_law_783 ?_
        refine r_iadd X dL_law_784 ?_
        refine r_sld X hSc dL_law_785 (zsci (k := 2) rfl (by omega) (by decide) hL0 (by omega)) ?_
        refine r_aload_n X (by rfl) dL_law_786 ?_
        refine r_iload_n X (by rfl) dL_law_787 ?_
        refine r_iconst X 3 (by decide) dL_law_788 ?_
        refine r_iadd X dL_law_789 ?_
        refine r_sld X hSc dL_law_790 (zsci (k := 3) rfl (by omega) (by decide) hL0 (by omega)) ?_
        refine r_aload_n X (by rfl) dL_law_791 ?_
        refine r_iload_n X (by rfl) dL_law_792 ?_
        refine r_iconst X 4 (by decide) dL_law_793 ?_
        refine r_iadd X dL_law_794 ?_
        refine r_sld X hSc dL_law_795 (zsci (k := 4) rfl (by omega) (by decide) hL0 (by omega)) ?_
        refine r_callV X dL_law_796 zLV_L_87 zCd_X11_setting (c_X11_setting _ G _ τ ρ _ _ hL hJ _ _ _ _) (by first | exact zt hL1 0 rfl | exact zt hL 0 rfl) ⟨by decide, rfl, rfl⟩ rfl rfl ⟨⟨rfl, rfl⟩, ⟨by decide, by decide⟩, ⟨by show (_ : Nat) ≤ 600000; omega, by show (_ : Nat) ≤ 7302250; omega⟩, Nat.le_of_ble_eq_true rfl⟩ ?_
        intro v1 s1 hp1
        obtain ⟨r1, ι1, κ1, rfl, rfl, hJ1, hE1⟩ : ∃ r1 ι1 κ1, v1 = some (.int r1) ∧ s1 = (B + 63 + 7 * c, τ, ρ, ι1, κ1) ∧ zJ B c ι1 ∧ zEdp B ι ι1 := by
          obtain ⟨r, i1, k1, h1, h2, h3⟩ := hp1
          exact ⟨r, i1, k1, h1, h2, zJ_fc hJ h3, zEdp_q h3⟩
        refine r_pop X rfl dL_law_799 ?_
        refine r_aload_n X (by rfl) dL_law_800 ?_
        refine r_aload_n X (by rfl) dL_law_801 ?_
        refine r_iload_n X (by rfl) dL_law_802 ?_
        refine r_iconst X 1 (by decide) dL_law_803 ?_
        refine r_iadd X dL_law_804 ?_
        refine r_sld X hSc dL_law_805 (zsci (k := 1) rfl (by omega) (by decide) hL0 (by omega)) ?_
        refine r_aload_n X (by rfl) dL_law_806 ?_
        refine r_iload_n X (by rfl) dL_law_807 ?_
        refine r_iconst X 2 (by decide) dL_law_808 ?_
        refine r_iadd X dL_law_809 ?_
        refine r_sld X hSc dL_law_810 (zsci (k := 2) rfl (by omega) (by decide) hL0 (by omega)) ?_
        refine r_aload_n X (by rfl) dL_law_811 ?_
        refine r_iload_n X (by rfl) dL_law_812 ?_
        refine r_iconst X 3 (by decide) dL_law_813 ?_
        refine r_iadd X dL_law_814 ?_
        refine r_sld X hSc dL_law_815 (zsci (k := 3) rfl (by omega) (by decide) hL0 (by omega)) ?_
        refine r_aload_n X (by rfl) dL_law_816 ?_
        refine r_iload_n X (by rfl) dL_law_817 ?_
        refine r_iconst X 4 (by decide) dL_law_818 ?_
        refine r_iadd X dL_law_819 ?_
        refine r_sld X hSc dL_law_820 (zsci (k := 4) rfl (by omega) (by decide) hL0 (by omega)) ?_
        refine r_callV X dL_law_821 zLV_L_90 zCd_X12_setting (c_X12_setting _ G _ τ ρ _ _ hL hJ1 _ _ _ _) (by first | exact zt hL1 38 rfl | exact zt hL 38 rfl) ⟨by decide, rfl, rfl⟩ rfl rfl ⟨⟨rfl, rfl⟩, ⟨by decide, by decide⟩, ⟨by show (_ : Nat) ≤ 600000; omega, by show (_ : Nat) ≤ 7302250; omega⟩, Nat.le_of_ble_eq_true rfl⟩ ?_
        intro v2 s2 hp2
        obtain ⟨r2, ι2, κ2, rfl, rfl, hJ2, hF2⟩ : ∃ r2 ι2 κ2, v2 = some (.int r2) ∧ s2 = (B + 63 + 7 * c, τ, ρ, ι2, κ2) ∧ zJ B c ι2 ∧ zFdp B c ι1 ι2 := by
          obtain ⟨r, i1, k1, h1, h2, h3⟩ := hp2
          exact ⟨r, i1, k1, h1, h2, zJ_fm hJ1 h3, zFdp_q h3⟩
        have hR2 := zRQ_q hJ hR hE1 hF2
        refine r_pop X rfl dL_law_824 ?_
        refine r_goto X 1042 dL_law_825 (by decide) ?_
        first | exact zW.widen (by omega) (by omega) (zW.loc4 (by rfl) (by rfl) (by rfl) (by rfl) (J (by omega) _ _ _ _ _ hL2 hJ2 hR2)) | exact zW.widen (by omega) (by omega) (zW.loc4 (by rfl) (by rfl) (by rfl) (by rfl) (J (by omega) _ _ _ _ _ hL hJ2 hR2)) | exact zW.widen (by omega) (by omega) (zW.loc4 (by rfl) (by rfl) (by rfl) (by rfl) (J (by omega) _ _ _ _ _ hL hJ hR))
      · refine r_tableIn X (j0 := 18) 828 dL_law_32 hs rfl (by decide) (by decide) (by decide) ?_
        refine r_aload_n X (by rfl) dL_law_828 ?_
        refine r_aload_n X (by rfl) dL_law_829 ?_
        refine r_iload_n X (by rfl) dL_law_830 ?_
        refine r_iconst X 1 (by decide) dL_law_831 ?_
        refine r_iadd X dL_law_832 ?_
        refine r_sld X hSc dL_law_833 (zsci (k := 1) rfl (by omega) (by decide) hL0 (by omega)) ?_
        refine r_aload_n X (by rfl) dL_law_834 ?_
        refine r_iload_n X (by rfl) dL_law_835 ?_
        refine r_iconst X 2 (by decide) dL_law_836 ?_
        refine r_iadd X dL_law_837 ?_
        refine r_sld X hSc dL_law_838 (zsci (k := 2) rfl (by omega) (by decide) hL0 (by omega)) ?_
        refine r_callV X dL_law_839 zLV_L_91 zCd_X11_cut (c_X11_cut _ G _ τ ρ _ _ hL hJ _ _) (by first | exact zt hL1 0 rfl | exact zt hL 0 rfl) ⟨by decide, rfl, rfl⟩ rfl rfl ⟨⟨rfl, rfl⟩, ⟨by decide, by decide⟩, ⟨by show (_ : Nat) ≤ 600000; omega, by show (_ : Nat) ≤ 7302250; omega⟩, Nat.le_of_ble_eq_true rfl⟩ ?_
        intro v1 s1 hp1
        obtain ⟨r1, ι1, rfl, rfl, hC1⟩ : ∃ r1 ι1, v1 = some (.int r1) ∧ s1 = (B + 63 + 7 * c, τ, ρ, ι1, κ) ∧ zD1_cut B ι ι1 (xs (i + 1).toNatClampNeg) (xs (i + 2).toNatClampNeg) r1 := by
          rcases hp1 with ⟨h0, h1, h2⟩ | ⟨h0, h3, h1, h2⟩ | ⟨h0, h3, h1, h2⟩
          · exact ⟨_, _, h1, h2, Or.inl ⟨h0, rfl, rfl⟩⟩
          · exact ⟨_, _, h1, h2, Or.inr (Or.inl ⟨h0, h3, rfl, rfl⟩)⟩
          · exact ⟨_, _, h1, h2, Or.inr (Or.inr ⟨h0, h3, rfl, rfl⟩)⟩
        have hJ1 := zT1_cut hJ hC1
        refine r_pop X rfl dL_law_842 ?_
        refine r_aload_n X (by rfl) dL_law_843 ?_
        refine r_aload_n X (by rfl) dL_law_844 ?_
        refine r_iload_n X (by rfl) dL_law_845 ?_
        refine r_iconst X 1 (by decide) dL_law_846 ?_
        refine r_iadd X dL_law_847 ?_
        refine r_sld X hSc dL_law_848 (zsci (k := 1) rfl (by omega) (by decide) hL0 (by omega)) ?_
        refine r_aload_n X (by rfl) dL_law_849 ?_
        refine r_iload_n X (by rfl) dL_law_850 ?_
        refine r_iconst X 2 (by decide) dL_law_851 ?_
        refine r_iadd X dL_law_852 ?_
        refine r_sld X hSc dL_law_853 (zsci (k := 2) rfl (by omega) (by decide) hL0 (by omega)) ?_
        refine r_callV X dL_law_854 zLV_L_94 zCd_X12_cut (c_X12_cut _ G _ τ ρ _ _ hL hJ1 _ _) (by first | exact zt hL1 38 rfl | exact zt hL 38 rfl) ⟨by decide, rfl, rfl⟩ rfl rfl ⟨⟨rfl, rfl⟩, ⟨by decide, by decide⟩, ⟨by show (_ : Nat) ≤ 600000; omega, by show (_ : Nat) ≤ 7302250; omega⟩, Nat.le_of_ble_eq_true rfl⟩ ?_
        intro v2 s2 hp2
        obtain ⟨r2, ι2, rfl, rfl, hC2⟩ : ∃ r2 ι2, v2 = some (.int r2) ∧ s2 = (B + 63 + 7 * c, τ, ρ, ι2, κ) ∧ zD2_cut B ι1 ι2 (xs (i + 1).toNatClampNeg) (xs (i + 2).toNatClampNeg) r2 := by
          rcases hp2 with ⟨h0, h1, h2⟩ | ⟨h0, h3, h1, h2⟩ | ⟨h0, h3, h1, h2⟩
          · exact ⟨_, _, h1, h2, Or.inl ⟨h0, rfl, rfl⟩⟩
          · exact ⟨_, _, h1, h2, Or.inr (Or.inl ⟨h0, h3, rfl, rfl⟩)⟩
          · exact ⟨_, _, h1, h2, Or.inr (Or.inr ⟨h0, h3, rfl, rfl⟩)⟩
        obtain ⟨hJ2, hR3, he⟩ := zT_cut hJ hR.1.1.1 hJ1 hC1 hC2
        have hR2 : zRQ B c ι2 := ⟨zSP_cut hR.1 ⟨hR3, zP_cut hR.1.1.2 hC1 hC2⟩ hC1 hC2, zU_cut hR.2 hC1 hC2⟩
        refine r_pop X rfl dL_law_857 ?_
        refine r_goto X 1042 dL_law_858 (by decide) ?_
        first | exact zW.widen (by omega) (by omega) (zW.loc4 (by rfl) (by rfl) (by rfl) (by rfl) (J (by omega) _ _ _ _ _ hL2 hJ2 hR2)) | exact zW.widen (by omega) (by omega) (zW.loc4 (by rfl) (by rfl) (by rfl) (by rfl) (J (by omega) _ _ _ _ _ hL hJ2 hR2)) | exact zW.widen (by omega) (by omega) (zW.loc4 (by rfl) (by rfl) (by rfl) (by rfl) (J (by omega) _ _ _ _ _ hL hJ hR))
      · refine r_tableIn X (j0 := 19) 861 dL_law_32 hs rfl (by decide) (by decide) (by decide) ?_
        refine r_aload_n X (by rfl) dL_law_861 ?_
        refine r_aload_n X (by rfl) dL_law_862 ?_
        refine r_iload_n X (by rfl) dL_law_863 ?_
        refine r_iconst X 1 (by decide) dL_law_864 ?_
        refine r_iadd X dL_law_865 ?_
        refine r_sld X hSc dL_law_866 (zsci (k := 1) rfl (by omega) (by decide) hL0 (by omega)) ?_
        refine r_callV X dL_law_867 zLV_L_95 zCd_X11_wipe (c_X11_wipe _ G _ τ ρ _ _ hL hJ _) (by first | exact zt hL1 0 rfl | exact zt hL 0 rfl) ⟨by decide, rfl, rfl⟩ rfl rfl ⟨⟨rfl, rfl⟩, ⟨by decide, by decide⟩, ⟨by show (_ : Nat) ≤ 600000; omega, by show (_ : Nat) ≤ 7302250; omega⟩, Nat.le_of_ble_eq_true rfl⟩ ?_
        intro v1 s1 hp1
        obtain ⟨r1, ι1, rfl, rfl, hC1⟩ : ∃ r1 ι1, v1 = some (.int r1) ∧ s1 = (B + 63 + 7 * c, τ, ρ, ι1, κ) ∧ zD1_wipe B ι ι1 (xs (i + 1).toNatClampNeg) r1 := by
          rcases hp1 with ⟨h0, h1, h2⟩ | ⟨h0, h1, h2⟩
          · exact ⟨_, _, h1, h2, Or.inl ⟨h0, rfl, rfl⟩⟩
          · exact ⟨_, _, h1, h2, Or.inr ⟨h0, rfl, rfl⟩⟩
        have hJ1 := zT1_wipe hJ hC1
        refine r_pop X rfl dL_law_870 ?_
        refine r_aload_n X (by rfl) dL_law_871 ?_
        refine r_aload_n X (by rfl) dL_law_872 ?_
        refine r_iload_n X (by rfl) dL_law_873 ?_
        refine r_iconst X 1 (by decide) dL_law_874 ?_
        refine r_iadd X dL_law_875 ?_
        refine r_sld X hSc dL_law_876 (zsci (k := 1) rfl (by omega) (by decide) hL0 (by omega)) ?_
        refine r_callV X dL_law_877 zLV_L_98 zCd_X12_wipe (c_X12_wipe _ G _ τ ρ _ _ hL hJ1 _) (by first | exact zt hL1 38 rfl | exact zt hL 38 rfl) ⟨by decide, rfl, rfl⟩ rfl rfl ⟨⟨rfl, rfl⟩, ⟨by decide, by decide⟩, ⟨by show (_ : Nat) ≤ 600000; omega, by show (_ : Nat) ≤ 7302250; omega⟩, Nat.le_of_ble_eq_true rfl⟩ ?_
        intro v2 s2 hp2
        obtain ⟨r2, ι2, rfl, rfl, hC2⟩ : ∃ r2 ι2, v2 = some (.int r2) ∧ s2 = (B + 63 + 7 * c, τ, ρ, ι2, κ) ∧ zD2_wipe B ι1 ι2 (xs (i + 1).toNatClampNeg) r2 := by
          rcases hp2 with ⟨h0, h1, h2⟩ | ⟨h0, h1, h2⟩
          · exact ⟨_, _, h1, h2, Or.inl ⟨h0, rfl, rfl⟩⟩
          · exact ⟨_, _, h1, h2, Or.inr ⟨h0, rfl, rfl⟩⟩
        obtain ⟨hJ2, hR3, he⟩ := zT_wipe hJ hR.1.1.1 hJ1 hC1 hC2
        have hR2 : zRQ B c ι2 := ⟨zSP_wipe hR.1 ⟨hR3, zP_wipe hR.1.1.2 hC1 hC2⟩ hC1 hC2, zU_wipe hR.2 hC1 hC2⟩
        refine r_pop X rfl dL_law_880 ?_
        refine r_goto X 1042 dL_law_881 (by decide) ?_
        first | exact zW.widen (by omega) (by omega) (zW.loc4 (by rfl) (by rfl) (by rfl) (by rfl) (J (by omega) _ _ _ _ _ hL2 hJ2 hR2)) | exact zW.widen (by omega) (by omega) (zW.loc4 (by rfl) (by rfl) (by rfl) (by rfl) (J (by omega) _ _ _ _ _ hL hJ2 hR2)) | exact zW.widen (by omega) (by omega) (zW.loc4 (by rfl) (by rfl) (by rfl) (by rfl) (J (by omega) _ _ _ _ _ hL hJ hR))
      · refine r_tableIn X (j0 := 20) 884 dL_law_32 hs rfl (by decide) (by decide) (by decide) ?_
        refine r_aload_n X (by rfl) dL_law_884 ?_
        refine r_aload_n X (by rfl) dL_law_885 ?_
        refine r_iload_n X (by rfl) dL_law_886 ?_
        refine r_iconst X 1 (by decide) dL_law_887 ?_
        refine r_iadd X dL_law_888 ?_
        refine r_sld X hSc dL_law_889 (zsci (k := 1) rfl (by omega) (by decide) hL0 (by omega)) ?_
        refine r_aload_n X (by rfl) dL_law_890 ?_
        refine r_iload_n X (by rfl) dL_law_891 ?_
        refine r_iconst X 2 (by decide) dL_law_892 ?_
        refine r_iadd X dL_law_893 ?_
        refine r_sld X hSc dL_law_894 (zsci (k := 2) rfl (by omega) (by decide) hL0 (by omega)) ?_
        refine r_aload_n X (by rfl) dL_law_895 ?_
        refine r_iload_n X (by rfl) dL_law_896 ?_
        refine r_iconst X 3 (by decide) dL_law_897 ?_
        refine r_iadd X dL_law_898 ?_
        refine r_sld X hSc dL_law_899 (zsci (k := 3) rfl (by omega) (by decide) hL0 (by omega)) ?_
        refine r_callV X dL_law_900 zLV_L_99 zCd_X11_chosen (c_X11_chosen _ G _ τ ρ _ _ hL hJ _ _ _) (by first | exact zt hL1 0 rfl | exact zt hL 0 rfl) ⟨by decide, rfl, rfl⟩ rfl rfl ⟨⟨rfl, rfl⟩, ⟨by decide, by decide⟩, ⟨by show (_ : Nat) ≤ 600000; omega, by show (_ : Nat) ≤ 7302250; omega⟩, Nat.le_of_ble_eq_true rfl⟩ ?_
        intro v1 s1 hp1
        obtain ⟨r1, ι1, κ1, rfl, rfl, hJ1, hE1⟩ : ∃ r1 ι1 κ1, v1 = some (.int r1) ∧ s1 = (B + 63 + 7 * c, τ, ρ, ι1, κ1) ∧ zJ B c ι1 ∧ zEdp B ι ι1 := by
          obtain ⟨r, h1, h2⟩ := hp1
          exact ⟨r, _, _, h1, h2, hJ, zEdp_s⟩
        refine r_pop X rfl dL_law_903 ?_
        refine r_aload_n X (by rfl) dL_law_904 ?_
        refine r_aload_n X (by rfl) dL_law_905 ?_
        refine r_iload_n X (by rfl) dL_law_906 ?_
        refine r_iconst X 1 (by decide) dL_law_907 ?_
        refine r_iadd X dL_law_908 ?_
        refine r_sld X hSc dL_law_909 (zsci (k := 1) rfl (by omega) (by decide) hL0 (by omega)) ?_
        refine r_aload_n X (by rfl) dL_law_910 ?_
        refine r_iload_n X (by rfl) dL_law_911 ?_
        refine r_iconst X 2 (by decide) dL_law_912 ?_
        refine r_iadd X dL_law_913 ?_
        refine r_sld X hSc dL_law_914 (zsci (k := 2) rfl (by omega) (by decide) hL0 (by omega)) ?_
        refine r_aload_n X (by rfl) dL_law_915 ?_
        refine r_iload_n X (by rfl) dL_law_916 ?_
        refine r_iconst X 3 (by decide) dL_law_917 ?_
        refine r_iadd X dL_law_918 ?_
        refine r_sld X hSc dL_law_919 (zsci (k := 3) rfl (by omega) (by decide) hL0 (by omega)) ?_
        refine r_callV X dL_law_920 zLV_L_102 zCd_X12_chosen (c_X12_chosen _ G _ τ ρ _ _ hL hJ1 _ _ _) (by first | exact zt hL1 38 rfl | exact zt hL 38 rfl) ⟨by decide, rfl, rfl⟩ rfl rfl ⟨⟨rfl, rfl⟩, ⟨by decide, by decide⟩, ⟨by show (_ : Nat) ≤ 600000; omega, by show (_ : Nat) ≤ 7302250; omega⟩, Nat.le_of_ble_eq_true rfl⟩ ?_
        intro v2 s2 hp2
        obtain ⟨r2, ι2, κ2, rfl, rfl, hJ2, hF2⟩ : ∃ r2 ι2 κ2, v2 = some (.int r2) ∧ s2 = (B + 63 + 7 * c, τ, ρ, ι2, κ2) ∧ zJ B c ι2 ∧ zFdp B c ι1 ι2 := by
          obtain ⟨r, h1, h2⟩ := hp2
          exact ⟨r, _, _, h1, h2, hJ1, zFdp_s⟩
        have hR2 := zRQ_q hJ hR hE1 hF2
        refine r_pop X rfl dL_law_923 ?_
        refine r_goto X 1042 dL_law_924 (by decide) ?_
        first | exact zW.widen (by omega) (by omega) (zW.loc4 (by rfl) (by rfl) (by rfl) (by rfl) (J (by omega) _ _ _ _ _ hL2 hJ2 hR2)) | exact zW.widen (by omega) (by omega) (zW.loc4 (by rfl) (by rfl) (by rfl) (by rfl) (J (by omega) _ _ _ _ _ hL hJ2 hR2)) | exact zW.widen (by omega) (by omega) (zW.loc4 (by rfl) (by rfl) (by rfl) (by rfl) (J (by omega) _ _ _ _ _ hL hJ hR))
      · refine r_tableIn X (j0 := 21) 927 dL_law_32 hs rfl (by decide) (by decide) (by decide) ?_
        refine r_aload_n X (by rfl) dL_law_927 ?_
        refine r_aload_n X (by rfl) dL_law_928 ?_
        refine r_iload_n X (by rfl) dL_law_929 ?_
        refine r_iconst X 1 (by decide) dL_law_930 ?_
        refine r_iadd X dL_law_931 ?_
        refine r_sld X hSc dL_law_932 (zsci (k := 1) rfl (by omega) (by decide) hL0 (by omega)) ?_
        refine r_callV X dL_law_933 zLV_L_103 zCd_X11_match (c_X11_match _ G _ τ ρ _ _ hL hJ _) (by first | exact zt hL1 0 rfl | exact zt hL 0 rfl) ⟨by decide, rfl, rfl⟩ rfl rfl ⟨⟨rfl, rfl⟩, ⟨by decide, by decide⟩, ⟨by show (_ : Nat) ≤ 600000; omega, by show (_ : Nat) ≤ 7302250; omega⟩, Nat.le_of_ble_eq_true rfl⟩ ?_
        intro v1 s1 hp1
        obtain ⟨r1, ι1, κ1, rfl, rfl, hJ1, hE1⟩ : ∃ r1 ι1 κ1, v1 = some (.int r1) ∧ s1 = (B + 63 + 7 * c, τ, ρ, ι1, κ1) ∧ zJ B c ι1 ∧ zEdp B ι ι1 := by
          obtain ⟨r, i1, k1, h1, h2, h3⟩ := hp1
          exact ⟨r, i1, k1, h1, h2, zJ_fc hJ h3, zEdp_q h3⟩
        refine r_pop X rfl dL_law_936 ?_
        refine r_aload_n X (by rfl) dL_law_937 ?_
        refine r_aload_n X (by rfl) dL_law_938 ?_
        refine r_iload_n X (by rfl) dL_law_939 ?_
        refine r_iconst X 1 (by decide) dL_law_940 ?_
        refine r_iadd X dL_law_941 ?_
        refine r_sld X hSc dL_law_942 (zsci (k := 1) rfl (by omega) (by decide) hL0 (by omega)) ?_
        refine r_callV X dL_law_943 zLV_L_106 zCd_X12_match (c_X12_match _ G _ τ ρ _ _ hL hJ1 _) (by first | exact zt hL1 38 rfl | exact zt hL 38 rfl) ⟨by decide, rfl, rfl⟩ rfl rfl ⟨⟨rfl, rfl⟩, ⟨by decide, by decide⟩, ⟨by show (_ : Nat) ≤ 600000; omega, by show (_ : Nat) ≤ 7302250; omega⟩, Nat.le_of_ble_eq_true rfl⟩ ?_
        intro v2 s2 hp2
        obtain ⟨r2, ι2, κ2, rfl, rfl, hJ2, hF2⟩ : ∃ r2 ι2 κ2, v2 = some (.int r2) ∧ s2 = (B + 63 + 7 * c, τ, ρ, ι2, κ2) ∧ zJ B c ι2 ∧ zFdp B c ι1 ι2 := by
          obtain ⟨r, h1, h2⟩ := hp2
          exact ⟨r, _, _, h1, h2, hJ1, zFdp_s⟩
        have hR2 := zRQ_q hJ hR hE1 hF2
        refine r_pop X rfl dL_law_946 ?_
        refine r_goto X 1042 dL_law_947 (by decide) ?_
        first | exact zW.widen (by omega) (by omega) (zW.loc4 (by rfl) (by rfl) (by rfl) (by rfl) (J (by omega) _ _ _ _ _ hL2 hJ2 hR2)) | exact zW.widen (by omega) (by omega) (zW.loc4 (by rfl) (by rfl) (by rfl) (by rfl) (J (by omega) _ _ _ _ _ hL hJ2 hR2)) | exact zW.widen (by omega) (by omega) (zW.loc4 (by rfl) (by rfl) (by rfl) (by rfl) (J (by omega) _ _ _ _ _ hL hJ hR))
      · refine r_tableIn X (j0 := 22) 950 dL_law_32 hs rfl (by decide) (by decide) (by decide) ?_
        refine r_aload_n X (by rfl) dL_law_950 ?_
        refine r_aload_n X (by rfl) dL_law_951 ?_
        refine r_iload_n X (by rfl) dL_law_952 ?_
        refine r_iconst X 1 (by decide) dL_law_953 ?_
        refine r_iadd X dL_law_954 ?_
        refine r_sld X hSc dL_law_955 (zsci (k := 1) rfl (by omega) (by decide) hL0 (by omega)) ?_
        refine r_aload_n X (by rfl) dL_law_956 ?_
        refine r_iload_n X (by rfl) dL_law_957 ?_
        refine r_iconst X 2 (by decide) dL_law_958 ?_
        refine r_iadd X dL_law_959 ?_
        refine r_sld X hSc dL_law_960 (zsci (k := 2) rfl (by omega) (by decide) hL0 (by omega)) ?_
        refine r_callV X dL_law_961 zLV_L_107 zCd_X11_law (c_X11_law _ G _ τ ρ _ _ hL hJ _ _) (by first | exact zt hL1 0 rfl | exact zt hL 0 rfl) ⟨by decide, rfl, rfl⟩ rfl rfl ⟨⟨rfl, rfl⟩, ⟨by decide, by decide⟩, ⟨by show (_ : Nat) ≤ 600000; omega, by show (_ : Nat) ≤ 7302250; omega⟩, Nat.le_of_ble_eq_true rfl⟩ ?_
        rintro v1 s1 ⟨rfl, rfl⟩
        refine r_pop X rfl dL_law_964 ?_
        refine r_aload_n X (by rfl) dL_law_965 ?_
        refine r_aload_n X (by rfl) dL_law_966 ?_
        refine r_iload_n X (by rfl) dL_law_967 ?_
        refine r_iconst X 1 (by decide) dL_law_968 ?_
        refine r_iadd X dL_law_969 ?_
        refine r_sld X hSc dL_law_970 (zsci (k := 1) rfl (by omega) (by decide) hL0 (by omega)) ?_
        refine r_aload_n X (by rfl) dL_law_971 ?_
        refine r_iload_n X (by rfl) dL_law_972 ?_
        refine r_iconst X 2 (by decide) dL_law_973 ?_
        refine r_iadd X dL_law_974 ?_
        refine r_sld X hSc dL_law_975 (zsci (k := 2) rfl (by omega) (by decide) hL0 (by omega)) ?_
        refine r_callV X dL_law_976 zLV_L_110 zCd_X12_law (c_X12_law _ G _ τ ρ _ _ hL _ _) (by first | exact zt hL1 38 rfl | exact zt hL 38 rfl) ⟨by decide, rfl, rfl⟩ rfl rfl ⟨⟨rfl, rfl⟩, ⟨by decide, by decide⟩, ⟨by show (_ : Nat) ≤ 600000; omega, by show (_ : Nat) ≤ 7302250; omega⟩, Nat.le_of_ble_eq_true rfl⟩ ?_
        rintro v2 s2 ⟨rfl, rfl⟩
        have hJ2 := hJ
        have hR2 := hR
        have he := zT_law hR.1.1.1 (xs (i + 1).toNatClampNeg) (xs (i + 2).toNatClampNeg)
        refine r_pop X rfl dL_law_979 ?_
        refine r_goto X 1042 dL_law_980 (by decide) ?_
        first | exact zW.widen (by omega) (by omega) (zW.loc4 (by rfl) (by rfl) (by rfl) (by rfl) (J (by omega) _ _ _ _ _ hL2 hJ2 hR2)) | exact zW.widen (by omega) (by omega) (zW.loc4 (by rfl) (by rfl) (by rfl) (by rfl) (J (by omega) _ _ _ _ _ hL hJ2 hR2)) | exact zW.widen (by omega) (by omega) (zW.loc4 (by rfl) (by rfl) (by rfl) (by rfl) (J (by omega) _ _ _ _ _ hL hJ hR))
      · refine r_tableIn X (j0 := 23) 983 dL_law_32 hs rfl (by decide) (by decide) (by decide) ?_
        refine r_aload_n X (by rfl) dL_law_983 ?_
        refine r_aload_n X (by rfl) dL_law_984 ?_
        refine r_iload_n X (by rfl) dL_law_985 ?_
        refine r_iconst X 1 (by decide) dL_law_986 ?_
        refine r_iadd X dL_law_987 ?_
        refine r_sld X hSc dL_law_988 (zsci (k := 1) rfl (by omega) (by decide) hL0 (by omega)) ?_
        refine r_callV X dL_law_989 zLV_L_111 zCd_X11_doubled (c_X11_doubled _ G _ τ ρ _ _ hL hJ _) (by first | exact zt hL1 0 rfl | exact zt hL 0 rfl) ⟨by decide, rfl, rfl⟩ rfl rfl ⟨⟨rfl, rfl⟩, ⟨by decide, by decide⟩, ⟨by show (_ : Nat) ≤ 600000; omega, by show (_ : Nat) ≤ 7302250; omega⟩, Nat.le_of_ble_eq_true rfl⟩ ?_
        intro v1 s1 hp1
        obtain ⟨r1, ι1, κ1, rfl, rfl, hJ1, hE1⟩ : ∃ r1 ι1 κ1, v1 = some (.int r1) ∧ s1 = (B + 63 + 7 * c, τ, ρ, ι1, κ1) ∧ zJ B c ι1 ∧ zEdp B ι ι1 := by
          obtain ⟨r, i1, k1, h1, h2, h3⟩ := hp1
          exact ⟨r, i1, k1, h1, h2, zJ_fc hJ h3, zEdp_q h3⟩
        refine r_pop X rfl dL_law_992 ?_
        refine r_aload_n X (by rfl) dL_law_993 ?_
        refine r_aload_n X (by rfl) dL_law_994 ?_
        refine r_iload_n X (by rfl) dL_law_995 ?_
        refine r_iconst X 1 (by decide) dL_law_996 ?_
        refine r_iadd X dL_law_997 ?_
        refine r_sld X hSc dL_law_998 (zsci (k := 1) rfl (by omega) (by decide) hL0 (by omega)) ?_
        refine r_callV X dL_law_999 zLV_L_114 zCd_X12_doubled (c_X12_doubled _ G _ τ ρ _ _ hL _) (by first | exact zt hL1 38 rfl | exact zt hL 38 rfl) ⟨by decide, rfl, rfl⟩ rfl rfl ⟨⟨rfl, rfl⟩, ⟨by decide, by decide⟩, ⟨by show (_ : Nat) ≤ 600000; omega, by show (_ : Nat) ≤ 7302250; omega⟩, Nat.le_of_ble_eq_true rfl⟩ ?_
        intro v2 s2 hp2
        obtain ⟨r2, ι2, κ2, rfl, rfl, hJ2, hF2⟩ : ∃ r2 ι2 κ2, v2 = some (.int r2) ∧ s2 = (B + 63 + 7 * c, τ, ρ, ι2, κ2) ∧ zJ B c ι2 ∧ zFdp B c ι1 ι2 := by
          obtain ⟨r, i1, k1, h1, h2, h3⟩ := hp2
          exact ⟨r, i1, k1, h1, h2, zJ_fm hJ1 h3, zFdp_q h3⟩
        have hR2 := zRQ_q hJ hR hE1 hF2
        refine r_pop X rfl dL_law_1002 ?_
        refine r_goto X 1042 dL_law_1003 (by decide) ?_
        first | exact zW.widen (by omega) (by omega) (zW.loc4 (by rfl) (by rfl) (by rfl) (by rfl) (J (by omega) _ _ _ _ _ hL2 hJ2 hR2)) | exact zW.widen (by omega) (by omega) (zW.loc4 (by rfl) (by rfl) (by rfl) (by rfl) (J (by omega) _ _ _ _ _ hL hJ2 hR2)) | exact zW.widen (by omega) (by omega) (zW.loc4 (by rfl) (by rfl) (by rfl) (by rfl) (J (by omega) _ _ _ _ _ hL hJ hR))
      · refine r_tableIn X (j0 := 24) 1006 dL_law_32 hs rfl (by decide) (by decide) (by decide) ?_
        refine r_aload_n X (by rfl) dL_law_1006 ?_
        refine r_aload_n X (by rfl) dL_law_1007 ?_
        refine r_iload_n X (by rfl) dL_law_1008 ?_
        refine r_iconst X 1 (by decide) dL_law_1009 ?_
        refine r_iadd X dL_law_1010 ?_
        refine r_sld X hSc dL_law_1011 (zsci (k := 1) rfl (by omega) (by decide) hL0 (by omega)) ?_
        refine r_callV X dL_law_1012 zLV_L_115 zCd_X11_count (e_X11_count _ G _ τ ρ _ _ hL hJ _) (by first | exact zt hL1 0 rfl | exact zt hL 0 rfl) ⟨by decide, rfl, rfl⟩ rfl rfl ⟨⟨rfl, rfl⟩, ⟨by decide, by decide⟩, ⟨by show (_ : Nat) ≤ 600000; omega, by show (_ : Nat) ≤ 7302250; omega⟩, Nat.le_of_ble_eq_true rfl⟩ ?_
        rintro _ _ ⟨r1, rfl, rfl, hC1⟩
        refine r_pop X rfl dL_law_1015 ?_
        refine r_aload_n X (by rfl) dL_law_1016 ?_
        refine r_aload_n X (by rfl) dL_law_1017 ?_
        refine r_iload_n X (by rfl) dL_law_1018 ?_
        refine r_iconst X 1 (by decide) dL_law_1019 ?_
        refine r_iadd X dL_law_1020 ?_
        refine r_sld X hSc dL_law_1021 (zsci (k := 1) rfl (by omega) (by decide) hL0 (by omega)) ?_
        refine r_callV X dL_law_1022 zLV_L_118 zCd_X12_count (e2_X12_count _ G _ τ ρ _ _ hL hJ _) (by first | exact zt hL1 38 rfl | exact zt hL 38 rfl) ⟨by decide, rfl, rfl⟩ rfl rfl ⟨⟨rfl, rfl⟩, ⟨by decide, by decide⟩, ⟨by show (_ : Nat) ≤ 600000; omega, by show (_ : Nat) ≤ 7302250; omega⟩, Nat.le_of_ble_eq_true rfl⟩ ?_
        rintro _ _ ⟨r2, rfl, rfl, hC2⟩
        have hJ2 := hJ
        have hR2 := hR
        have he := zT_count hJ hR.1 hC1 hC2
        refine r_pop X rfl dL_law_1025 ?_
        refine r_goto X 1042 dL_law_1026 (by decide) ?_
        first | exact zW.widen (by omega) (by omega) (zW.loc4 (by rfl) (by rfl) (by rfl) (by rfl) (J (by omega) _ _ _ _ _ hL2 hJ2 hR2)) | exact zW.widen (by omega) (by omega) (zW.loc4 (by rfl) (by rfl) (by rfl) (by rfl) (J (by omega) _ _ _ _ _ hL hJ2 hR2)) | exact zW.widen (by omega) (by omega) (zW.loc4 (by rfl) (by rfl) (by rfl) (by rfl) (J (by omega) _ _ _ _ _ hL hJ hR))
      · refine r_tableIn X (j0 := 25) 1029 dL_law_32 hs rfl (by decide) (by decide) (by decide) ?_
        refine r_aload_n X (by rfl) dL_law_1029 ?_
        refine r_callV X dL_law_1030 zLV_L_119 zCd_X11_digest (c_X11_digest _ G _ τ ρ _ _ hL hJ) (by first | exact zt hL1 0 rfl | exact zt hL 0 rfl) ⟨by decide, rfl, rfl⟩ rfl rfl ⟨⟨rfl, rfl⟩, ⟨by decide, by decide⟩, ⟨by show (_ : Nat) ≤ 600000; omega, by show (_ : Nat) ≤ 7302250; omega⟩, Nat.le_of_ble_eq_true rfl⟩ ?_
        intro v1 s1 hp1
        obtain ⟨r1, ι1, κ1, rfl, rfl, hJ1, hE1⟩ : ∃ r1 ι1 κ1, v1 = some (.long r1) ∧ s1 = (B + 63 + 7 * c, τ, ρ, ι1, κ1) ∧ zJ B c ι1 ∧ zEdp B ι ι1 := by
          obtain ⟨r, k1, h1, h2⟩ := hp1
          exact ⟨r, _, k1, h1, h2, hJ, zEdp_s⟩
        obtain ⟨hst1, hM1⟩ := zPsM_1 hR.1 hE1
        refine r_pop2 X rfl dL_law_1033 ?_
        refine r_aload_n X (by rfl) dL_law_1034 ?_
        refine r_callV X dL_law_1035 zLV_L_123 zCd_X12_digest (e2_X12_digest _ G _ τ ρ _ _ hL hJ1 hst1 hM1) (by first | exact zt hL1 38 rfl | exact zt hL 38 rfl) ⟨by decide, rfl, rfl⟩ rfl rfl ⟨⟨rfl, rfl⟩, ⟨by decide, by decide⟩, ⟨by show (_ : Nat) ≤ 600000; omega, by show (_ : Nat) ≤ 7302250; omega⟩, Nat.le_of_ble_eq_true rfl⟩ ?_
        intro v2 s2 hp2
        obtain ⟨r2, ι2, κ2, rfl, rfl, hJ2, hF2⟩ : ∃ r2 ι2 κ2, v2 = some (.long r2) ∧ s2 = (B + 63 + 7 * c, τ, ρ, ι2, κ2) ∧ zJ B c ι2 ∧ zFdp B c ι1 ι2 := by
          obtain ⟨r, i1, k1, h1, h2, h3, h4⟩ := hp2
          exact ⟨r, i1, k1, h1, h2, zJ_fq hJ1 h3, Or.inr ⟨h3, h4⟩⟩
        have hR2 := zRQ_q hJ hR hE1 hF2
        refine r_pop2 X rfl dL_law_1038 ?_
        refine r_goto X 1042 dL_law_1039 (by decide) ?_
        first | exact zW.widen (by omega) (by omega) (zW.loc4 (by rfl) (by rfl) (by rfl) (by rfl) (J (by omega) _ _ _ _ _ hL2 hJ2 hR2)) | exact zW.widen (by omega) (by omega) (zW.loc4 (by rfl) (by rfl) (by rfl) (by rfl) (J (by omega) _ _ _ _ _ hL hJ2 hR2)) | exact zW.widen (by omega) (by omega) (zW.loc4 (by rfl) (by rfl) (by rfl) (by rfl) (J (by omega) _ _ _ _ _ hL hJ hR))
      · refine r_tableOut X 1042 dL_law_32 hs (by decide) ?_
        first | exact zW.widen (by omega) (by omega) (zW.loc4 (by rfl) (by rfl) (by rfl) (by rfl) (J (by omega) _ _ _ _ _ hL2 hJ2 hR2)) | exact zW.widen (by omega) (by omega) (zW.loc4 (by rfl) (by rfl) (by rfl) (by rfl) (J (by omega) _ _ _ _ _ hL hJ2 hR2)) | exact zW.widen (by omega) (by omega) (zW.loc4 (by rfl) (by rfl) (by rfl) (by rfl) (J (by omega) _ _ _ _ _ hL hJ hR))
  exact L18
