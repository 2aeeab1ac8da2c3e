/-! THE CLAIM OUT OF ONE WALK OF THE LAW'S BODY. Your part is whole_start (and what it stands on); all else here is the same for every law, but numbers. -/
def R_law : String := "WindingRasterLaw"
def lw_P (b : Addr) (xs : List Int32) (args : Array Value) (s : State) : Prop := args = #[.ref b] ∧ s.IntsAt b xs ∧ xs.length ≤ 1538 ∧ (Jvm.Cond.and given_1 narrow_1).before args s = true
def lw_Q (_ : Array Value) (s : State) (o : Outcome) (t : State) : Prop := o = .returned (some (.int 1)) ∧ Framed s o t [] 600000 7302250
def lw_Z (below : List Frame) (a : Array Value) (s : State) : State → Prop := fun t => ∃ o, t.status = .running ∧ Ended t below o ∧ lw_Q a s o t
/-- the law's own end, with 1 on the stack, nothing written that was there before, its room as the claim has it -/
theorem lw_ret {p : Program} {l : Launch} {e : Env} {s : State} {m : MethodId} {below : List Frame} {meth : Method} {c : Code} {b : Nat} (hx : p.tables.exec = Jvm.exec) (hb : c.code = code) (hr : meth.sig.returnType = ret) (hlocks : meth.locks = false) {pc : Nat} {H : Heap} {ls : Array Slot} (hdg : decode code pc = .ok (.ireturn, 1)) : W p l e room_1 s m #[Value.ref b] below meth c H [] 600000 7302250 (lw_Z below #[Value.ref b] s) (F0 m pc ls [.int 1]) := by
  intro T hT X
  obtain ⟨fs, hret, hrun, hended, hW, hframe⟩ := X.leave (v := some (.int 1)) (hlocks := hlocks) (fun h => by rw [hr] at h; cases h)
  have hmeth' : T.vm.method? m = some meth := X.method'
  refine ⟨T.setFrames fs, ?_, .returned (some (.int 1)), hrun, hended, rfl, ⟨_, rfl⟩, hW, hframe⟩
  jvm_step X.here [X.here.top, hx, hb, hdg, hmeth', hr, ret, narrow_b1]
  (try refine ⟨rfl, ?_⟩); (try refine ⟨rfl, ?_⟩)
  first | (intro acts; rw [hret _ acts rfl rfl rfl]) | rw [hret _ _ rfl rfl rfl]
  exact Steps.refl _
/-- what holds at the law's entry: the machine, the code, the tables' words (any of lw_tbl by 'hts w (by decide +kernel)'), the script of L ints xs at the cell b, what the Statement gives of the start (any of its parts by flat_of_before) -/
def lw_At (p : Program) (s : State) (m : MethodId) (meth : Method) (c : Code) (b L : Nat) (xs : Nat → Int32) : Prop :=
  p.tables.exec = Jvm.exec ∧ c.code = code ∧ meth.sig.returnType = ret ∧ c.maxLocals = 4 ∧ s.vm.findClass R_law = some m.cls ∧ (∀ w ∈ lw_tbl, w.before #[Value.ref b] s = true) ∧ va_X b L xs s s.heap ∧ b < s.heap.size ∧ meth.locks = false ∧ (Jvm.Cond.and given_1 narrow_1).before #[Value.ref b] s = true
theorem dLW_cell_0 : decode bLW_cell 0 = .ok (.iload_n 1, 1) := by decide +kernel
theorem dLW_cell_1 : decode bLW_cell 1 = .ok (.aload_n 0, 1) := by decide +kernel
theorem dLW_cell_2 : decode bLW_cell 2 = .ok (.arraylength, 1) := by decide +kernel
theorem dLW_cell_3 : decode bLW_cell 3 = .ok (.if_icmp .ge (9), 3) := by decide +kernel
theorem dLW_cell_6 : decode bLW_cell 6 = .ok (.aload_n 0, 1) := by decide +kernel
theorem dLW_cell_7 : decode bLW_cell 7 = .ok (.iload_n 1, 1) := by decide +kernel
theorem dLW_cell_8 : decode bLW_cell 8 = .ok (.iaload, 1) := by decide +kernel
theorem dLW_cell_9 : decode bLW_cell 9 = .ok (.goto (4), 3) := by decide +kernel
theorem dLW_cell_12 : decode bLW_cell 12 = .ok (.iconst 0, 1) := by decide +kernel
theorem dLW_cell_13 : decode bLW_cell 13 = .ok (.ireturn, 1) := by decide +kernel
theorem dLW_law_0 : decode code 0 = .ok (.new 7, 3) := by decide +kernel
theorem dLW_law_3 : decode code 3 = .ok (.dup, 1) := by decide +kernel
theorem dLW_law_4 : decode code 4 = .ok (.aload_n 0, 1) := by decide +kernel
theorem dLW_law_5 : decode code 5 = .ok (.iconst 0, 1) := by decide +kernel
theorem dLW_law_6 : decode code 6 = .ok (.invokestatic 9, 3) := by decide +kernel
theorem dLW_law_9 : decode code 9 = .ok (.aload_n 0, 1) := by decide +kernel
theorem dLW_law_10 : decode code 10 = .ok (.iconst 1, 1) := by decide +kernel
theorem dLW_law_11 : decode code 11 = .ok (.invokestatic 9, 3) := by decide +kernel
theorem dLW_law_14 : decode code 14 = .ok (.invokespecial 15, 3) := by decide +kernel
theorem dLW_law_17 : decode code 17 = .ok (.astore_n 1, 1) := by decide +kernel
theorem dLW_law_18 : decode code 18 = .ok (.new 18, 3) := by decide +kernel
theorem dLW_law_21 : decode code 21 = .ok (.dup, 1) := by decide +kernel
theorem dLW_law_22 : decode code 22 = .ok (.aload_n 0, 1) := by decide +kernel
theorem dLW_law_23 : decode code 23 = .ok (.iconst 0, 1) := by decide +kernel
theorem dLW_law_24 : decode code 24 = .ok (.invokestatic 9, 3) := by decide +kernel
theorem dLW_law_27 : decode code 27 = .ok (.aload_n 0, 1) := by decide +kernel
theorem dLW_law_28 : decode code 28 = .ok (.iconst 1, 1) := by decide +kernel
theorem dLW_law_29 : decode code 29 = .ok (.invokestatic 9, 3) := by decide +kernel
theorem dLW_law_32 : decode code 32 = .ok (.invokespecial 20, 3) := by decide +kernel
theorem dLW_law_35 : decode code 35 = .ok (.astore_n 2, 1) := by decide +kernel
theorem dLW_law_36 : decode code 36 = .ok (.iconst 2, 1) := by decide +kernel
theorem dLW_law_37 : decode code 37 = .ok (.istore_n 3, 1) := by decide +kernel
theorem dLW_law_38 : decode code 38 = .ok (.iload_n 3, 1) := by decide +kernel
theorem dLW_law_39 : decode code 39 = .ok (.aload_n 0, 1) := by decide +kernel
theorem dLW_law_40 : decode code 40 = .ok (.arraylength, 1) := by decide +kernel
theorem dLW_law_41 : decode code 41 = .ok (.iconst 3, 1) := by decide +kernel
theorem dLW_law_42 : decode code 42 = .ok (.isub, 1) := by decide +kernel
theorem dLW_law_43 : decode code 43 = .ok (.if_icmp .gt (463), 3) := by decide +kernel
theorem dLW_law_46 : decode code 46 = .ok (.aload_n 0, 1) := by decide +kernel
theorem dLW_law_47 : decode code 47 = .ok (.iload_n 3, 1) := by decide +kernel
theorem dLW_law_48 : decode code 48 = .ok (.iaload, 1) := by decide +kernel
theorem dLW_law_49 : decode code 49 = .ok (.bipush (15), 2) := by decide +kernel
theorem dLW_law_51 : decode code 51 = .ok (.iand, 1) := by decide +kernel
theorem dLW_law_52 : decode code 52 = .ok (.tableswitch (448) (0) (15) #[(80), (93), (106), (139), (172), (185), (218), (251), (274), (287), (300), (333), (366), (379), (392), (425)], 80) := by decide +kernel
theorem dLW_law_132 : decode code 132 = .ok (.aload_n 1, 1) := by decide +kernel
theorem dLW_law_133 : decode code 133 = .ok (.invokevirtual 21, 3) := by decide +kernel
theorem dLW_law_136 : decode code 136 = .ok (.aload_n 2, 1) := by decide +kernel
theorem dLW_law_137 : decode code 137 = .ok (.invokevirtual 25, 3) := by decide +kernel
theorem dLW_law_140 : decode code 140 = .ok (.if_icmp .eq (360), 3) := by decide +kernel
theorem dLW_law_143 : decode code 143 = .ok (.iconst 0, 1) := by decide +kernel
theorem dLW_law_144 : decode code 144 = .ok (.ireturn, 1) := by decide +kernel
theorem dLW_law_145 : decode code 145 = .ok (.aload_n 1, 1) := by decide +kernel
theorem dLW_law_146 : decode code 146 = .ok (.invokevirtual 26, 3) := by decide +kernel
theorem dLW_law_149 : decode code 149 = .ok (.aload_n 2, 1) := by decide +kernel
theorem dLW_law_150 : decode code 150 = .ok (.invokevirtual 29, 3) := by decide +kernel
theorem dLW_law_153 : decode code 153 = .ok (.if_icmp .eq (347), 3) := by decide +kernel
theorem dLW_law_156 : decode code 156 = .ok (.iconst 0, 1) := by decide +kernel
theorem dLW_law_157 : decode code 157 = .ok (.ireturn, 1) := by decide +kernel
theorem dLW_law_158 : decode code 158 = .ok (.aload_n 1, 1) := by decide +kernel
theorem dLW_law_159 : decode code 159 = .ok (.aload_n 0, 1) := by decide +kernel
theorem dLW_law_160 : decode code 160 = .ok (.iload_n 3, 1) := by decide +kernel
theorem dLW_law_161 : decode code 161 = .ok (.iconst 1, 1) := by decide +kernel
theorem dLW_law_162 : decode code 162 = .ok (.iadd, 1) := by decide +kernel
theorem dLW_law_163 : decode code 163 = .ok (.iaload, 1) := by decide +kernel
theorem dLW_law_164 : decode code 164 = .ok (.aload_n 0, 1) := by decide +kernel
theorem dLW_law_165 : decode code 165 = .ok (.iload_n 3, 1) := by decide +kernel
theorem dLW_law_166 : decode code 166 = .ok (.iconst 2, 1) := by decide +kernel
theorem dLW_law_167 : decode code 167 = .ok (.iadd, 1) := by decide +kernel
theorem dLW_law_168 : decode code 168 = .ok (.iaload, 1) := by decide +kernel
theorem dLW_law_169 : decode code 169 = .ok (.invokevirtual 30, 3) := by decide +kernel
theorem dLW_law_172 : decode code 172 = .ok (.aload_n 2, 1) := by decide +kernel
theorem dLW_law_173 : decode code 173 = .ok (.aload_n 0, 1) := by decide +kernel
theorem dLW_law_174 : decode code 174 = .ok (.iload_n 3, 1) := by decide +kernel
theorem dLW_law_175 : decode code 175 = .ok (.iconst 1, 1) := by decide +kernel
theorem dLW_law_176 : decode code 176 = .ok (.iadd, 1) := by decide +kernel
theorem dLW_law_177 : decode code 177 = .ok (.iaload, 1) := by decide +kernel
theorem dLW_law_178 : decode code 178 = .ok (.aload_n 0, 1) := by decide +kernel
theorem dLW_law_179 : decode code 179 = .ok (.iload_n 3, 1) := by decide +kernel
theorem dLW_law_180 : decode code 180 = .ok (.iconst 2, 1) := by decide +kernel
theorem dLW_law_181 : decode code 181 = .ok (.iadd, 1) := by decide +kernel
theorem dLW_law_182 : decode code 182 = .ok (.iaload, 1) := by decide +kernel
theorem dLW_law_183 : decode code 183 = .ok (.invokevirtual 34, 3) := by decide +kernel
theorem dLW_law_186 : decode code 186 = .ok (.if_icmp .eq (314), 3) := by decide +kernel
theorem dLW_law_189 : decode code 189 = .ok (.iconst 0, 1) := by decide +kernel
theorem dLW_law_190 : decode code 190 = .ok (.ireturn, 1) := by decide +kernel
theorem dLW_law_191 : decode code 191 = .ok (.aload_n 1, 1) := by decide +kernel
theorem dLW_law_192 : decode code 192 = .ok (.aload_n 0, 1) := by decide +kernel
theorem dLW_law_193 : decode code 193 = .ok (.iload_n 3, 1) := by decide +kernel
theorem dLW_law_194 : decode code 194 = .ok (.iconst 1, 1) := by decide +kernel
theorem dLW_law_195 : decode code 195 = .ok (.iadd, 1) := by decide +kernel
theorem dLW_law_196 : decode code 196 = .ok (.iaload, 1) := by decide +kernel
theorem dLW_law_197 : decode code 197 = .ok (.aload_n 0, 1) := by decide +kernel
theorem dLW_law_198 : decode code 198 = .ok (.iload_n 3, 1) := by decide +kernel
theorem dLW_law_199 : decode code 199 = .ok (.iconst 2, 1) := by decide +kernel
theorem dLW_law_200 : decode code 200 = .ok (.iadd, 1) := by decide +kernel
theorem dLW_law_201 : decode code 201 = .ok (.iaload, 1) := by decide +kernel
theorem dLW_law_202 : decode code 202 = .ok (.invokevirtual 35, 3) := by decide +kernel
theorem dLW_law_205 : decode code 205 = .ok (.aload_n 2, 1) := by decide +kernel
theorem dLW_law_206 : decode code 206 = .ok (.aload_n 0, 1) := by decide +kernel
theorem dLW_law_207 : decode code 207 = .ok (.iload_n 3, 1) := by decide +kernel
theorem dLW_law_208 : decode code 208 = .ok (.iconst 1, 1) := by decide +kernel
theorem dLW_law_209 : decode code 209 = .ok (.iadd, 1) := by decide +kernel
theorem dLW_law_210 : decode code 210 = .ok (.iaload, 1) := by decide +kernel
theorem dLW_law_211 : decode code 211 = .ok (.aload_n 0, 1) := by decide +kernel
theorem dLW_law_212 : decode code 212 = .ok (.iload_n 3, 1) := by decide +kernel
theorem dLW_law_213 : decode code 213 = .ok (.iconst 2, 1) := by decide +kernel
theorem dLW_law_214 : decode code 214 = .ok (.iadd, 1) := by decide +kernel
theorem dLW_law_215 : decode code 215 = .ok (.iaload, 1) := by decide +kernel
theorem dLW_law_216 : decode code 216 = .ok (.invokevirtual 38, 3) := by decide +kernel
theorem dLW_law_219 : decode code 219 = .ok (.if_icmp .eq (281), 3) := by decide +kernel
theorem dLW_law_222 : decode code 222 = .ok (.iconst 0, 1) := by decide +kernel
theorem dLW_law_223 : decode code 223 = .ok (.ireturn, 1) := by decide +kernel
theorem dLW_law_224 : decode code 224 = .ok (.aload_n 1, 1) := by decide +kernel
theorem dLW_law_225 : decode code 225 = .ok (.invokevirtual 39, 3) := by decide +kernel
theorem dLW_law_228 : decode code 228 = .ok (.aload_n 2, 1) := by decide +kernel
theorem dLW_law_229 : decode code 229 = .ok (.invokevirtual 42, 3) := by decide +kernel
theorem dLW_law_232 : decode code 232 = .ok (.if_icmp .eq (268), 3) := by decide +kernel
theorem dLW_law_235 : decode code 235 = .ok (.iconst 0, 1) := by decide +kernel
theorem dLW_law_236 : decode code 236 = .ok (.ireturn, 1) := by decide +kernel
theorem dLW_law_237 : decode code 237 = .ok (.aload_n 1, 1) := by decide +kernel
theorem dLW_law_238 : decode code 238 = .ok (.aload_n 0, 1) := by decide +kernel
theorem dLW_law_239 : decode code 239 = .ok (.iload_n 3, 1) := by decide +kernel
theorem dLW_law_240 : decode code 240 = .ok (.iconst 1, 1) := by decide +kernel
theorem dLW_law_241 : decode code 241 = .ok (.iadd, 1) := by decide +kernel
theorem dLW_law_242 : decode code 242 = .ok (.iaload, 1) := by decide +kernel
theorem dLW_law_243 : decode code 243 = .ok (.aload_n 0, 1) := by decide +kernel
theorem dLW_law_244 : decode code 244 = .ok (.iload_n 3, 1) := by decide +kernel
theorem dLW_law_245 : decode code 245 = .ok (.iconst 2, 1) := by decide +kernel
theorem dLW_law_246 : decode code 246 = .ok (.iadd, 1) := by decide +kernel
theorem dLW_law_247 : decode code 247 = .ok (.iaload, 1) := by decide +kernel
theorem dLW_law_248 : decode code 248 = .ok (.invokevirtual 43, 3) := by decide +kernel
theorem dLW_law_251 : decode code 251 = .ok (.aload_n 2, 1) := by decide +kernel
theorem dLW_law_252 : decode code 252 = .ok (.aload_n 0, 1) := by decide +kernel
theorem dLW_law_253 : decode code 253 = .ok (.iload_n 3, 1) := by decide +kernel
theorem dLW_law_254 : decode code 254 = .ok (.iconst 1, 1) := by decide +kernel
theorem dLW_law_255 : decode code 255 = .ok (.iadd, 1) := by decide +kernel
theorem dLW_law_256 : decode code 256 = .ok (.iaload, 1) := by decide +kernel
theorem dLW_law_257 : decode code 257 = .ok (.aload_n 0, 1) := by decide +kernel
theorem dLW_law_258 : decode code 258 = .ok (.iload_n 3, 1) := by decide +kernel
theorem dLW_law_259 : decode code 259 = .ok (.iconst 2, 1) := by decide +kernel
theorem dLW_law_260 : decode code 260 = .ok (.iadd, 1) := by decide +kernel
theorem dLW_law_261 : decode code 261 = .ok (.iaload, 1) := by decide +kernel
theorem dLW_law_262 : decode code 262 = .ok (.invokevirtual 46, 3) := by decide +kernel
theorem dLW_law_265 : decode code 265 = .ok (.if_icmp .eq (235), 3) := by decide +kernel
theorem dLW_law_268 : decode code 268 = .ok (.iconst 0, 1) := by decide +kernel
theorem dLW_law_269 : decode code 269 = .ok (.ireturn, 1) := by decide +kernel
theorem dLW_law_270 : decode code 270 = .ok (.aload_n 1, 1) := by decide +kernel
theorem dLW_law_271 : decode code 271 = .ok (.aload_n 0, 1) := by decide +kernel
theorem dLW_law_272 : decode code 272 = .ok (.iload_n 3, 1) := by decide +kernel
theorem dLW_law_273 : decode code 273 = .ok (.iconst 1, 1) := by decide +kernel
theorem dLW_law_274 : decode code 274 = .ok (.iadd, 1) := by decide +kernel
theorem dLW_law_275 : decode code 275 = .ok (.iaload, 1) := by decide +kernel
theorem dLW_law_276 : decode code 276 = .ok (.aload_n 0, 1) := by decide +kernel
theorem dLW_law_277 : decode code 277 = .ok (.iload_n 3, 1) := by decide +kernel
theorem dLW_law_278 : decode code 278 = .ok (.iconst 2, 1) := by decide +kernel
theorem dLW_law_279 : decode code 279 = .ok (.iadd, 1) := by decide +kernel
theorem dLW_law_280 : decode code 280 = .ok (.iaload, 1) := by decide +kernel
theorem dLW_law_281 : decode code 281 = .ok (.invokevirtual 47, 3) := by decide +kernel
theorem dLW_law_284 : decode code 284 = .ok (.aload_n 2, 1) := by decide +kernel
theorem dLW_law_285 : decode code 285 = .ok (.aload_n 0, 1) := by decide +kernel
theorem dLW_law_286 : decode code 286 = .ok (.iload_n 3, 1) := by decide +kernel
theorem dLW_law_287 : decode code 287 = .ok (.iconst 1, 1) := by decide +kernel
theorem dLW_law_288 : decode code 288 = .ok (.iadd, 1) := by decide +kernel
theorem dLW_law_289 : decode code 289 = .ok (.iaload, 1) := by decide +kernel
theorem dLW_law_290 : decode code 290 = .ok (.aload_n 0, 1) := by decide +kernel
theorem dLW_law_291 : decode code 291 = .ok (.iload_n 3, 1) := by decide +kernel
theorem dLW_law_292 : decode code 292 = .ok (.iconst 2, 1) := by decide +kernel
theorem dLW_law_293 : decode code 293 = .ok (.iadd, 1) := by decide +kernel
theorem dLW_law_294 : decode code 294 = .ok (.iaload, 1) := by decide +kernel
theorem dLW_law_295 : decode code 295 = .ok (.invokevirtual 50, 3) := by decide +kernel
theorem dLW_law_298 : decode code 298 = .ok (.if_icmp .eq (202), 3) := by decide +kernel
theorem dLW_law_301 : decode code 301 = .ok (.iconst 0, 1) := by decide +kernel
theorem dLW_law_302 : decode code 302 = .ok (.ireturn, 1) := by decide +kernel
theorem dLW_law_303 : decode code 303 = .ok (.aload_n 1, 1) := by decide +kernel
theorem dLW_law_304 : decode code 304 = .ok (.aload_n 0, 1) := by decide +kernel
theorem dLW_law_305 : decode code 305 = .ok (.iload_n 3, 1) := by decide +kernel
theorem dLW_law_306 : decode code 306 = .ok (.iconst 1, 1) := by decide +kernel
theorem dLW_law_307 : decode code 307 = .ok (.iadd, 1) := by decide +kernel
theorem dLW_law_308 : decode code 308 = .ok (.iaload, 1) := by decide +kernel
theorem dLW_law_309 : decode code 309 = .ok (.invokevirtual 51, 3) := by decide +kernel
theorem dLW_law_312 : decode code 312 = .ok (.aload_n 2, 1) := by decide +kernel
theorem dLW_law_313 : decode code 313 = .ok (.aload_n 0, 1) := by decide +kernel
theorem dLW_law_314 : decode code 314 = .ok (.iload_n 3, 1) := by decide +kernel
theorem dLW_law_315 : decode code 315 = .ok (.iconst 1, 1) := by decide +kernel
theorem dLW_law_316 : decode code 316 = .ok (.iadd, 1) := by decide +kernel
theorem dLW_law_317 : decode code 317 = .ok (.iaload, 1) := by decide +kernel
theorem dLW_law_318 : decode code 318 = .ok (.invokevirtual 55, 3) := by decide +kernel
theorem dLW_law_321 : decode code 321 = .ok (.if_icmp .eq (179), 3) := by decide +kernel
theorem dLW_law_324 : decode code 324 = .ok (.iconst 0, 1) := by decide +kernel
theorem dLW_law_325 : decode code 325 = .ok (.ireturn, 1) := by decide +kernel
theorem dLW_law_326 : decode code 326 = .ok (.aload_n 1, 1) := by decide +kernel
theorem dLW_law_327 : decode code 327 = .ok (.invokevirtual 56, 3) := by decide +kernel
theorem dLW_law_330 : decode code 330 = .ok (.aload_n 2, 1) := by decide +kernel
theorem dLW_law_331 : decode code 331 = .ok (.invokevirtual 59, 3) := by decide +kernel
theorem dLW_law_334 : decode code 334 = .ok (.if_icmp .eq (166), 3) := by decide +kernel
theorem dLW_law_337 : decode code 337 = .ok (.iconst 0, 1) := by decide +kernel
theorem dLW_law_338 : decode code 338 = .ok (.ireturn, 1) := by decide +kernel
theorem dLW_law_339 : decode code 339 = .ok (.aload_n 1, 1) := by decide +kernel
theorem dLW_law_340 : decode code 340 = .ok (.invokevirtual 60, 3) := by decide +kernel
theorem dLW_law_343 : decode code 343 = .ok (.aload_n 2, 1) := by decide +kernel
theorem dLW_law_344 : decode code 344 = .ok (.invokevirtual 63, 3) := by decide +kernel
theorem dLW_law_347 : decode code 347 = .ok (.if_icmp .eq (153), 3) := by decide +kernel
theorem dLW_law_350 : decode code 350 = .ok (.iconst 0, 1) := by decide +kernel
theorem dLW_law_351 : decode code 351 = .ok (.ireturn, 1) := by decide +kernel
theorem dLW_law_352 : decode code 352 = .ok (.aload_n 1, 1) := by decide +kernel
theorem dLW_law_353 : decode code 353 = .ok (.aload_n 0, 1) := by decide +kernel
theorem dLW_law_354 : decode code 354 = .ok (.iload_n 3, 1) := by decide +kernel
theorem dLW_law_355 : decode code 355 = .ok (.iconst 1, 1) := by decide +kernel
theorem dLW_law_356 : decode code 356 = .ok (.iadd, 1) := by decide +kernel
theorem dLW_law_357 : decode code 357 = .ok (.iaload, 1) := by decide +kernel
theorem dLW_law_358 : decode code 358 = .ok (.aload_n 0, 1) := by decide +kernel
theorem dLW_law_359 : decode code 359 = .ok (.iload_n 3, 1) := by decide +kernel
theorem dLW_law_360 : decode code 360 = .ok (.iconst 2, 1) := by decide +kernel
theorem dLW_law_361 : decode code 361 = .ok (.iadd, 1) := by decide +kernel
theorem dLW_law_362 : decode code 362 = .ok (.iaload, 1) := by decide +kernel
theorem dLW_law_363 : decode code 363 = .ok (.invokevirtual 64, 3) := by decide +kernel
theorem dLW_law_366 : decode code 366 = .ok (.aload_n 2, 1) := by decide +kernel
theorem dLW_law_367 : decode code 367 = .ok (.aload_n 0, 1) := by decide +kernel
theorem dLW_law_368 : decode code 368 = .ok (.iload_n 3, 1) := by decide +kernel
theorem dLW_law_369 : decode code 369 = .ok (.iconst 1, 1) := by decide +kernel
theorem dLW_law_370 : decode code 370 = .ok (.iadd, 1) := by decide +kernel
theorem dLW_law_371 : decode code 371 = .ok (.iaload, 1) := by decide +kernel
theorem dLW_law_372 : decode code 372 = .ok (.aload_n 0, 1) := by decide +kernel
theorem dLW_law_373 : decode code 373 = .ok (.iload_n 3, 1) := by decide +kernel
theorem dLW_law_374 : decode code 374 = .ok (.iconst 2, 1) := by decide +kernel
theorem dLW_law_375 : decode code 375 = .ok (.iadd, 1) := by decide +kernel
theorem dLW_law_376 : decode code 376 = .ok (.iaload, 1) := by decide +kernel
theorem dLW_law_377 : decode code 377 = .ok (.invokevirtual 67, 3) := by decide +kernel
theorem dLW_law_380 : decode code 380 = .ok (.if_icmp .eq (120), 3) := by decide +kernel
theorem dLW_law_383 : decode code 383 = .ok (.iconst 0, 1) := by decide +kernel
theorem dLW_law_384 : decode code 384 = .ok (.ireturn, 1) := by decide +kernel
theorem dLW_law_385 : decode code 385 = .ok (.aload_n 1, 1) := by decide +kernel
theorem dLW_law_386 : decode code 386 = .ok (.aload_n 0, 1) := by decide +kernel
theorem dLW_law_387 : decode code 387 = .ok (.iload_n 3, 1) := by decide +kernel
theorem dLW_law_388 : decode code 388 = .ok (.iconst 1, 1) := by decide +kernel
theorem dLW_law_389 : decode code 389 = .ok (.iadd, 1) := by decide +kernel
theorem dLW_law_390 : decode code 390 = .ok (.iaload, 1) := by decide +kernel
theorem dLW_law_391 : decode code 391 = .ok (.aload_n 0, 1) := by decide +kernel
theorem dLW_law_392 : decode code 392 = .ok (.iload_n 3, 1) := by decide +kernel
theorem dLW_law_393 : decode code 393 = .ok (.iconst 2, 1) := by decide +kernel
theorem dLW_law_394 : decode code 394 = .ok (.iadd, 1) := by decide +kernel
theorem dLW_law_395 : decode code 395 = .ok (.iaload, 1) := by decide +kernel
theorem dLW_law_396 : decode code 396 = .ok (.invokevirtual 68, 3) := by decide +kernel
theorem dLW_law_399 : decode code 399 = .ok (.aload_n 2, 1) := by decide +kernel
theorem dLW_law_400 : decode code 400 = .ok (.aload_n 0, 1) := by decide +kernel
theorem dLW_law_401 : decode code 401 = .ok (.iload_n 3, 1) := by decide +kernel
theorem dLW_law_402 : decode code 402 = .ok (.iconst 1, 1) := by decide +kernel
theorem dLW_law_403 : decode code 403 = .ok (.iadd, 1) := by decide +kernel
theorem dLW_law_404 : decode code 404 = .ok (.iaload, 1) := by decide +kernel
theorem dLW_law_405 : decode code 405 = .ok (.aload_n 0, 1) := by decide +kernel
theorem dLW_law_406 : decode code 406 = .ok (.iload_n 3, 1) := by decide +kernel
theorem dLW_law_407 : decode code 407 = .ok (.iconst 2, 1) := by decide +kernel
theorem dLW_law_408 : decode code 408 = .ok (.iadd, 1) := by decide +kernel
theorem dLW_law_409 : decode code 409 = .ok (.iaload, 1) := by decide +kernel
theorem dLW_law_410 : decode code 410 = .ok (.invokevirtual 71, 3) := by decide +kernel
theorem dLW_law_413 : decode code 413 = .ok (.if_icmp .eq (87), 3) := by decide +kernel
theorem dLW_law_416 : decode code 416 = .ok (.iconst 0, 1) := by decide +kernel
theorem dLW_law_417 : decode code 417 = .ok (.ireturn, 1) := by decide +kernel
theorem dLW_law_418 : decode code 418 = .ok (.aload_n 1, 1) := by decide +kernel
theorem dLW_law_419 : decode code 419 = .ok (.invokevirtual 72, 3) := by decide +kernel
theorem dLW_law_422 : decode code 422 = .ok (.aload_n 2, 1) := by decide +kernel
theorem dLW_law_423 : decode code 423 = .ok (.invokevirtual 75, 3) := by decide +kernel
theorem dLW_law_426 : decode code 426 = .ok (.if_icmp .eq (74), 3) := by decide +kernel
theorem dLW_law_429 : decode code 429 = .ok (.iconst 0, 1) := by decide +kernel
theorem dLW_law_430 : decode code 430 = .ok (.ireturn, 1) := by decide +kernel
theorem dLW_law_431 : decode code 431 = .ok (.aload_n 1, 1) := by decide +kernel
theorem dLW_law_432 : decode code 432 = .ok (.invokevirtual 76, 3) := by decide +kernel
theorem dLW_law_435 : decode code 435 = .ok (.aload_n 2, 1) := by decide +kernel
theorem dLW_law_436 : decode code 436 = .ok (.invokevirtual 79, 3) := by decide +kernel
theorem dLW_law_439 : decode code 439 = .ok (.if_icmp .eq (61), 3) := by decide +kernel
theorem dLW_law_442 : decode code 442 = .ok (.iconst 0, 1) := by decide +kernel
theorem dLW_law_443 : decode code 443 = .ok (.ireturn, 1) := by decide +kernel
theorem dLW_law_444 : decode code 444 = .ok (.aload_n 1, 1) := by decide +kernel
theorem dLW_law_445 : decode code 445 = .ok (.aload_n 0, 1) := by decide +kernel
theorem dLW_law_446 : decode code 446 = .ok (.iload_n 3, 1) := by decide +kernel
theorem dLW_law_447 : decode code 447 = .ok (.iconst 1, 1) := by decide +kernel
theorem dLW_law_448 : decode code 448 = .ok (.iadd, 1) := by decide +kernel
theorem dLW_law_449 : decode code 449 = .ok (.iaload, 1) := by decide +kernel
theorem dLW_law_450 : decode code 450 = .ok (.aload_n 0, 1) := by decide +kernel
theorem dLW_law_451 : decode code 451 = .ok (.iload_n 3, 1) := by decide +kernel
theorem dLW_law_452 : decode code 452 = .ok (.iconst 2, 1) := by decide +kernel
theorem dLW_law_453 : decode code 453 = .ok (.iadd, 1) := by decide +kernel
theorem dLW_law_454 : decode code 454 = .ok (.iaload, 1) := by decide +kernel
theorem dLW_law_455 : decode code 455 = .ok (.invokevirtual 80, 3) := by decide +kernel
theorem dLW_law_458 : decode code 458 = .ok (.aload_n 2, 1) := by decide +kernel
theorem dLW_law_459 : decode code 459 = .ok (.aload_n 0, 1) := by decide +kernel
theorem dLW_law_460 : decode code 460 = .ok (.iload_n 3, 1) := by decide +kernel
theorem dLW_law_461 : decode code 461 = .ok (.iconst 1, 1) := by decide +kernel
theorem dLW_law_462 : decode code 462 = .ok (.iadd, 1) := by decide +kernel
theorem dLW_law_463 : decode code 463 = .ok (.iaload, 1) := by decide +kernel
theorem dLW_law_464 : decode code 464 = .ok (.aload_n 0, 1) := by decide +kernel
theorem dLW_law_465 : decode code 465 = .ok (.iload_n 3, 1) := by decide +kernel
theorem dLW_law_466 : decode code 466 = .ok (.iconst 2, 1) := by decide +kernel
theorem dLW_law_467 : decode code 467 = .ok (.iadd, 1) := by decide +kernel
theorem dLW_law_468 : decode code 468 = .ok (.iaload, 1) := by decide +kernel
theorem dLW_law_469 : decode code 469 = .ok (.invokevirtual 83, 3) := by decide +kernel
theorem dLW_law_472 : decode code 472 = .ok (.if_icmp .eq (28), 3) := by decide +kernel
theorem dLW_law_475 : decode code 475 = .ok (.iconst 0, 1) := by decide +kernel
theorem dLW_law_476 : decode code 476 = .ok (.ireturn, 1) := by decide +kernel
theorem dLW_law_477 : decode code 477 = .ok (.aload_n 1, 1) := by decide +kernel
theorem dLW_law_478 : decode code 478 = .ok (.aload_n 0, 1) := by decide +kernel
theorem dLW_law_479 : decode code 479 = .ok (.iload_n 3, 1) := by decide +kernel
theorem dLW_law_480 : decode code 480 = .ok (.iconst 1, 1) := by decide +kernel
theorem dLW_law_481 : decode code 481 = .ok (.iadd, 1) := by decide +kernel
theorem dLW_law_482 : decode code 482 = .ok (.iaload, 1) := by decide +kernel
theorem dLW_law_483 : decode code 483 = .ok (.invokevirtual 84, 3) := by decide +kernel
theorem dLW_law_486 : decode code 486 = .ok (.aload_n 2, 1) := by decide +kernel
theorem dLW_law_487 : decode code 487 = .ok (.aload_n 0, 1) := by decide +kernel
theorem dLW_law_488 : decode code 488 = .ok (.iload_n 3, 1) := by decide +kernel
theorem dLW_law_489 : decode code 489 = .ok (.iconst 1, 1) := by decide +kernel
theorem dLW_law_490 : decode code 490 = .ok (.iadd, 1) := by decide +kernel
theorem dLW_law_491 : decode code 491 = .ok (.iaload, 1) := by decide +kernel
theorem dLW_law_492 : decode code 492 = .ok (.invokevirtual 87, 3) := by decide +kernel
theorem dLW_law_495 : decode code 495 = .ok (.if_icmp .eq (5), 3) := by decide +kernel
theorem dLW_law_498 : decode code 498 = .ok (.iconst 0, 1) := by decide +kernel
theorem dLW_law_499 : decode code 499 = .ok (.ireturn, 1) := by decide +kernel
theorem dLW_law_500 : decode code 500 = .ok (.iinc 3 (3), 3) := by decide +kernel
theorem dLW_law_503 : decode code 503 = .ok (.goto (-465), 3) := by decide +kernel
theorem dLW_law_506 : decode code 506 = .ok (.iconst 1, 1) := by decide +kernel
theorem dLW_law_507 : decode code 507 = .ok (.ireturn, 1) := by decide +kernel
