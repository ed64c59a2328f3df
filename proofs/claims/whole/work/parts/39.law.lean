def ldS (L : Nat) (i : Int32) (μ : Mem) : Option Int32 := if inb i L then some (μ.1 100003 i.toNatClampNeg) else none
section cs
variable {id pc nc ns : Nat} {lo : List (Nat × Value)} {sk : List Value} {L : Nat} {μ : Mem} {r : gM × Option Value}
theorem dx_sald {i x : Int32} (hc : decode (gb id) pc = .ok (.iaload, 1)) (e : ldS L i μ = some x) (kk : Sx id (pc + 1) lo (.int x :: sk) nc ns (mk L μ) r) : Sx id pc lo (.int i :: .ref 100003 :: sk) nc ns (mk L μ) r := by
  unfold ldS at e
  split at e
  · rename_i h1
    cases e
    exact sx_iaload (n := L) hc (Or.inr rfl) (inb_vp h1) kk
  · cases e
theorem dx_slen (hc : decode (gb id) pc = .ok (.arraylength, 1)) (kk : Sx id (pc + 1) lo (.int (nI L) :: sk) nc ns (mk L μ) r) : Sx id pc lo (.ref 100003 :: sk) nc ns (mk L μ) r :=
  sx_alen (t := 0) (n := L) hc (Or.inr rfl) rfl kk
theorem dx_nm {x : Int32} {β : Type} {k : Int32 → Option β} {res : β} (h : nm x k = some res) (kk : ∀ v, k v = some res → Sx id pc lo (.int v :: sk) nc ns (mk L μ) r) : Sx id pc lo (.int x :: sk) nc ns (mk L μ) r := kk x h
theorem dx_iinc {i : Nat} {n : Int} {x c : Int32} {β : Type} {k : Int32 → Option β} {res : β} {lo2 : Int32 → List (Nat × Value)} (hc : decode (gb id) pc = .ok (.iinc i n, 3)) (hlk : lo.lookup i = some (.int x)) (hn : Int32.ofInt n = c) (hi : i < gmx id) (hlo : ∀ v, gst1 i (.int v) lo = lo2 v) (h : nm (x + c) k = some res) (kk : ∀ v, k v = some res → Sx id (pc + 3) (lo2 v) sk nc ns (mk L μ) r) : Sx id pc lo sk nc ns (mk L μ) r := by
  subst hn
  refine sx_iinc (v := x + Int32.ofInt n) hc hlk rfl hi ?_
  rw [hlo]
  exact kk _ h
theorem dx_V {idx z n ci h1 h2 h3 h4 b o : Nat} {vs : List Value} {μ1 : Mem} {v : Option Value} (hs : gSite id z) (hc : decode (gb id) pc = .ok (.invokevirtual idx, 3)) (ho : gown id = o) (he : (o * 1000 + idx, 1, z, n, ci, h1, h2, h3, h4) ∈ gCL) (hi : idx < 1000) (hn : vs.length = n) (hsk : (sk.map fun v => v.category).sum ≤ 8) (hb : SK0 b = (0, ci)) (hM : Mx z (.ref b :: vs) (mk L μ) (mk L μ1, v)) {sk2 sk3 : List Value} (e2 : vs.reverse ++ .ref b :: sk = sk2) (e3 : v.toList ++ sk = sk3) (hnc : nc ≤ gmc id ∧ ns ≤ gms id)
    (kk : Sx id (pc + 3) lo sk3 nc ns (mk L μ1) r) : Sx id pc lo sk2 nc ns (mk L μ) r := by
  subst e2; subst e3
  have hz := hs.2.2.1
  refine sx_callV hc (by rw [ho]; exact he) hi hs.1 hs.2.1 (kd_of hb (by decide)) hM hn (by rw [hz.1]; rfl) ⟨hs.2.2.2.1, hs.2.2.2.2, by rw [hz.1]; exact hnc.1, by rw [hz.2]; exact hnc.2, hsk⟩ ?_
  rw [hz.1, hz.2]
  exact kk
theorem dx_retz {x : Int32} {res : Mem × Int32} (hc : decode (gb id) pc = .ok (.ireturn, 1)) (hrt : grt id = some .boolean) (hnc : nc ≤ gmc id ∧ ns ≤ gms id) (h : rtZ x μ = some res) : Sx id pc lo [.int x] nc ns (mk L μ) (mk L res.1, some (.int res.2)) := by
  unfold rtZ at h
  split at h
  · rename_i h1
    cases h
    exact sx_ret hc (by unfold grv; rw [hrt]; dsimp only; rw [if_pos h1]) hnc.1 hnc.2
  · cases h
theorem law_nc : 222 ≤ gmc 369 ∧ 283848 ≤ gms 369 := by decide +kernel
end cs
theorem k369_0 : decode (gb 369) 0 = .ok (.new 7, 3) := by decide +kernel
theorem k369_3 : decode (gb 369) 3 = .ok (.dup, 1) := by decide +kernel
theorem k369_4 : decode (gb 369) 4 = .ok (.invokespecial 9, 3) := by decide +kernel
theorem k369_7 : decode (gb 369) 7 = .ok (.astore_n 1, 1) := by decide +kernel
theorem k369_8 : decode (gb 369) 8 = .ok (.new 10, 3) := by decide +kernel
theorem k369_11 : decode (gb 369) 11 = .ok (.dup, 1) := by decide +kernel
theorem k369_12 : decode (gb 369) 12 = .ok (.invokespecial 12, 3) := by decide +kernel
theorem k369_15 : decode (gb 369) 15 = .ok (.astore_n 2, 1) := by decide +kernel
theorem k369_16 : decode (gb 369) 16 = .ok (.iconst 0, 1) := by decide +kernel
theorem k369_17 : decode (gb 369) 17 = .ok (.istore_n 3, 1) := by decide +kernel
theorem k369_18 : decode (gb 369) 18 = .ok (.iload_n 3, 1) := by decide +kernel
theorem k369_19 : decode (gb 369) 19 = .ok (.aload_n 0, 1) := by decide +kernel
theorem k369_20 : decode (gb 369) 20 = .ok (.arraylength, 1) := by decide +kernel
theorem k369_21 : decode (gb 369) 21 = .ok (.iconst 5, 1) := by decide +kernel
theorem k369_22 : decode (gb 369) 22 = .ok (.isub, 1) := by decide +kernel
theorem k369_23 : decode (gb 369) 23 = .ok (.if_icmp .gt 1138, 3) := by decide +kernel
theorem k369_26 : decode (gb 369) 26 = .ok (.aload_n 0, 1) := by decide +kernel
theorem k369_27 : decode (gb 369) 27 = .ok (.iload_n 3, 1) := by decide +kernel
theorem k369_28 : decode (gb 369) 28 = .ok (.iaload, 1) := by decide +kernel
theorem k369_29 : decode (gb 369) 29 = .ok (.bipush 63, 2) := by decide +kernel
theorem k369_31 : decode (gb 369) 31 = .ok (.iand, 1) := by decide +kernel
theorem k369_32 : decode (gb 369) 32 = .ok (.tableswitch 1123 0 32 #[148, 181, 204, 217, 230, 253, 276, 309, 342, 375, 408, 441, 464, 507, 576, 589, 622, 655, 678, 711, 734, 767, 800, 833, 856, 889, 912, 935, 958, 991, 1024, 1057, 1090], 148) := by decide +kernel
theorem k369_180 : decode (gb 369) 180 = .ok (.aload_n 1, 1) := by decide +kernel
theorem k369_181 : decode (gb 369) 181 = .ok (.aload_n 0, 1) := by decide +kernel
theorem k369_182 : decode (gb 369) 182 = .ok (.iload_n 3, 1) := by decide +kernel
theorem k369_183 : decode (gb 369) 183 = .ok (.iconst 1, 1) := by decide +kernel
theorem k369_184 : decode (gb 369) 184 = .ok (.iadd, 1) := by decide +kernel
theorem k369_185 : decode (gb 369) 185 = .ok (.iaload, 1) := by decide +kernel
theorem k369_186 : decode (gb 369) 186 = .ok (.aload_n 0, 1) := by decide +kernel
theorem k369_187 : decode (gb 369) 187 = .ok (.iload_n 3, 1) := by decide +kernel
theorem k369_188 : decode (gb 369) 188 = .ok (.iconst 2, 1) := by decide +kernel
theorem k369_189 : decode (gb 369) 189 = .ok (.iadd, 1) := by decide +kernel
theorem k369_190 : decode (gb 369) 190 = .ok (.iaload, 1) := by decide +kernel
theorem k369_191 : decode (gb 369) 191 = .ok (.invokevirtual 13, 3) := by decide +kernel
theorem k369_194 : decode (gb 369) 194 = .ok (.aload_n 2, 1) := by decide +kernel
theorem k369_195 : decode (gb 369) 195 = .ok (.aload_n 0, 1) := by decide +kernel
theorem k369_196 : decode (gb 369) 196 = .ok (.iload_n 3, 1) := by decide +kernel
theorem k369_197 : decode (gb 369) 197 = .ok (.iconst 1, 1) := by decide +kernel
theorem k369_198 : decode (gb 369) 198 = .ok (.iadd, 1) := by decide +kernel
theorem k369_199 : decode (gb 369) 199 = .ok (.iaload, 1) := by decide +kernel
theorem k369_200 : decode (gb 369) 200 = .ok (.aload_n 0, 1) := by decide +kernel
theorem k369_201 : decode (gb 369) 201 = .ok (.iload_n 3, 1) := by decide +kernel
theorem k369_202 : decode (gb 369) 202 = .ok (.iconst 2, 1) := by decide +kernel
theorem k369_203 : decode (gb 369) 203 = .ok (.iadd, 1) := by decide +kernel
theorem k369_204 : decode (gb 369) 204 = .ok (.iaload, 1) := by decide +kernel
theorem k369_205 : decode (gb 369) 205 = .ok (.invokevirtual 17, 3) := by decide +kernel
theorem k369_208 : decode (gb 369) 208 = .ok (.if_icmp .eq 947, 3) := by decide +kernel
theorem k369_211 : decode (gb 369) 211 = .ok (.iconst 0, 1) := by decide +kernel
theorem k369_212 : decode (gb 369) 212 = .ok (.ireturn, 1) := by decide +kernel
theorem k369_213 : decode (gb 369) 213 = .ok (.aload_n 1, 1) := by decide +kernel
theorem k369_214 : decode (gb 369) 214 = .ok (.aload_n 0, 1) := by decide +kernel
theorem k369_215 : decode (gb 369) 215 = .ok (.iload_n 3, 1) := by decide +kernel
theorem k369_216 : decode (gb 369) 216 = .ok (.iconst 1, 1) := by decide +kernel
theorem k369_217 : decode (gb 369) 217 = .ok (.iadd, 1) := by decide +kernel
theorem k369_218 : decode (gb 369) 218 = .ok (.iaload, 1) := by decide +kernel
theorem k369_219 : decode (gb 369) 219 = .ok (.invokevirtual 18, 3) := by decide +kernel
theorem k369_222 : decode (gb 369) 222 = .ok (.aload_n 2, 1) := by decide +kernel
theorem k369_223 : decode (gb 369) 223 = .ok (.aload_n 0, 1) := by decide +kernel
theorem k369_224 : decode (gb 369) 224 = .ok (.iload_n 3, 1) := by decide +kernel
theorem k369_225 : decode (gb 369) 225 = .ok (.iconst 1, 1) := by decide +kernel
theorem k369_226 : decode (gb 369) 226 = .ok (.iadd, 1) := by decide +kernel
theorem k369_227 : decode (gb 369) 227 = .ok (.iaload, 1) := by decide +kernel
theorem k369_228 : decode (gb 369) 228 = .ok (.invokevirtual 22, 3) := by decide +kernel
theorem k369_231 : decode (gb 369) 231 = .ok (.if_icmp .eq 924, 3) := by decide +kernel
theorem k369_234 : decode (gb 369) 234 = .ok (.iconst 0, 1) := by decide +kernel
theorem k369_235 : decode (gb 369) 235 = .ok (.ireturn, 1) := by decide +kernel
theorem k369_236 : decode (gb 369) 236 = .ok (.aload_n 1, 1) := by decide +kernel
theorem k369_237 : decode (gb 369) 237 = .ok (.invokevirtual 23, 3) := by decide +kernel
theorem k369_240 : decode (gb 369) 240 = .ok (.aload_n 2, 1) := by decide +kernel
theorem k369_241 : decode (gb 369) 241 = .ok (.invokevirtual 27, 3) := by decide +kernel
theorem k369_244 : decode (gb 369) 244 = .ok (.if_icmp .eq 911, 3) := by decide +kernel
theorem k369_247 : decode (gb 369) 247 = .ok (.iconst 0, 1) := by decide +kernel
theorem k369_248 : decode (gb 369) 248 = .ok (.ireturn, 1) := by decide +kernel
theorem k369_249 : decode (gb 369) 249 = .ok (.aload_n 1, 1) := by decide +kernel
theorem k369_250 : decode (gb 369) 250 = .ok (.invokevirtual 28, 3) := by decide +kernel
theorem k369_253 : decode (gb 369) 253 = .ok (.aload_n 2, 1) := by decide +kernel
theorem k369_254 : decode (gb 369) 254 = .ok (.invokevirtual 31, 3) := by decide +kernel
theorem k369_257 : decode (gb 369) 257 = .ok (.if_icmp .eq 898, 3) := by decide +kernel
theorem k369_260 : decode (gb 369) 260 = .ok (.iconst 0, 1) := by decide +kernel
theorem k369_261 : decode (gb 369) 261 = .ok (.ireturn, 1) := by decide +kernel
theorem k369_262 : decode (gb 369) 262 = .ok (.aload_n 1, 1) := by decide +kernel
theorem k369_263 : decode (gb 369) 263 = .ok (.aload_n 0, 1) := by decide +kernel
theorem k369_264 : decode (gb 369) 264 = .ok (.iload_n 3, 1) := by decide +kernel
theorem k369_265 : decode (gb 369) 265 = .ok (.iconst 1, 1) := by decide +kernel
theorem k369_266 : decode (gb 369) 266 = .ok (.iadd, 1) := by decide +kernel
theorem k369_267 : decode (gb 369) 267 = .ok (.iaload, 1) := by decide +kernel
theorem k369_268 : decode (gb 369) 268 = .ok (.invokevirtual 32, 3) := by decide +kernel
theorem k369_271 : decode (gb 369) 271 = .ok (.aload_n 2, 1) := by decide +kernel
theorem k369_272 : decode (gb 369) 272 = .ok (.aload_n 0, 1) := by decide +kernel
theorem k369_273 : decode (gb 369) 273 = .ok (.iload_n 3, 1) := by decide +kernel
theorem k369_274 : decode (gb 369) 274 = .ok (.iconst 1, 1) := by decide +kernel
theorem k369_275 : decode (gb 369) 275 = .ok (.iadd, 1) := by decide +kernel
theorem k369_276 : decode (gb 369) 276 = .ok (.iaload, 1) := by decide +kernel
theorem k369_277 : decode (gb 369) 277 = .ok (.invokevirtual 35, 3) := by decide +kernel
theorem k369_280 : decode (gb 369) 280 = .ok (.if_icmp .eq 875, 3) := by decide +kernel
theorem k369_283 : decode (gb 369) 283 = .ok (.iconst 0, 1) := by decide +kernel
theorem k369_284 : decode (gb 369) 284 = .ok (.ireturn, 1) := by decide +kernel
theorem k369_285 : decode (gb 369) 285 = .ok (.aload_n 1, 1) := by decide +kernel
theorem k369_286 : decode (gb 369) 286 = .ok (.aload_n 0, 1) := by decide +kernel
theorem k369_287 : decode (gb 369) 287 = .ok (.iload_n 3, 1) := by decide +kernel
theorem k369_288 : decode (gb 369) 288 = .ok (.iconst 1, 1) := by decide +kernel
theorem k369_289 : decode (gb 369) 289 = .ok (.iadd, 1) := by decide +kernel
theorem k369_290 : decode (gb 369) 290 = .ok (.iaload, 1) := by decide +kernel
theorem k369_291 : decode (gb 369) 291 = .ok (.invokevirtual 36, 3) := by decide +kernel
theorem k369_294 : decode (gb 369) 294 = .ok (.aload_n 2, 1) := by decide +kernel
theorem k369_295 : decode (gb 369) 295 = .ok (.aload_n 0, 1) := by decide +kernel
theorem k369_296 : decode (gb 369) 296 = .ok (.iload_n 3, 1) := by decide +kernel
theorem k369_297 : decode (gb 369) 297 = .ok (.iconst 1, 1) := by decide +kernel
theorem k369_298 : decode (gb 369) 298 = .ok (.iadd, 1) := by decide +kernel
theorem k369_299 : decode (gb 369) 299 = .ok (.iaload, 1) := by decide +kernel
theorem k369_300 : decode (gb 369) 300 = .ok (.invokevirtual 39, 3) := by decide +kernel
theorem k369_303 : decode (gb 369) 303 = .ok (.if_icmp .eq 852, 3) := by decide +kernel
theorem k369_306 : decode (gb 369) 306 = .ok (.iconst 0, 1) := by decide +kernel
theorem k369_307 : decode (gb 369) 307 = .ok (.ireturn, 1) := by decide +kernel
theorem k369_308 : decode (gb 369) 308 = .ok (.aload_n 1, 1) := by decide +kernel
theorem k369_309 : decode (gb 369) 309 = .ok (.aload_n 0, 1) := by decide +kernel
theorem k369_310 : decode (gb 369) 310 = .ok (.iload_n 3, 1) := by decide +kernel
theorem k369_311 : decode (gb 369) 311 = .ok (.iconst 1, 1) := by decide +kernel
theorem k369_312 : decode (gb 369) 312 = .ok (.iadd, 1) := by decide +kernel
theorem k369_313 : decode (gb 369) 313 = .ok (.iaload, 1) := by decide +kernel
theorem k369_314 : decode (gb 369) 314 = .ok (.aload_n 0, 1) := by decide +kernel
theorem k369_315 : decode (gb 369) 315 = .ok (.iload_n 3, 1) := by decide +kernel
theorem k369_316 : decode (gb 369) 316 = .ok (.iconst 2, 1) := by decide +kernel
theorem k369_317 : decode (gb 369) 317 = .ok (.iadd, 1) := by decide +kernel
theorem k369_318 : decode (gb 369) 318 = .ok (.iaload, 1) := by decide +kernel
theorem k369_319 : decode (gb 369) 319 = .ok (.invokevirtual 40, 3) := by decide +kernel
theorem k369_322 : decode (gb 369) 322 = .ok (.aload_n 2, 1) := by decide +kernel
theorem k369_323 : decode (gb 369) 323 = .ok (.aload_n 0, 1) := by decide +kernel
theorem k369_324 : decode (gb 369) 324 = .ok (.iload_n 3, 1) := by decide +kernel
theorem k369_325 : decode (gb 369) 325 = .ok (.iconst 1, 1) := by decide +kernel
theorem k369_326 : decode (gb 369) 326 = .ok (.iadd, 1) := by decide +kernel
theorem k369_327 : decode (gb 369) 327 = .ok (.iaload, 1) := by decide +kernel
theorem k369_328 : decode (gb 369) 328 = .ok (.aload_n 0, 1) := by decide +kernel
theorem k369_329 : decode (gb 369) 329 = .ok (.iload_n 3, 1) := by decide +kernel
theorem k369_330 : decode (gb 369) 330 = .ok (.iconst 2, 1) := by decide +kernel
theorem k369_331 : decode (gb 369) 331 = .ok (.iadd, 1) := by decide +kernel
theorem k369_332 : decode (gb 369) 332 = .ok (.iaload, 1) := by decide +kernel
theorem k369_333 : decode (gb 369) 333 = .ok (.invokevirtual 43, 3) := by decide +kernel
theorem k369_336 : decode (gb 369) 336 = .ok (.if_icmp .eq 819, 3) := by decide +kernel
theorem k369_339 : decode (gb 369) 339 = .ok (.iconst 0, 1) := by decide +kernel
theorem k369_340 : decode (gb 369) 340 = .ok (.ireturn, 1) := by decide +kernel
theorem k369_341 : decode (gb 369) 341 = .ok (.aload_n 1, 1) := by decide +kernel
theorem k369_342 : decode (gb 369) 342 = .ok (.aload_n 0, 1) := by decide +kernel
theorem k369_343 : decode (gb 369) 343 = .ok (.iload_n 3, 1) := by decide +kernel
theorem k369_344 : decode (gb 369) 344 = .ok (.iconst 1, 1) := by decide +kernel
theorem k369_345 : decode (gb 369) 345 = .ok (.iadd, 1) := by decide +kernel
theorem k369_346 : decode (gb 369) 346 = .ok (.iaload, 1) := by decide +kernel
theorem k369_347 : decode (gb 369) 347 = .ok (.aload_n 0, 1) := by decide +kernel
theorem k369_348 : decode (gb 369) 348 = .ok (.iload_n 3, 1) := by decide +kernel
theorem k369_349 : decode (gb 369) 349 = .ok (.iconst 2, 1) := by decide +kernel
theorem k369_350 : decode (gb 369) 350 = .ok (.iadd, 1) := by decide +kernel
theorem k369_351 : decode (gb 369) 351 = .ok (.iaload, 1) := by decide +kernel
theorem k369_352 : decode (gb 369) 352 = .ok (.invokevirtual 44, 3) := by decide +kernel
theorem k369_355 : decode (gb 369) 355 = .ok (.aload_n 2, 1) := by decide +kernel
theorem k369_356 : decode (gb 369) 356 = .ok (.aload_n 0, 1) := by decide +kernel
theorem k369_357 : decode (gb 369) 357 = .ok (.iload_n 3, 1) := by decide +kernel
theorem k369_358 : decode (gb 369) 358 = .ok (.iconst 1, 1) := by decide +kernel
theorem k369_359 : decode (gb 369) 359 = .ok (.iadd, 1) := by decide +kernel
theorem k369_360 : decode (gb 369) 360 = .ok (.iaload, 1) := by decide +kernel
theorem k369_361 : decode (gb 369) 361 = .ok (.aload_n 0, 1) := by decide +kernel
theorem k369_362 : decode (gb 369) 362 = .ok (.iload_n 3, 1) := by decide +kernel
theorem k369_363 : decode (gb 369) 363 = .ok (.iconst 2, 1) := by decide +kernel
theorem k369_364 : decode (gb 369) 364 = .ok (.iadd, 1) := by decide +kernel
theorem k369_365 : decode (gb 369) 365 = .ok (.iaload, 1) := by decide +kernel
theorem k369_366 : decode (gb 369) 366 = .ok (.invokevirtual 47, 3) := by decide +kernel
theorem k369_369 : decode (gb 369) 369 = .ok (.if_icmp .eq 786, 3) := by decide +kernel
theorem k369_372 : decode (gb 369) 372 = .ok (.iconst 0, 1) := by decide +kernel
theorem k369_373 : decode (gb 369) 373 = .ok (.ireturn, 1) := by decide +kernel
theorem k369_374 : decode (gb 369) 374 = .ok (.aload_n 1, 1) := by decide +kernel
theorem k369_375 : decode (gb 369) 375 = .ok (.aload_n 0, 1) := by decide +kernel
theorem k369_376 : decode (gb 369) 376 = .ok (.iload_n 3, 1) := by decide +kernel
theorem k369_377 : decode (gb 369) 377 = .ok (.iconst 1, 1) := by decide +kernel
theorem k369_378 : decode (gb 369) 378 = .ok (.iadd, 1) := by decide +kernel
theorem k369_379 : decode (gb 369) 379 = .ok (.iaload, 1) := by decide +kernel
theorem k369_380 : decode (gb 369) 380 = .ok (.aload_n 0, 1) := by decide +kernel
theorem k369_381 : decode (gb 369) 381 = .ok (.iload_n 3, 1) := by decide +kernel
theorem k369_382 : decode (gb 369) 382 = .ok (.iconst 2, 1) := by decide +kernel
theorem k369_383 : decode (gb 369) 383 = .ok (.iadd, 1) := by decide +kernel
theorem k369_384 : decode (gb 369) 384 = .ok (.iaload, 1) := by decide +kernel
theorem k369_385 : decode (gb 369) 385 = .ok (.invokevirtual 48, 3) := by decide +kernel
theorem k369_388 : decode (gb 369) 388 = .ok (.aload_n 2, 1) := by decide +kernel
theorem k369_389 : decode (gb 369) 389 = .ok (.aload_n 0, 1) := by decide +kernel
theorem k369_390 : decode (gb 369) 390 = .ok (.iload_n 3, 1) := by decide +kernel
theorem k369_391 : decode (gb 369) 391 = .ok (.iconst 1, 1) := by decide +kernel
theorem k369_392 : decode (gb 369) 392 = .ok (.iadd, 1) := by decide +kernel
theorem k369_393 : decode (gb 369) 393 = .ok (.iaload, 1) := by decide +kernel
theorem k369_394 : decode (gb 369) 394 = .ok (.aload_n 0, 1) := by decide +kernel
theorem k369_395 : decode (gb 369) 395 = .ok (.iload_n 3, 1) := by decide +kernel
theorem k369_396 : decode (gb 369) 396 = .ok (.iconst 2, 1) := by decide +kernel
theorem k369_397 : decode (gb 369) 397 = .ok (.iadd, 1) := by decide +kernel
theorem k369_398 : decode (gb 369) 398 = .ok (.iaload, 1) := by decide +kernel
theorem k369_399 : decode (gb 369) 399 = .ok (.invokevirtual 51, 3) := by decide +kernel
theorem k369_402 : decode (gb 369) 402 = .ok (.if_icmp .eq 753, 3) := by decide +kernel
theorem k369_405 : decode (gb 369) 405 = .ok (.iconst 0, 1) := by decide +kernel
theorem k369_406 : decode (gb 369) 406 = .ok (.ireturn, 1) := by decide +kernel
theorem k369_407 : decode (gb 369) 407 = .ok (.aload_n 1, 1) := by decide +kernel
theorem k369_408 : decode (gb 369) 408 = .ok (.aload_n 0, 1) := by decide +kernel
theorem k369_409 : decode (gb 369) 409 = .ok (.iload_n 3, 1) := by decide +kernel
theorem k369_410 : decode (gb 369) 410 = .ok (.iconst 1, 1) := by decide +kernel
theorem k369_411 : decode (gb 369) 411 = .ok (.iadd, 1) := by decide +kernel
theorem k369_412 : decode (gb 369) 412 = .ok (.iaload, 1) := by decide +kernel
theorem k369_413 : decode (gb 369) 413 = .ok (.aload_n 0, 1) := by decide +kernel
theorem k369_414 : decode (gb 369) 414 = .ok (.iload_n 3, 1) := by decide +kernel
theorem k369_415 : decode (gb 369) 415 = .ok (.iconst 2, 1) := by decide +kernel
theorem k369_416 : decode (gb 369) 416 = .ok (.iadd, 1) := by decide +kernel
theorem k369_417 : decode (gb 369) 417 = .ok (.iaload, 1) := by decide +kernel
theorem k369_418 : decode (gb 369) 418 = .ok (.invokevirtual 52, 3) := by decide +kernel
theorem k369_421 : decode (gb 369) 421 = .ok (.aload_n 2, 1) := by decide +kernel
theorem k369_422 : decode (gb 369) 422 = .ok (.aload_n 0, 1) := by decide +kernel
theorem k369_423 : decode (gb 369) 423 = .ok (.iload_n 3, 1) := by decide +kernel
theorem k369_424 : decode (gb 369) 424 = .ok (.iconst 1, 1) := by decide +kernel
theorem k369_425 : decode (gb 369) 425 = .ok (.iadd, 1) := by decide +kernel
theorem k369_426 : decode (gb 369) 426 = .ok (.iaload, 1) := by decide +kernel
theorem k369_427 : decode (gb 369) 427 = .ok (.aload_n 0, 1) := by decide +kernel
theorem k369_428 : decode (gb 369) 428 = .ok (.iload_n 3, 1) := by decide +kernel
theorem k369_429 : decode (gb 369) 429 = .ok (.iconst 2, 1) := by decide +kernel
theorem k369_430 : decode (gb 369) 430 = .ok (.iadd, 1) := by decide +kernel
theorem k369_431 : decode (gb 369) 431 = .ok (.iaload, 1) := by decide +kernel
theorem k369_432 : decode (gb 369) 432 = .ok (.invokevirtual 55, 3) := by decide +kernel
theorem k369_435 : decode (gb 369) 435 = .ok (.if_icmp .eq 720, 3) := by decide +kernel
theorem k369_438 : decode (gb 369) 438 = .ok (.iconst 0, 1) := by decide +kernel
theorem k369_439 : decode (gb 369) 439 = .ok (.ireturn, 1) := by decide +kernel
theorem k369_440 : decode (gb 369) 440 = .ok (.aload_n 1, 1) := by decide +kernel
theorem k369_441 : decode (gb 369) 441 = .ok (.aload_n 0, 1) := by decide +kernel
theorem k369_442 : decode (gb 369) 442 = .ok (.iload_n 3, 1) := by decide +kernel
theorem k369_443 : decode (gb 369) 443 = .ok (.iconst 1, 1) := by decide +kernel
theorem k369_444 : decode (gb 369) 444 = .ok (.iadd, 1) := by decide +kernel
theorem k369_445 : decode (gb 369) 445 = .ok (.iaload, 1) := by decide +kernel
theorem k369_446 : decode (gb 369) 446 = .ok (.aload_n 0, 1) := by decide +kernel
theorem k369_447 : decode (gb 369) 447 = .ok (.iload_n 3, 1) := by decide +kernel
theorem k369_448 : decode (gb 369) 448 = .ok (.iconst 2, 1) := by decide +kernel
theorem k369_449 : decode (gb 369) 449 = .ok (.iadd, 1) := by decide +kernel
theorem k369_450 : decode (gb 369) 450 = .ok (.iaload, 1) := by decide +kernel
theorem k369_451 : decode (gb 369) 451 = .ok (.invokevirtual 56, 3) := by decide +kernel
theorem k369_454 : decode (gb 369) 454 = .ok (.aload_n 2, 1) := by decide +kernel
theorem k369_455 : decode (gb 369) 455 = .ok (.aload_n 0, 1) := by decide +kernel
theorem k369_456 : decode (gb 369) 456 = .ok (.iload_n 3, 1) := by decide +kernel
theorem k369_457 : decode (gb 369) 457 = .ok (.iconst 1, 1) := by decide +kernel
theorem k369_458 : decode (gb 369) 458 = .ok (.iadd, 1) := by decide +kernel
theorem k369_459 : decode (gb 369) 459 = .ok (.iaload, 1) := by decide +kernel
theorem k369_460 : decode (gb 369) 460 = .ok (.aload_n 0, 1) := by decide +kernel
theorem k369_461 : decode (gb 369) 461 = .ok (.iload_n 3, 1) := by decide +kernel
theorem k369_462 : decode (gb 369) 462 = .ok (.iconst 2, 1) := by decide +kernel
theorem k369_463 : decode (gb 369) 463 = .ok (.iadd, 1) := by decide +kernel
theorem k369_464 : decode (gb 369) 464 = .ok (.iaload, 1) := by decide +kernel
theorem k369_465 : decode (gb 369) 465 = .ok (.invokevirtual 59, 3) := by decide +kernel
theorem k369_468 : decode (gb 369) 468 = .ok (.if_icmp .eq 687, 3) := by decide +kernel
theorem k369_471 : decode (gb 369) 471 = .ok (.iconst 0, 1) := by decide +kernel
theorem k369_472 : decode (gb 369) 472 = .ok (.ireturn, 1) := by decide +kernel
theorem k369_473 : decode (gb 369) 473 = .ok (.aload_n 1, 1) := by decide +kernel
theorem k369_474 : decode (gb 369) 474 = .ok (.aload_n 0, 1) := by decide +kernel
theorem k369_475 : decode (gb 369) 475 = .ok (.iload_n 3, 1) := by decide +kernel
theorem k369_476 : decode (gb 369) 476 = .ok (.iconst 1, 1) := by decide +kernel
theorem k369_477 : decode (gb 369) 477 = .ok (.iadd, 1) := by decide +kernel
theorem k369_478 : decode (gb 369) 478 = .ok (.iaload, 1) := by decide +kernel
theorem k369_479 : decode (gb 369) 479 = .ok (.invokevirtual 60, 3) := by decide +kernel
theorem k369_482 : decode (gb 369) 482 = .ok (.aload_n 2, 1) := by decide +kernel
theorem k369_483 : decode (gb 369) 483 = .ok (.aload_n 0, 1) := by decide +kernel
theorem k369_484 : decode (gb 369) 484 = .ok (.iload_n 3, 1) := by decide +kernel
theorem k369_485 : decode (gb 369) 485 = .ok (.iconst 1, 1) := by decide +kernel
theorem k369_486 : decode (gb 369) 486 = .ok (.iadd, 1) := by decide +kernel
theorem k369_487 : decode (gb 369) 487 = .ok (.iaload, 1) := by decide +kernel
theorem k369_488 : decode (gb 369) 488 = .ok (.invokevirtual 63, 3) := by decide +kernel
theorem k369_491 : decode (gb 369) 491 = .ok (.if_icmp .eq 664, 3) := by decide +kernel
theorem k369_494 : decode (gb 369) 494 = .ok (.iconst 0, 1) := by decide +kernel
theorem k369_495 : decode (gb 369) 495 = .ok (.ireturn, 1) := by decide +kernel
theorem k369_496 : decode (gb 369) 496 = .ok (.aload_n 1, 1) := by decide +kernel
theorem k369_497 : decode (gb 369) 497 = .ok (.aload_n 0, 1) := by decide +kernel
theorem k369_498 : decode (gb 369) 498 = .ok (.iload_n 3, 1) := by decide +kernel
theorem k369_499 : decode (gb 369) 499 = .ok (.iconst 1, 1) := by decide +kernel
theorem k369_500 : decode (gb 369) 500 = .ok (.iadd, 1) := by decide +kernel
theorem k369_501 : decode (gb 369) 501 = .ok (.iaload, 1) := by decide +kernel
theorem k369_502 : decode (gb 369) 502 = .ok (.aload_n 0, 1) := by decide +kernel
theorem k369_503 : decode (gb 369) 503 = .ok (.iload_n 3, 1) := by decide +kernel
theorem k369_504 : decode (gb 369) 504 = .ok (.iconst 2, 1) := by decide +kernel
theorem k369_505 : decode (gb 369) 505 = .ok (.iadd, 1) := by decide +kernel
theorem k369_506 : decode (gb 369) 506 = .ok (.iaload, 1) := by decide +kernel
theorem k369_507 : decode (gb 369) 507 = .ok (.aload_n 0, 1) := by decide +kernel
theorem k369_508 : decode (gb 369) 508 = .ok (.iload_n 3, 1) := by decide +kernel
theorem k369_509 : decode (gb 369) 509 = .ok (.iconst 3, 1) := by decide +kernel
theorem k369_510 : decode (gb 369) 510 = .ok (.iadd, 1) := by decide +kernel
theorem k369_511 : decode (gb 369) 511 = .ok (.iaload, 1) := by decide +kernel
theorem k369_512 : decode (gb 369) 512 = .ok (.invokevirtual 64, 3) := by decide +kernel
theorem k369_515 : decode (gb 369) 515 = .ok (.aload_n 2, 1) := by decide +kernel
theorem k369_516 : decode (gb 369) 516 = .ok (.aload_n 0, 1) := by decide +kernel
theorem k369_517 : decode (gb 369) 517 = .ok (.iload_n 3, 1) := by decide +kernel
theorem k369_518 : decode (gb 369) 518 = .ok (.iconst 1, 1) := by decide +kernel
theorem k369_519 : decode (gb 369) 519 = .ok (.iadd, 1) := by decide +kernel
theorem k369_520 : decode (gb 369) 520 = .ok (.iaload, 1) := by decide +kernel
theorem k369_521 : decode (gb 369) 521 = .ok (.aload_n 0, 1) := by decide +kernel
theorem k369_522 : decode (gb 369) 522 = .ok (.iload_n 3, 1) := by decide +kernel
theorem k369_523 : decode (gb 369) 523 = .ok (.iconst 2, 1) := by decide +kernel
theorem k369_524 : decode (gb 369) 524 = .ok (.iadd, 1) := by decide +kernel
theorem k369_525 : decode (gb 369) 525 = .ok (.iaload, 1) := by decide +kernel
theorem k369_526 : decode (gb 369) 526 = .ok (.aload_n 0, 1) := by decide +kernel
theorem k369_527 : decode (gb 369) 527 = .ok (.iload_n 3, 1) := by decide +kernel
theorem k369_528 : decode (gb 369) 528 = .ok (.iconst 3, 1) := by decide +kernel
theorem k369_529 : decode (gb 369) 529 = .ok (.iadd, 1) := by decide +kernel
theorem k369_530 : decode (gb 369) 530 = .ok (.iaload, 1) := by decide +kernel
theorem k369_531 : decode (gb 369) 531 = .ok (.invokevirtual 68, 3) := by decide +kernel
theorem k369_534 : decode (gb 369) 534 = .ok (.if_icmp .eq 621, 3) := by decide +kernel
theorem k369_537 : decode (gb 369) 537 = .ok (.iconst 0, 1) := by decide +kernel
theorem k369_538 : decode (gb 369) 538 = .ok (.ireturn, 1) := by decide +kernel
theorem k369_539 : decode (gb 369) 539 = .ok (.aload_n 1, 1) := by decide +kernel
theorem k369_540 : decode (gb 369) 540 = .ok (.aload_n 0, 1) := by decide +kernel
theorem k369_541 : decode (gb 369) 541 = .ok (.iload_n 3, 1) := by decide +kernel
theorem k369_542 : decode (gb 369) 542 = .ok (.iconst 1, 1) := by decide +kernel
theorem k369_543 : decode (gb 369) 543 = .ok (.iadd, 1) := by decide +kernel
theorem k369_544 : decode (gb 369) 544 = .ok (.iaload, 1) := by decide +kernel
theorem k369_545 : decode (gb 369) 545 = .ok (.aload_n 0, 1) := by decide +kernel
theorem k369_546 : decode (gb 369) 546 = .ok (.iload_n 3, 1) := by decide +kernel
theorem k369_547 : decode (gb 369) 547 = .ok (.iconst 2, 1) := by decide +kernel
theorem k369_548 : decode (gb 369) 548 = .ok (.iadd, 1) := by decide +kernel
theorem k369_549 : decode (gb 369) 549 = .ok (.iaload, 1) := by decide +kernel
theorem k369_550 : decode (gb 369) 550 = .ok (.aload_n 0, 1) := by decide +kernel
theorem k369_551 : decode (gb 369) 551 = .ok (.iload_n 3, 1) := by decide +kernel
theorem k369_552 : decode (gb 369) 552 = .ok (.iconst 3, 1) := by decide +kernel
theorem k369_553 : decode (gb 369) 553 = .ok (.iadd, 1) := by decide +kernel
theorem k369_554 : decode (gb 369) 554 = .ok (.iaload, 1) := by decide +kernel
theorem k369_555 : decode (gb 369) 555 = .ok (.aload_n 0, 1) := by decide +kernel
theorem k369_556 : decode (gb 369) 556 = .ok (.iload_n 3, 1) := by decide +kernel
theorem k369_557 : decode (gb 369) 557 = .ok (.iconst 4, 1) := by decide +kernel
theorem k369_558 : decode (gb 369) 558 = .ok (.iadd, 1) := by decide +kernel
theorem k369_559 : decode (gb 369) 559 = .ok (.iaload, 1) := by decide +kernel
theorem k369_560 : decode (gb 369) 560 = .ok (.ifCond .eq 7, 3) := by decide +kernel
theorem k369_563 : decode (gb 369) 563 = .ok (.iconst 1, 1) := by decide +kernel
theorem k369_564 : decode (gb 369) 564 = .ok (.goto 4, 3) := by decide +kernel
theorem k369_567 : decode (gb 369) 567 = .ok (.iconst 0, 1) := by decide +kernel
theorem k369_568 : decode (gb 369) 568 = .ok (.invokevirtual 69, 3) := by decide +kernel
theorem k369_571 : decode (gb 369) 571 = .ok (.aload_n 2, 1) := by decide +kernel
theorem k369_572 : decode (gb 369) 572 = .ok (.aload_n 0, 1) := by decide +kernel
theorem k369_573 : decode (gb 369) 573 = .ok (.iload_n 3, 1) := by decide +kernel
theorem k369_574 : decode (gb 369) 574 = .ok (.iconst 1, 1) := by decide +kernel
theorem k369_575 : decode (gb 369) 575 = .ok (.iadd, 1) := by decide +kernel
theorem k369_576 : decode (gb 369) 576 = .ok (.iaload, 1) := by decide +kernel
theorem k369_577 : decode (gb 369) 577 = .ok (.aload_n 0, 1) := by decide +kernel
theorem k369_578 : decode (gb 369) 578 = .ok (.iload_n 3, 1) := by decide +kernel
theorem k369_579 : decode (gb 369) 579 = .ok (.iconst 2, 1) := by decide +kernel
theorem k369_580 : decode (gb 369) 580 = .ok (.iadd, 1) := by decide +kernel
theorem k369_581 : decode (gb 369) 581 = .ok (.iaload, 1) := by decide +kernel
theorem k369_582 : decode (gb 369) 582 = .ok (.aload_n 0, 1) := by decide +kernel
theorem k369_583 : decode (gb 369) 583 = .ok (.iload_n 3, 1) := by decide +kernel
theorem k369_584 : decode (gb 369) 584 = .ok (.iconst 3, 1) := by decide +kernel
theorem k369_585 : decode (gb 369) 585 = .ok (.iadd, 1) := by decide +kernel
theorem k369_586 : decode (gb 369) 586 = .ok (.iaload, 1) := by decide +kernel
theorem k369_587 : decode (gb 369) 587 = .ok (.aload_n 0, 1) := by decide +kernel
theorem k369_588 : decode (gb 369) 588 = .ok (.iload_n 3, 1) := by decide +kernel
theorem k369_589 : decode (gb 369) 589 = .ok (.iconst 4, 1) := by decide +kernel
theorem k369_590 : decode (gb 369) 590 = .ok (.iadd, 1) := by decide +kernel
theorem k369_591 : decode (gb 369) 591 = .ok (.iaload, 1) := by decide +kernel
theorem k369_592 : decode (gb 369) 592 = .ok (.ifCond .eq 7, 3) := by decide +kernel
theorem k369_595 : decode (gb 369) 595 = .ok (.iconst 1, 1) := by decide +kernel
theorem k369_596 : decode (gb 369) 596 = .ok (.goto 4, 3) := by decide +kernel
theorem k369_599 : decode (gb 369) 599 = .ok (.iconst 0, 1) := by decide +kernel
theorem k369_600 : decode (gb 369) 600 = .ok (.invokevirtual 73, 3) := by decide +kernel
theorem k369_603 : decode (gb 369) 603 = .ok (.if_icmp .eq 552, 3) := by decide +kernel
theorem k369_606 : decode (gb 369) 606 = .ok (.iconst 0, 1) := by decide +kernel
theorem k369_607 : decode (gb 369) 607 = .ok (.ireturn, 1) := by decide +kernel
theorem k369_608 : decode (gb 369) 608 = .ok (.aload_n 1, 1) := by decide +kernel
theorem k369_609 : decode (gb 369) 609 = .ok (.invokevirtual 74, 3) := by decide +kernel
theorem k369_612 : decode (gb 369) 612 = .ok (.aload_n 2, 1) := by decide +kernel
theorem k369_613 : decode (gb 369) 613 = .ok (.invokevirtual 77, 3) := by decide +kernel
theorem k369_616 : decode (gb 369) 616 = .ok (.if_icmp .eq 539, 3) := by decide +kernel
theorem k369_619 : decode (gb 369) 619 = .ok (.iconst 0, 1) := by decide +kernel
theorem k369_620 : decode (gb 369) 620 = .ok (.ireturn, 1) := by decide +kernel
theorem k369_621 : decode (gb 369) 621 = .ok (.aload_n 1, 1) := by decide +kernel
theorem k369_622 : decode (gb 369) 622 = .ok (.aload_n 0, 1) := by decide +kernel
theorem k369_623 : decode (gb 369) 623 = .ok (.iload_n 3, 1) := by decide +kernel
theorem k369_624 : decode (gb 369) 624 = .ok (.iconst 1, 1) := by decide +kernel
theorem k369_625 : decode (gb 369) 625 = .ok (.iadd, 1) := by decide +kernel
theorem k369_626 : decode (gb 369) 626 = .ok (.iaload, 1) := by decide +kernel
theorem k369_627 : decode (gb 369) 627 = .ok (.aload_n 0, 1) := by decide +kernel
theorem k369_628 : decode (gb 369) 628 = .ok (.iload_n 3, 1) := by decide +kernel
theorem k369_629 : decode (gb 369) 629 = .ok (.iconst 2, 1) := by decide +kernel
theorem k369_630 : decode (gb 369) 630 = .ok (.iadd, 1) := by decide +kernel
theorem k369_631 : decode (gb 369) 631 = .ok (.iaload, 1) := by decide +kernel
theorem k369_632 : decode (gb 369) 632 = .ok (.invokevirtual 78, 3) := by decide +kernel
theorem k369_635 : decode (gb 369) 635 = .ok (.aload_n 2, 1) := by decide +kernel
theorem k369_636 : decode (gb 369) 636 = .ok (.aload_n 0, 1) := by decide +kernel
theorem k369_637 : decode (gb 369) 637 = .ok (.iload_n 3, 1) := by decide +kernel
theorem k369_638 : decode (gb 369) 638 = .ok (.iconst 1, 1) := by decide +kernel
theorem k369_639 : decode (gb 369) 639 = .ok (.iadd, 1) := by decide +kernel
theorem k369_640 : decode (gb 369) 640 = .ok (.iaload, 1) := by decide +kernel
theorem k369_641 : decode (gb 369) 641 = .ok (.aload_n 0, 1) := by decide +kernel
theorem k369_642 : decode (gb 369) 642 = .ok (.iload_n 3, 1) := by decide +kernel
theorem k369_643 : decode (gb 369) 643 = .ok (.iconst 2, 1) := by decide +kernel
theorem k369_644 : decode (gb 369) 644 = .ok (.iadd, 1) := by decide +kernel
theorem k369_645 : decode (gb 369) 645 = .ok (.iaload, 1) := by decide +kernel
theorem k369_646 : decode (gb 369) 646 = .ok (.invokevirtual 81, 3) := by decide +kernel
theorem k369_649 : decode (gb 369) 649 = .ok (.if_icmp .eq 506, 3) := by decide +kernel
theorem k369_652 : decode (gb 369) 652 = .ok (.iconst 0, 1) := by decide +kernel
theorem k369_653 : decode (gb 369) 653 = .ok (.ireturn, 1) := by decide +kernel
theorem k369_654 : decode (gb 369) 654 = .ok (.aload_n 1, 1) := by decide +kernel
theorem k369_655 : decode (gb 369) 655 = .ok (.aload_n 0, 1) := by decide +kernel
theorem k369_656 : decode (gb 369) 656 = .ok (.iload_n 3, 1) := by decide +kernel
theorem k369_657 : decode (gb 369) 657 = .ok (.iconst 1, 1) := by decide +kernel
theorem k369_658 : decode (gb 369) 658 = .ok (.iadd, 1) := by decide +kernel
theorem k369_659 : decode (gb 369) 659 = .ok (.iaload, 1) := by decide +kernel
theorem k369_660 : decode (gb 369) 660 = .ok (.aload_n 0, 1) := by decide +kernel
theorem k369_661 : decode (gb 369) 661 = .ok (.iload_n 3, 1) := by decide +kernel
theorem k369_662 : decode (gb 369) 662 = .ok (.iconst 2, 1) := by decide +kernel
theorem k369_663 : decode (gb 369) 663 = .ok (.iadd, 1) := by decide +kernel
theorem k369_664 : decode (gb 369) 664 = .ok (.iaload, 1) := by decide +kernel
theorem k369_665 : decode (gb 369) 665 = .ok (.invokevirtual 82, 3) := by decide +kernel
theorem k369_668 : decode (gb 369) 668 = .ok (.aload_n 2, 1) := by decide +kernel
theorem k369_669 : decode (gb 369) 669 = .ok (.aload_n 0, 1) := by decide +kernel
theorem k369_670 : decode (gb 369) 670 = .ok (.iload_n 3, 1) := by decide +kernel
theorem k369_671 : decode (gb 369) 671 = .ok (.iconst 1, 1) := by decide +kernel
theorem k369_672 : decode (gb 369) 672 = .ok (.iadd, 1) := by decide +kernel
theorem k369_673 : decode (gb 369) 673 = .ok (.iaload, 1) := by decide +kernel
theorem k369_674 : decode (gb 369) 674 = .ok (.aload_n 0, 1) := by decide +kernel
theorem k369_675 : decode (gb 369) 675 = .ok (.iload_n 3, 1) := by decide +kernel
theorem k369_676 : decode (gb 369) 676 = .ok (.iconst 2, 1) := by decide +kernel
theorem k369_677 : decode (gb 369) 677 = .ok (.iadd, 1) := by decide +kernel
theorem k369_678 : decode (gb 369) 678 = .ok (.iaload, 1) := by decide +kernel
theorem k369_679 : decode (gb 369) 679 = .ok (.invokevirtual 85, 3) := by decide +kernel
theorem k369_682 : decode (gb 369) 682 = .ok (.if_icmp .eq 473, 3) := by decide +kernel
theorem k369_685 : decode (gb 369) 685 = .ok (.iconst 0, 1) := by decide +kernel
theorem k369_686 : decode (gb 369) 686 = .ok (.ireturn, 1) := by decide +kernel
theorem k369_687 : decode (gb 369) 687 = .ok (.aload_n 1, 1) := by decide +kernel
theorem k369_688 : decode (gb 369) 688 = .ok (.aload_n 0, 1) := by decide +kernel
theorem k369_689 : decode (gb 369) 689 = .ok (.iload_n 3, 1) := by decide +kernel
theorem k369_690 : decode (gb 369) 690 = .ok (.iconst 1, 1) := by decide +kernel
theorem k369_691 : decode (gb 369) 691 = .ok (.iadd, 1) := by decide +kernel
theorem k369_692 : decode (gb 369) 692 = .ok (.iaload, 1) := by decide +kernel
theorem k369_693 : decode (gb 369) 693 = .ok (.invokevirtual 86, 3) := by decide +kernel
theorem k369_696 : decode (gb 369) 696 = .ok (.aload_n 2, 1) := by decide +kernel
theorem k369_697 : decode (gb 369) 697 = .ok (.aload_n 0, 1) := by decide +kernel
theorem k369_698 : decode (gb 369) 698 = .ok (.iload_n 3, 1) := by decide +kernel
theorem k369_699 : decode (gb 369) 699 = .ok (.iconst 1, 1) := by decide +kernel
theorem k369_700 : decode (gb 369) 700 = .ok (.iadd, 1) := by decide +kernel
theorem k369_701 : decode (gb 369) 701 = .ok (.iaload, 1) := by decide +kernel
theorem k369_702 : decode (gb 369) 702 = .ok (.invokevirtual 89, 3) := by decide +kernel
theorem k369_705 : decode (gb 369) 705 = .ok (.if_icmp .eq 450, 3) := by decide +kernel
theorem k369_708 : decode (gb 369) 708 = .ok (.iconst 0, 1) := by decide +kernel
theorem k369_709 : decode (gb 369) 709 = .ok (.ireturn, 1) := by decide +kernel
theorem k369_710 : decode (gb 369) 710 = .ok (.aload_n 1, 1) := by decide +kernel
theorem k369_711 : decode (gb 369) 711 = .ok (.aload_n 0, 1) := by decide +kernel
theorem k369_712 : decode (gb 369) 712 = .ok (.iload_n 3, 1) := by decide +kernel
theorem k369_713 : decode (gb 369) 713 = .ok (.iconst 1, 1) := by decide +kernel
theorem k369_714 : decode (gb 369) 714 = .ok (.iadd, 1) := by decide +kernel
theorem k369_715 : decode (gb 369) 715 = .ok (.iaload, 1) := by decide +kernel
theorem k369_716 : decode (gb 369) 716 = .ok (.aload_n 0, 1) := by decide +kernel
theorem k369_717 : decode (gb 369) 717 = .ok (.iload_n 3, 1) := by decide +kernel
theorem k369_718 : decode (gb 369) 718 = .ok (.iconst 2, 1) := by decide +kernel
theorem k369_719 : decode (gb 369) 719 = .ok (.iadd, 1) := by decide +kernel
theorem k369_720 : decode (gb 369) 720 = .ok (.iaload, 1) := by decide +kernel
theorem k369_721 : decode (gb 369) 721 = .ok (.invokevirtual 90, 3) := by decide +kernel
theorem k369_724 : decode (gb 369) 724 = .ok (.aload_n 2, 1) := by decide +kernel
theorem k369_725 : decode (gb 369) 725 = .ok (.aload_n 0, 1) := by decide +kernel
theorem k369_726 : decode (gb 369) 726 = .ok (.iload_n 3, 1) := by decide +kernel
theorem k369_727 : decode (gb 369) 727 = .ok (.iconst 1, 1) := by decide +kernel
theorem k369_728 : decode (gb 369) 728 = .ok (.iadd, 1) := by decide +kernel
theorem k369_729 : decode (gb 369) 729 = .ok (.iaload, 1) := by decide +kernel
theorem k369_730 : decode (gb 369) 730 = .ok (.aload_n 0, 1) := by decide +kernel
theorem k369_731 : decode (gb 369) 731 = .ok (.iload_n 3, 1) := by decide +kernel
theorem k369_732 : decode (gb 369) 732 = .ok (.iconst 2, 1) := by decide +kernel
theorem k369_733 : decode (gb 369) 733 = .ok (.iadd, 1) := by decide +kernel
theorem k369_734 : decode (gb 369) 734 = .ok (.iaload, 1) := by decide +kernel
theorem k369_735 : decode (gb 369) 735 = .ok (.invokevirtual 93, 3) := by decide +kernel
theorem k369_738 : decode (gb 369) 738 = .ok (.if_icmp .eq 417, 3) := by decide +kernel
theorem k369_741 : decode (gb 369) 741 = .ok (.iconst 0, 1) := by decide +kernel
theorem k369_742 : decode (gb 369) 742 = .ok (.ireturn, 1) := by decide +kernel
theorem k369_743 : decode (gb 369) 743 = .ok (.aload_n 1, 1) := by decide +kernel
theorem k369_744 : decode (gb 369) 744 = .ok (.aload_n 0, 1) := by decide +kernel
theorem k369_745 : decode (gb 369) 745 = .ok (.iload_n 3, 1) := by decide +kernel
theorem k369_746 : decode (gb 369) 746 = .ok (.iconst 1, 1) := by decide +kernel
theorem k369_747 : decode (gb 369) 747 = .ok (.iadd, 1) := by decide +kernel
theorem k369_748 : decode (gb 369) 748 = .ok (.iaload, 1) := by decide +kernel
theorem k369_749 : decode (gb 369) 749 = .ok (.invokevirtual 94, 3) := by decide +kernel
theorem k369_752 : decode (gb 369) 752 = .ok (.aload_n 2, 1) := by decide +kernel
theorem k369_753 : decode (gb 369) 753 = .ok (.aload_n 0, 1) := by decide +kernel
theorem k369_754 : decode (gb 369) 754 = .ok (.iload_n 3, 1) := by decide +kernel
theorem k369_755 : decode (gb 369) 755 = .ok (.iconst 1, 1) := by decide +kernel
theorem k369_756 : decode (gb 369) 756 = .ok (.iadd, 1) := by decide +kernel
theorem k369_757 : decode (gb 369) 757 = .ok (.iaload, 1) := by decide +kernel
theorem k369_758 : decode (gb 369) 758 = .ok (.invokevirtual 97, 3) := by decide +kernel
theorem k369_761 : decode (gb 369) 761 = .ok (.if_icmp .eq 394, 3) := by decide +kernel
theorem k369_764 : decode (gb 369) 764 = .ok (.iconst 0, 1) := by decide +kernel
theorem k369_765 : decode (gb 369) 765 = .ok (.ireturn, 1) := by decide +kernel
theorem k369_766 : decode (gb 369) 766 = .ok (.aload_n 1, 1) := by decide +kernel
theorem k369_767 : decode (gb 369) 767 = .ok (.aload_n 0, 1) := by decide +kernel
theorem k369_768 : decode (gb 369) 768 = .ok (.iload_n 3, 1) := by decide +kernel
theorem k369_769 : decode (gb 369) 769 = .ok (.iconst 1, 1) := by decide +kernel
theorem k369_770 : decode (gb 369) 770 = .ok (.iadd, 1) := by decide +kernel
theorem k369_771 : decode (gb 369) 771 = .ok (.iaload, 1) := by decide +kernel
theorem k369_772 : decode (gb 369) 772 = .ok (.aload_n 0, 1) := by decide +kernel
theorem k369_773 : decode (gb 369) 773 = .ok (.iload_n 3, 1) := by decide +kernel
theorem k369_774 : decode (gb 369) 774 = .ok (.iconst 2, 1) := by decide +kernel
theorem k369_775 : decode (gb 369) 775 = .ok (.iadd, 1) := by decide +kernel
theorem k369_776 : decode (gb 369) 776 = .ok (.iaload, 1) := by decide +kernel
theorem k369_777 : decode (gb 369) 777 = .ok (.invokevirtual 98, 3) := by decide +kernel
theorem k369_780 : decode (gb 369) 780 = .ok (.aload_n 2, 1) := by decide +kernel
theorem k369_781 : decode (gb 369) 781 = .ok (.aload_n 0, 1) := by decide +kernel
theorem k369_782 : decode (gb 369) 782 = .ok (.iload_n 3, 1) := by decide +kernel
theorem k369_783 : decode (gb 369) 783 = .ok (.iconst 1, 1) := by decide +kernel
theorem k369_784 : decode (gb 369) 784 = .ok (.iadd, 1) := by decide +kernel
theorem k369_785 : decode (gb 369) 785 = .ok (.iaload, 1) := by decide +kernel
theorem k369_786 : decode (gb 369) 786 = .ok (.aload_n 0, 1) := by decide +kernel
theorem k369_787 : decode (gb 369) 787 = .ok (.iload_n 3, 1) := by decide +kernel
theorem k369_788 : decode (gb 369) 788 = .ok (.iconst 2, 1) := by decide +kernel
theorem k369_789 : decode (gb 369) 789 = .ok (.iadd, 1) := by decide +kernel
theorem k369_790 : decode (gb 369) 790 = .ok (.iaload, 1) := by decide +kernel
theorem k369_791 : decode (gb 369) 791 = .ok (.invokevirtual 101, 3) := by decide +kernel
theorem k369_794 : decode (gb 369) 794 = .ok (.if_icmp .eq 361, 3) := by decide +kernel
theorem k369_797 : decode (gb 369) 797 = .ok (.iconst 0, 1) := by decide +kernel
theorem k369_798 : decode (gb 369) 798 = .ok (.ireturn, 1) := by decide +kernel
theorem k369_799 : decode (gb 369) 799 = .ok (.aload_n 1, 1) := by decide +kernel
theorem k369_800 : decode (gb 369) 800 = .ok (.aload_n 0, 1) := by decide +kernel
theorem k369_801 : decode (gb 369) 801 = .ok (.iload_n 3, 1) := by decide +kernel
theorem k369_802 : decode (gb 369) 802 = .ok (.iconst 1, 1) := by decide +kernel
theorem k369_803 : decode (gb 369) 803 = .ok (.iadd, 1) := by decide +kernel
theorem k369_804 : decode (gb 369) 804 = .ok (.iaload, 1) := by decide +kernel
theorem k369_805 : decode (gb 369) 805 = .ok (.aload_n 0, 1) := by decide +kernel
theorem k369_806 : decode (gb 369) 806 = .ok (.iload_n 3, 1) := by decide +kernel
theorem k369_807 : decode (gb 369) 807 = .ok (.iconst 2, 1) := by decide +kernel
theorem k369_808 : decode (gb 369) 808 = .ok (.iadd, 1) := by decide +kernel
theorem k369_809 : decode (gb 369) 809 = .ok (.iaload, 1) := by decide +kernel
theorem k369_810 : decode (gb 369) 810 = .ok (.invokevirtual 102, 3) := by decide +kernel
theorem k369_813 : decode (gb 369) 813 = .ok (.aload_n 2, 1) := by decide +kernel
theorem k369_814 : decode (gb 369) 814 = .ok (.aload_n 0, 1) := by decide +kernel
theorem k369_815 : decode (gb 369) 815 = .ok (.iload_n 3, 1) := by decide +kernel
theorem k369_816 : decode (gb 369) 816 = .ok (.iconst 1, 1) := by decide +kernel
theorem k369_817 : decode (gb 369) 817 = .ok (.iadd, 1) := by decide +kernel
theorem k369_818 : decode (gb 369) 818 = .ok (.iaload, 1) := by decide +kernel
theorem k369_819 : decode (gb 369) 819 = .ok (.aload_n 0, 1) := by decide +kernel
theorem k369_820 : decode (gb 369) 820 = .ok (.iload_n 3, 1) := by decide +kernel
theorem k369_821 : decode (gb 369) 821 = .ok (.iconst 2, 1) := by decide +kernel
theorem k369_822 : decode (gb 369) 822 = .ok (.iadd, 1) := by decide +kernel
theorem k369_823 : decode (gb 369) 823 = .ok (.iaload, 1) := by decide +kernel
theorem k369_824 : decode (gb 369) 824 = .ok (.invokevirtual 105, 3) := by decide +kernel
theorem k369_827 : decode (gb 369) 827 = .ok (.if_icmp .eq 328, 3) := by decide +kernel
theorem k369_830 : decode (gb 369) 830 = .ok (.iconst 0, 1) := by decide +kernel
theorem k369_831 : decode (gb 369) 831 = .ok (.ireturn, 1) := by decide +kernel
theorem k369_832 : decode (gb 369) 832 = .ok (.aload_n 1, 1) := by decide +kernel
theorem k369_833 : decode (gb 369) 833 = .ok (.aload_n 0, 1) := by decide +kernel
theorem k369_834 : decode (gb 369) 834 = .ok (.iload_n 3, 1) := by decide +kernel
theorem k369_835 : decode (gb 369) 835 = .ok (.iconst 1, 1) := by decide +kernel
theorem k369_836 : decode (gb 369) 836 = .ok (.iadd, 1) := by decide +kernel
theorem k369_837 : decode (gb 369) 837 = .ok (.iaload, 1) := by decide +kernel
theorem k369_838 : decode (gb 369) 838 = .ok (.aload_n 0, 1) := by decide +kernel
theorem k369_839 : decode (gb 369) 839 = .ok (.iload_n 3, 1) := by decide +kernel
theorem k369_840 : decode (gb 369) 840 = .ok (.iconst 2, 1) := by decide +kernel
theorem k369_841 : decode (gb 369) 841 = .ok (.iadd, 1) := by decide +kernel
theorem k369_842 : decode (gb 369) 842 = .ok (.iaload, 1) := by decide +kernel
theorem k369_843 : decode (gb 369) 843 = .ok (.invokevirtual 106, 3) := by decide +kernel
theorem k369_846 : decode (gb 369) 846 = .ok (.aload_n 2, 1) := by decide +kernel
theorem k369_847 : decode (gb 369) 847 = .ok (.aload_n 0, 1) := by decide +kernel
theorem k369_848 : decode (gb 369) 848 = .ok (.iload_n 3, 1) := by decide +kernel
theorem k369_849 : decode (gb 369) 849 = .ok (.iconst 1, 1) := by decide +kernel
theorem k369_850 : decode (gb 369) 850 = .ok (.iadd, 1) := by decide +kernel
theorem k369_851 : decode (gb 369) 851 = .ok (.iaload, 1) := by decide +kernel
theorem k369_852 : decode (gb 369) 852 = .ok (.aload_n 0, 1) := by decide +kernel
theorem k369_853 : decode (gb 369) 853 = .ok (.iload_n 3, 1) := by decide +kernel
theorem k369_854 : decode (gb 369) 854 = .ok (.iconst 2, 1) := by decide +kernel
theorem k369_855 : decode (gb 369) 855 = .ok (.iadd, 1) := by decide +kernel
theorem k369_856 : decode (gb 369) 856 = .ok (.iaload, 1) := by decide +kernel
theorem k369_857 : decode (gb 369) 857 = .ok (.invokevirtual 109, 3) := by decide +kernel
theorem k369_860 : decode (gb 369) 860 = .ok (.if_icmp .eq 295, 3) := by decide +kernel
theorem k369_863 : decode (gb 369) 863 = .ok (.iconst 0, 1) := by decide +kernel
theorem k369_864 : decode (gb 369) 864 = .ok (.ireturn, 1) := by decide +kernel
theorem k369_865 : decode (gb 369) 865 = .ok (.aload_n 1, 1) := by decide +kernel
theorem k369_866 : decode (gb 369) 866 = .ok (.aload_n 0, 1) := by decide +kernel
theorem k369_867 : decode (gb 369) 867 = .ok (.iload_n 3, 1) := by decide +kernel
theorem k369_868 : decode (gb 369) 868 = .ok (.iconst 1, 1) := by decide +kernel
theorem k369_869 : decode (gb 369) 869 = .ok (.iadd, 1) := by decide +kernel
theorem k369_870 : decode (gb 369) 870 = .ok (.iaload, 1) := by decide +kernel
theorem k369_871 : decode (gb 369) 871 = .ok (.invokevirtual 110, 3) := by decide +kernel
theorem k369_874 : decode (gb 369) 874 = .ok (.aload_n 2, 1) := by decide +kernel
theorem k369_875 : decode (gb 369) 875 = .ok (.aload_n 0, 1) := by decide +kernel
theorem k369_876 : decode (gb 369) 876 = .ok (.iload_n 3, 1) := by decide +kernel
theorem k369_877 : decode (gb 369) 877 = .ok (.iconst 1, 1) := by decide +kernel
theorem k369_878 : decode (gb 369) 878 = .ok (.iadd, 1) := by decide +kernel
theorem k369_879 : decode (gb 369) 879 = .ok (.iaload, 1) := by decide +kernel
theorem k369_880 : decode (gb 369) 880 = .ok (.invokevirtual 113, 3) := by decide +kernel
theorem k369_883 : decode (gb 369) 883 = .ok (.if_icmp .eq 272, 3) := by decide +kernel
theorem k369_886 : decode (gb 369) 886 = .ok (.iconst 0, 1) := by decide +kernel
theorem k369_887 : decode (gb 369) 887 = .ok (.ireturn, 1) := by decide +kernel
theorem k369_888 : decode (gb 369) 888 = .ok (.aload_n 1, 1) := by decide +kernel
theorem k369_889 : decode (gb 369) 889 = .ok (.aload_n 0, 1) := by decide +kernel
theorem k369_890 : decode (gb 369) 890 = .ok (.iload_n 3, 1) := by decide +kernel
theorem k369_891 : decode (gb 369) 891 = .ok (.iconst 1, 1) := by decide +kernel
theorem k369_892 : decode (gb 369) 892 = .ok (.iadd, 1) := by decide +kernel
theorem k369_893 : decode (gb 369) 893 = .ok (.iaload, 1) := by decide +kernel
theorem k369_894 : decode (gb 369) 894 = .ok (.aload_n 0, 1) := by decide +kernel
theorem k369_895 : decode (gb 369) 895 = .ok (.iload_n 3, 1) := by decide +kernel
theorem k369_896 : decode (gb 369) 896 = .ok (.iconst 2, 1) := by decide +kernel
theorem k369_897 : decode (gb 369) 897 = .ok (.iadd, 1) := by decide +kernel
theorem k369_898 : decode (gb 369) 898 = .ok (.iaload, 1) := by decide +kernel
theorem k369_899 : decode (gb 369) 899 = .ok (.invokevirtual 114, 3) := by decide +kernel
theorem k369_902 : decode (gb 369) 902 = .ok (.aload_n 2, 1) := by decide +kernel
theorem k369_903 : decode (gb 369) 903 = .ok (.aload_n 0, 1) := by decide +kernel
theorem k369_904 : decode (gb 369) 904 = .ok (.iload_n 3, 1) := by decide +kernel
theorem k369_905 : decode (gb 369) 905 = .ok (.iconst 1, 1) := by decide +kernel
theorem k369_906 : decode (gb 369) 906 = .ok (.iadd, 1) := by decide +kernel
theorem k369_907 : decode (gb 369) 907 = .ok (.iaload, 1) := by decide +kernel
theorem k369_908 : decode (gb 369) 908 = .ok (.aload_n 0, 1) := by decide +kernel
theorem k369_909 : decode (gb 369) 909 = .ok (.iload_n 3, 1) := by decide +kernel
theorem k369_910 : decode (gb 369) 910 = .ok (.iconst 2, 1) := by decide +kernel
theorem k369_911 : decode (gb 369) 911 = .ok (.iadd, 1) := by decide +kernel
theorem k369_912 : decode (gb 369) 912 = .ok (.iaload, 1) := by decide +kernel
theorem k369_913 : decode (gb 369) 913 = .ok (.invokevirtual 117, 3) := by decide +kernel
theorem k369_916 : decode (gb 369) 916 = .ok (.if_icmp .eq 239, 3) := by decide +kernel
theorem k369_919 : decode (gb 369) 919 = .ok (.iconst 0, 1) := by decide +kernel
theorem k369_920 : decode (gb 369) 920 = .ok (.ireturn, 1) := by decide +kernel
theorem k369_921 : decode (gb 369) 921 = .ok (.aload_n 1, 1) := by decide +kernel
theorem k369_922 : decode (gb 369) 922 = .ok (.aload_n 0, 1) := by decide +kernel
theorem k369_923 : decode (gb 369) 923 = .ok (.iload_n 3, 1) := by decide +kernel
theorem k369_924 : decode (gb 369) 924 = .ok (.iconst 1, 1) := by decide +kernel
theorem k369_925 : decode (gb 369) 925 = .ok (.iadd, 1) := by decide +kernel
theorem k369_926 : decode (gb 369) 926 = .ok (.iaload, 1) := by decide +kernel
theorem k369_927 : decode (gb 369) 927 = .ok (.invokevirtual 118, 3) := by decide +kernel
theorem k369_930 : decode (gb 369) 930 = .ok (.aload_n 2, 1) := by decide +kernel
theorem k369_931 : decode (gb 369) 931 = .ok (.aload_n 0, 1) := by decide +kernel
theorem k369_932 : decode (gb 369) 932 = .ok (.iload_n 3, 1) := by decide +kernel
theorem k369_933 : decode (gb 369) 933 = .ok (.iconst 1, 1) := by decide +kernel
theorem k369_934 : decode (gb 369) 934 = .ok (.iadd, 1) := by decide +kernel
theorem k369_935 : decode (gb 369) 935 = .ok (.iaload, 1) := by decide +kernel
theorem k369_936 : decode (gb 369) 936 = .ok (.invokevirtual 121, 3) := by decide +kernel
theorem k369_939 : decode (gb 369) 939 = .ok (.if_icmp .eq 216, 3) := by decide +kernel
theorem k369_942 : decode (gb 369) 942 = .ok (.iconst 0, 1) := by decide +kernel
theorem k369_943 : decode (gb 369) 943 = .ok (.ireturn, 1) := by decide +kernel
theorem k369_944 : decode (gb 369) 944 = .ok (.aload_n 1, 1) := by decide +kernel
theorem k369_945 : decode (gb 369) 945 = .ok (.aload_n 0, 1) := by decide +kernel
theorem k369_946 : decode (gb 369) 946 = .ok (.iload_n 3, 1) := by decide +kernel
theorem k369_947 : decode (gb 369) 947 = .ok (.iconst 1, 1) := by decide +kernel
theorem k369_948 : decode (gb 369) 948 = .ok (.iadd, 1) := by decide +kernel
theorem k369_949 : decode (gb 369) 949 = .ok (.iaload, 1) := by decide +kernel
theorem k369_950 : decode (gb 369) 950 = .ok (.invokevirtual 122, 3) := by decide +kernel
theorem k369_953 : decode (gb 369) 953 = .ok (.aload_n 2, 1) := by decide +kernel
theorem k369_954 : decode (gb 369) 954 = .ok (.aload_n 0, 1) := by decide +kernel
theorem k369_955 : decode (gb 369) 955 = .ok (.iload_n 3, 1) := by decide +kernel
theorem k369_956 : decode (gb 369) 956 = .ok (.iconst 1, 1) := by decide +kernel
theorem k369_957 : decode (gb 369) 957 = .ok (.iadd, 1) := by decide +kernel
theorem k369_958 : decode (gb 369) 958 = .ok (.iaload, 1) := by decide +kernel
theorem k369_959 : decode (gb 369) 959 = .ok (.invokevirtual 125, 3) := by decide +kernel
theorem k369_962 : decode (gb 369) 962 = .ok (.if_icmp .eq 193, 3) := by decide +kernel
theorem k369_965 : decode (gb 369) 965 = .ok (.iconst 0, 1) := by decide +kernel
theorem k369_966 : decode (gb 369) 966 = .ok (.ireturn, 1) := by decide +kernel
theorem k369_967 : decode (gb 369) 967 = .ok (.aload_n 1, 1) := by decide +kernel
theorem k369_968 : decode (gb 369) 968 = .ok (.aload_n 0, 1) := by decide +kernel
theorem k369_969 : decode (gb 369) 969 = .ok (.iload_n 3, 1) := by decide +kernel
theorem k369_970 : decode (gb 369) 970 = .ok (.iconst 1, 1) := by decide +kernel
theorem k369_971 : decode (gb 369) 971 = .ok (.iadd, 1) := by decide +kernel
theorem k369_972 : decode (gb 369) 972 = .ok (.iaload, 1) := by decide +kernel
theorem k369_973 : decode (gb 369) 973 = .ok (.invokevirtual 126, 3) := by decide +kernel
theorem k369_976 : decode (gb 369) 976 = .ok (.aload_n 2, 1) := by decide +kernel
theorem k369_977 : decode (gb 369) 977 = .ok (.aload_n 0, 1) := by decide +kernel
theorem k369_978 : decode (gb 369) 978 = .ok (.iload_n 3, 1) := by decide +kernel
theorem k369_979 : decode (gb 369) 979 = .ok (.iconst 1, 1) := by decide +kernel
theorem k369_980 : decode (gb 369) 980 = .ok (.iadd, 1) := by decide +kernel
theorem k369_981 : decode (gb 369) 981 = .ok (.iaload, 1) := by decide +kernel
theorem k369_982 : decode (gb 369) 982 = .ok (.invokevirtual 129, 3) := by decide +kernel
theorem k369_985 : decode (gb 369) 985 = .ok (.if_icmp .eq 170, 3) := by decide +kernel
theorem k369_988 : decode (gb 369) 988 = .ok (.iconst 0, 1) := by decide +kernel
theorem k369_989 : decode (gb 369) 989 = .ok (.ireturn, 1) := by decide +kernel
theorem k369_990 : decode (gb 369) 990 = .ok (.aload_n 1, 1) := by decide +kernel
theorem k369_991 : decode (gb 369) 991 = .ok (.aload_n 0, 1) := by decide +kernel
theorem k369_992 : decode (gb 369) 992 = .ok (.iload_n 3, 1) := by decide +kernel
theorem k369_993 : decode (gb 369) 993 = .ok (.iconst 1, 1) := by decide +kernel
theorem k369_994 : decode (gb 369) 994 = .ok (.iadd, 1) := by decide +kernel
theorem k369_995 : decode (gb 369) 995 = .ok (.iaload, 1) := by decide +kernel
theorem k369_996 : decode (gb 369) 996 = .ok (.aload_n 0, 1) := by decide +kernel
theorem k369_997 : decode (gb 369) 997 = .ok (.iload_n 3, 1) := by decide +kernel
theorem k369_998 : decode (gb 369) 998 = .ok (.iconst 2, 1) := by decide +kernel
theorem k369_999 : decode (gb 369) 999 = .ok (.iadd, 1) := by decide +kernel
theorem k369_1000 : decode (gb 369) 1000 = .ok (.iaload, 1) := by decide +kernel
theorem k369_1001 : decode (gb 369) 1001 = .ok (.invokevirtual 130, 3) := by decide +kernel
theorem k369_1004 : decode (gb 369) 1004 = .ok (.aload_n 2, 1) := by decide +kernel
theorem k369_1005 : decode (gb 369) 1005 = .ok (.aload_n 0, 1) := by decide +kernel
theorem k369_1006 : decode (gb 369) 1006 = .ok (.iload_n 3, 1) := by decide +kernel
theorem k369_1007 : decode (gb 369) 1007 = .ok (.iconst 1, 1) := by decide +kernel
theorem k369_1008 : decode (gb 369) 1008 = .ok (.iadd, 1) := by decide +kernel
theorem k369_1009 : decode (gb 369) 1009 = .ok (.iaload, 1) := by decide +kernel
theorem k369_1010 : decode (gb 369) 1010 = .ok (.aload_n 0, 1) := by decide +kernel
theorem k369_1011 : decode (gb 369) 1011 = .ok (.iload_n 3, 1) := by decide +kernel
theorem k369_1012 : decode (gb 369) 1012 = .ok (.iconst 2, 1) := by decide +kernel
theorem k369_1013 : decode (gb 369) 1013 = .ok (.iadd, 1) := by decide +kernel
theorem k369_1014 : decode (gb 369) 1014 = .ok (.iaload, 1) := by decide +kernel
theorem k369_1015 : decode (gb 369) 1015 = .ok (.invokevirtual 133, 3) := by decide +kernel
theorem k369_1018 : decode (gb 369) 1018 = .ok (.if_icmp .eq 137, 3) := by decide +kernel
theorem k369_1021 : decode (gb 369) 1021 = .ok (.iconst 0, 1) := by decide +kernel
theorem k369_1022 : decode (gb 369) 1022 = .ok (.ireturn, 1) := by decide +kernel
theorem k369_1023 : decode (gb 369) 1023 = .ok (.aload_n 1, 1) := by decide +kernel
theorem k369_1024 : decode (gb 369) 1024 = .ok (.aload_n 0, 1) := by decide +kernel
theorem k369_1025 : decode (gb 369) 1025 = .ok (.iload_n 3, 1) := by decide +kernel
theorem k369_1026 : decode (gb 369) 1026 = .ok (.iconst 1, 1) := by decide +kernel
theorem k369_1027 : decode (gb 369) 1027 = .ok (.iadd, 1) := by decide +kernel
theorem k369_1028 : decode (gb 369) 1028 = .ok (.iaload, 1) := by decide +kernel
theorem k369_1029 : decode (gb 369) 1029 = .ok (.aload_n 0, 1) := by decide +kernel
theorem k369_1030 : decode (gb 369) 1030 = .ok (.iload_n 3, 1) := by decide +kernel
theorem k369_1031 : decode (gb 369) 1031 = .ok (.iconst 2, 1) := by decide +kernel
theorem k369_1032 : decode (gb 369) 1032 = .ok (.iadd, 1) := by decide +kernel
theorem k369_1033 : decode (gb 369) 1033 = .ok (.iaload, 1) := by decide +kernel
theorem k369_1034 : decode (gb 369) 1034 = .ok (.invokevirtual 134, 3) := by decide +kernel
theorem k369_1037 : decode (gb 369) 1037 = .ok (.aload_n 2, 1) := by decide +kernel
theorem k369_1038 : decode (gb 369) 1038 = .ok (.aload_n 0, 1) := by decide +kernel
theorem k369_1039 : decode (gb 369) 1039 = .ok (.iload_n 3, 1) := by decide +kernel
theorem k369_1040 : decode (gb 369) 1040 = .ok (.iconst 1, 1) := by decide +kernel
theorem k369_1041 : decode (gb 369) 1041 = .ok (.iadd, 1) := by decide +kernel
theorem k369_1042 : decode (gb 369) 1042 = .ok (.iaload, 1) := by decide +kernel
theorem k369_1043 : decode (gb 369) 1043 = .ok (.aload_n 0, 1) := by decide +kernel
theorem k369_1044 : decode (gb 369) 1044 = .ok (.iload_n 3, 1) := by decide +kernel
theorem k369_1045 : decode (gb 369) 1045 = .ok (.iconst 2, 1) := by decide +kernel
theorem k369_1046 : decode (gb 369) 1046 = .ok (.iadd, 1) := by decide +kernel
theorem k369_1047 : decode (gb 369) 1047 = .ok (.iaload, 1) := by decide +kernel
theorem k369_1048 : decode (gb 369) 1048 = .ok (.invokevirtual 137, 3) := by decide +kernel
theorem k369_1051 : decode (gb 369) 1051 = .ok (.if_icmp .eq 104, 3) := by decide +kernel
theorem k369_1054 : decode (gb 369) 1054 = .ok (.iconst 0, 1) := by decide +kernel
theorem k369_1055 : decode (gb 369) 1055 = .ok (.ireturn, 1) := by decide +kernel
theorem k369_1056 : decode (gb 369) 1056 = .ok (.aload_n 1, 1) := by decide +kernel
theorem k369_1057 : decode (gb 369) 1057 = .ok (.aload_n 0, 1) := by decide +kernel
theorem k369_1058 : decode (gb 369) 1058 = .ok (.iload_n 3, 1) := by decide +kernel
theorem k369_1059 : decode (gb 369) 1059 = .ok (.iconst 1, 1) := by decide +kernel
theorem k369_1060 : decode (gb 369) 1060 = .ok (.iadd, 1) := by decide +kernel
theorem k369_1061 : decode (gb 369) 1061 = .ok (.iaload, 1) := by decide +kernel
theorem k369_1062 : decode (gb 369) 1062 = .ok (.aload_n 0, 1) := by decide +kernel
theorem k369_1063 : decode (gb 369) 1063 = .ok (.iload_n 3, 1) := by decide +kernel
theorem k369_1064 : decode (gb 369) 1064 = .ok (.iconst 2, 1) := by decide +kernel
theorem k369_1065 : decode (gb 369) 1065 = .ok (.iadd, 1) := by decide +kernel
theorem k369_1066 : decode (gb 369) 1066 = .ok (.iaload, 1) := by decide +kernel
theorem k369_1067 : decode (gb 369) 1067 = .ok (.invokevirtual 138, 3) := by decide +kernel
theorem k369_1070 : decode (gb 369) 1070 = .ok (.aload_n 2, 1) := by decide +kernel
theorem k369_1071 : decode (gb 369) 1071 = .ok (.aload_n 0, 1) := by decide +kernel
theorem k369_1072 : decode (gb 369) 1072 = .ok (.iload_n 3, 1) := by decide +kernel
theorem k369_1073 : decode (gb 369) 1073 = .ok (.iconst 1, 1) := by decide +kernel
theorem k369_1074 : decode (gb 369) 1074 = .ok (.iadd, 1) := by decide +kernel
theorem k369_1075 : decode (gb 369) 1075 = .ok (.iaload, 1) := by decide +kernel
theorem k369_1076 : decode (gb 369) 1076 = .ok (.aload_n 0, 1) := by decide +kernel
theorem k369_1077 : decode (gb 369) 1077 = .ok (.iload_n 3, 1) := by decide +kernel
theorem k369_1078 : decode (gb 369) 1078 = .ok (.iconst 2, 1) := by decide +kernel
theorem k369_1079 : decode (gb 369) 1079 = .ok (.iadd, 1) := by decide +kernel
theorem k369_1080 : decode (gb 369) 1080 = .ok (.iaload, 1) := by decide +kernel
theorem k369_1081 : decode (gb 369) 1081 = .ok (.invokevirtual 141, 3) := by decide +kernel
theorem k369_1084 : decode (gb 369) 1084 = .ok (.if_icmp .eq 71, 3) := by decide +kernel
theorem k369_1087 : decode (gb 369) 1087 = .ok (.iconst 0, 1) := by decide +kernel
theorem k369_1088 : decode (gb 369) 1088 = .ok (.ireturn, 1) := by decide +kernel
theorem k369_1089 : decode (gb 369) 1089 = .ok (.aload_n 1, 1) := by decide +kernel
theorem k369_1090 : decode (gb 369) 1090 = .ok (.aload_n 0, 1) := by decide +kernel
theorem k369_1091 : decode (gb 369) 1091 = .ok (.iload_n 3, 1) := by decide +kernel
theorem k369_1092 : decode (gb 369) 1092 = .ok (.iconst 1, 1) := by decide +kernel
theorem k369_1093 : decode (gb 369) 1093 = .ok (.iadd, 1) := by decide +kernel
theorem k369_1094 : decode (gb 369) 1094 = .ok (.iaload, 1) := by decide +kernel
theorem k369_1095 : decode (gb 369) 1095 = .ok (.aload_n 0, 1) := by decide +kernel
theorem k369_1096 : decode (gb 369) 1096 = .ok (.iload_n 3, 1) := by decide +kernel
theorem k369_1097 : decode (gb 369) 1097 = .ok (.iconst 2, 1) := by decide +kernel
theorem k369_1098 : decode (gb 369) 1098 = .ok (.iadd, 1) := by decide +kernel
theorem k369_1099 : decode (gb 369) 1099 = .ok (.iaload, 1) := by decide +kernel
theorem k369_1100 : decode (gb 369) 1100 = .ok (.invokevirtual 142, 3) := by decide +kernel
theorem k369_1103 : decode (gb 369) 1103 = .ok (.aload_n 2, 1) := by decide +kernel
theorem k369_1104 : decode (gb 369) 1104 = .ok (.aload_n 0, 1) := by decide +kernel
theorem k369_1105 : decode (gb 369) 1105 = .ok (.iload_n 3, 1) := by decide +kernel
theorem k369_1106 : decode (gb 369) 1106 = .ok (.iconst 1, 1) := by decide +kernel
theorem k369_1107 : decode (gb 369) 1107 = .ok (.iadd, 1) := by decide +kernel
theorem k369_1108 : decode (gb 369) 1108 = .ok (.iaload, 1) := by decide +kernel
theorem k369_1109 : decode (gb 369) 1109 = .ok (.aload_n 0, 1) := by decide +kernel
theorem k369_1110 : decode (gb 369) 1110 = .ok (.iload_n 3, 1) := by decide +kernel
theorem k369_1111 : decode (gb 369) 1111 = .ok (.iconst 2, 1) := by decide +kernel
theorem k369_1112 : decode (gb 369) 1112 = .ok (.iadd, 1) := by decide +kernel
theorem k369_1113 : decode (gb 369) 1113 = .ok (.iaload, 1) := by decide +kernel
theorem k369_1114 : decode (gb 369) 1114 = .ok (.invokevirtual 145, 3) := by decide +kernel
theorem k369_1117 : decode (gb 369) 1117 = .ok (.if_icmp .eq 38, 3) := by decide +kernel
theorem k369_1120 : decode (gb 369) 1120 = .ok (.iconst 0, 1) := by decide +kernel
theorem k369_1121 : decode (gb 369) 1121 = .ok (.ireturn, 1) := by decide +kernel
theorem k369_1122 : decode (gb 369) 1122 = .ok (.aload_n 1, 1) := by decide +kernel
theorem k369_1123 : decode (gb 369) 1123 = .ok (.aload_n 0, 1) := by decide +kernel
theorem k369_1124 : decode (gb 369) 1124 = .ok (.iload_n 3, 1) := by decide +kernel
theorem k369_1125 : decode (gb 369) 1125 = .ok (.iconst 1, 1) := by decide +kernel
theorem k369_1126 : decode (gb 369) 1126 = .ok (.iadd, 1) := by decide +kernel
theorem k369_1127 : decode (gb 369) 1127 = .ok (.iaload, 1) := by decide +kernel
theorem k369_1128 : decode (gb 369) 1128 = .ok (.aload_n 0, 1) := by decide +kernel
theorem k369_1129 : decode (gb 369) 1129 = .ok (.iload_n 3, 1) := by decide +kernel
theorem k369_1130 : decode (gb 369) 1130 = .ok (.iconst 2, 1) := by decide +kernel
theorem k369_1131 : decode (gb 369) 1131 = .ok (.iadd, 1) := by decide +kernel
theorem k369_1132 : decode (gb 369) 1132 = .ok (.iaload, 1) := by decide +kernel
theorem k369_1133 : decode (gb 369) 1133 = .ok (.invokevirtual 146, 3) := by decide +kernel
theorem k369_1136 : decode (gb 369) 1136 = .ok (.aload_n 2, 1) := by decide +kernel
theorem k369_1137 : decode (gb 369) 1137 = .ok (.aload_n 0, 1) := by decide +kernel
theorem k369_1138 : decode (gb 369) 1138 = .ok (.iload_n 3, 1) := by decide +kernel
theorem k369_1139 : decode (gb 369) 1139 = .ok (.iconst 1, 1) := by decide +kernel
theorem k369_1140 : decode (gb 369) 1140 = .ok (.iadd, 1) := by decide +kernel
theorem k369_1141 : decode (gb 369) 1141 = .ok (.iaload, 1) := by decide +kernel
theorem k369_1142 : decode (gb 369) 1142 = .ok (.aload_n 0, 1) := by decide +kernel
theorem k369_1143 : decode (gb 369) 1143 = .ok (.iload_n 3, 1) := by decide +kernel
theorem k369_1144 : decode (gb 369) 1144 = .ok (.iconst 2, 1) := by decide +kernel
theorem k369_1145 : decode (gb 369) 1145 = .ok (.iadd, 1) := by decide +kernel
theorem k369_1146 : decode (gb 369) 1146 = .ok (.iaload, 1) := by decide +kernel
theorem k369_1147 : decode (gb 369) 1147 = .ok (.invokevirtual 149, 3) := by decide +kernel
theorem k369_1150 : decode (gb 369) 1150 = .ok (.if_icmp .eq 5, 3) := by decide +kernel
theorem k369_1153 : decode (gb 369) 1153 = .ok (.iconst 0, 1) := by decide +kernel
theorem k369_1154 : decode (gb 369) 1154 = .ok (.ireturn, 1) := by decide +kernel
theorem k369_1155 : decode (gb 369) 1155 = .ok (.iinc 3 5, 3) := by decide +kernel
theorem k369_1158 : decode (gb 369) 1158 = .ok (.goto (-1140), 3) := by decide +kernel
theorem k369_1161 : decode (gb 369) 1161 = .ok (.iconst 1, 1) := by decide +kernel
theorem k369_1162 : decode (gb 369) 1162 = .ok (.ireturn, 1) := by decide +kernel
theorem cl_16_101 : (16 * 1000 + 101, 1, 351, 2, 11, 2247, 2248, 2249, 193) ∈ gCL := by decide +kernel
theorem cl_16_102 : (16 * 1000 + 102, 1, 229, 2, 10, 1455, 1456, 1457, 180) ∈ gCL := by decide +kernel
theorem cl_16_105 : (16 * 1000 + 105, 1, 352, 2, 11, 2255, 2256, 2257, 193) ∈ gCL := by decide +kernel
theorem cl_16_106 : (16 * 1000 + 106, 1, 230, 2, 10, 1459, 1460, 1461, 180) ∈ gCL := by decide +kernel
theorem cl_16_109 : (16 * 1000 + 109, 1, 353, 2, 11, 2259, 2260, 2261, 193) ∈ gCL := by decide +kernel
theorem cl_16_110 : (16 * 1000 + 110, 1, 231, 1, 10, 1463, 1464, 1465, 180) ∈ gCL := by decide +kernel
theorem cl_16_113 : (16 * 1000 + 113, 1, 341, 1, 11, 2122, 2123, 2124, 193) ∈ gCL := by decide +kernel
theorem cl_16_114 : (16 * 1000 + 114, 1, 232, 2, 10, 1778, 1779, 1780, 180) ∈ gCL := by decide +kernel
theorem cl_16_117 : (16 * 1000 + 117, 1, 354, 2, 11, 2263, 2264, 2265, 193) ∈ gCL := by decide +kernel
theorem cl_16_118 : (16 * 1000 + 118, 1, 233, 1, 10, 1782, 1783, 1784, 180) ∈ gCL := by decide +kernel
theorem cl_16_121 : (16 * 1000 + 121, 1, 355, 1, 11, 2267, 2268, 2269, 193) ∈ gCL := by decide +kernel
theorem cl_16_122 : (16 * 1000 + 122, 1, 234, 1, 10, 1787, 1788, 1789, 180) ∈ gCL := by decide +kernel
theorem cl_16_125 : (16 * 1000 + 125, 1, 356, 1, 11, 2271, 2272, 2273, 193) ∈ gCL := by decide +kernel
theorem cl_16_126 : (16 * 1000 + 126, 1, 235, 1, 10, 1791, 1792, 1793, 180) ∈ gCL := by decide +kernel
theorem cl_16_129 : (16 * 1000 + 129, 1, 357, 1, 11, 2275, 2276, 2277, 193) ∈ gCL := by decide +kernel
theorem cl_16_13 : (16 * 1000 + 13, 1, 197, 2, 10, 780, 781, 782, 180) ∈ gCL := by decide +kernel
theorem cl_16_130 : (16 * 1000 + 130, 1, 236, 2, 10, 1795, 1796, 1797, 180) ∈ gCL := by decide +kernel
theorem cl_16_133 : (16 * 1000 + 133, 1, 358, 2, 11, 2279, 2280, 2281, 193) ∈ gCL := by decide +kernel
theorem cl_16_134 : (16 * 1000 + 134, 1, 237, 2, 10, 1799, 1800, 1801, 180) ∈ gCL := by decide +kernel
theorem cl_16_137 : (16 * 1000 + 137, 1, 359, 2, 11, 2283, 2284, 2285, 193) ∈ gCL := by decide +kernel
theorem cl_16_138 : (16 * 1000 + 138, 1, 238, 2, 10, 1803, 1804, 1805, 180) ∈ gCL := by decide +kernel
theorem cl_16_141 : (16 * 1000 + 141, 1, 360, 2, 11, 2287, 2288, 2289, 193) ∈ gCL := by decide +kernel
theorem cl_16_142 : (16 * 1000 + 142, 1, 239, 2, 10, 1810, 1811, 1812, 180) ∈ gCL := by decide +kernel
theorem cl_16_145 : (16 * 1000 + 145, 1, 361, 2, 11, 2291, 2292, 2293, 193) ∈ gCL := by decide +kernel
theorem cl_16_146 : (16 * 1000 + 146, 1, 240, 2, 10, 1819, 1820, 1821, 180) ∈ gCL := by decide +kernel
theorem cl_16_149 : (16 * 1000 + 149, 1, 309, 2, 11, 2118, 2119, 2120, 193) ∈ gCL := by decide +kernel
theorem cl_16_17 : (16 * 1000 + 17, 1, 241, 2, 11, 1823, 1824, 1825, 193) ∈ gCL := by decide +kernel
theorem cl_16_18 : (16 * 1000 + 18, 1, 198, 1, 10, 785, 786, 787, 180) ∈ gCL := by decide +kernel
theorem cl_16_22 : (16 * 1000 + 22, 1, 242, 1, 11, 1827, 1828, 1829, 193) ∈ gCL := by decide +kernel
theorem cl_16_23 : (16 * 1000 + 23, 1, 199, 0, 10, 793, 794, 795, 180) ∈ gCL := by decide +kernel
theorem cl_16_27 : (16 * 1000 + 27, 1, 243, 0, 11, 1831, 1832, 1833, 193) ∈ gCL := by decide +kernel
theorem cl_16_28 : (16 * 1000 + 28, 1, 200, 0, 10, 801, 802, 803, 180) ∈ gCL := by decide +kernel
theorem cl_16_31 : (16 * 1000 + 31, 1, 244, 0, 11, 1835, 1836, 1837, 193) ∈ gCL := by decide +kernel
theorem cl_16_32 : (16 * 1000 + 32, 1, 201, 1, 10, 812, 813, 814, 180) ∈ gCL := by decide +kernel
theorem cl_16_35 : (16 * 1000 + 35, 1, 251, 1, 11, 1843, 1844, 1845, 193) ∈ gCL := by decide +kernel
theorem cl_16_36 : (16 * 1000 + 36, 1, 205, 1, 10, 869, 870, 871, 180) ∈ gCL := by decide +kernel
theorem cl_16_39 : (16 * 1000 + 39, 1, 257, 1, 11, 1868, 1869, 1870, 193) ∈ gCL := by decide +kernel
theorem cl_16_40 : (16 * 1000 + 40, 1, 206, 2, 10, 881, 882, 883, 180) ∈ gCL := by decide +kernel
theorem cl_16_43 : (16 * 1000 + 43, 1, 259, 2, 11, 1875, 1876, 1877, 193) ∈ gCL := by decide +kernel
theorem cl_16_44 : (16 * 1000 + 44, 1, 207, 2, 10, 893, 894, 895, 180) ∈ gCL := by decide +kernel
theorem cl_16_47 : (16 * 1000 + 47, 1, 264, 2, 11, 1912, 1913, 1914, 193) ∈ gCL := by decide +kernel
theorem cl_16_48 : (16 * 1000 + 48, 1, 208, 2, 10, 1286, 1287, 1288, 180) ∈ gCL := by decide +kernel
theorem cl_16_51 : (16 * 1000 + 51, 1, 260, 2, 11, 1887, 1888, 1889, 193) ∈ gCL := by decide +kernel
theorem cl_16_52 : (16 * 1000 + 52, 1, 209, 2, 10, 1294, 1295, 1296, 180) ∈ gCL := by decide +kernel
theorem cl_16_55 : (16 * 1000 + 55, 1, 261, 2, 11, 1891, 1892, 1893, 193) ∈ gCL := by decide +kernel
theorem cl_16_56 : (16 * 1000 + 56, 1, 210, 2, 10, 1302, 1303, 1304, 180) ∈ gCL := by decide +kernel
theorem cl_16_59 : (16 * 1000 + 59, 1, 262, 2, 11, 1895, 1896, 1897, 193) ∈ gCL := by decide +kernel
theorem cl_16_60 : (16 * 1000 + 60, 1, 211, 1, 10, 1307, 1308, 1309, 180) ∈ gCL := by decide +kernel
theorem cl_16_63 : (16 * 1000 + 63, 1, 263, 1, 11, 1899, 1900, 1901, 193) ∈ gCL := by decide +kernel
theorem cl_16_64 : (16 * 1000 + 64, 1, 217, 3, 10, 1312, 1313, 1314, 180) ∈ gCL := by decide +kernel
theorem cl_16_68 : (16 * 1000 + 68, 1, 294, 3, 11, 2087, 2088, 2089, 193) ∈ gCL := by decide +kernel
theorem cl_16_69 : (16 * 1000 + 69, 1, 218, 4, 10, 1334, 1335, 1336, 180) ∈ gCL := by decide +kernel
theorem cl_16_73 : (16 * 1000 + 73, 1, 295, 4, 11, 2102, 2103, 2104, 193) ∈ gCL := by decide +kernel
theorem cl_16_74 : (16 * 1000 + 74, 1, 221, 0, 10, 1355, 1356, 1357, 180) ∈ gCL := by decide +kernel
theorem cl_16_77 : (16 * 1000 + 77, 1, 296, 0, 11, 2106, 2107, 2108, 193) ∈ gCL := by decide +kernel
theorem cl_16_78 : (16 * 1000 + 78, 1, 222, 2, 10, 1359, 1360, 1361, 180) ∈ gCL := by decide +kernel
theorem cl_16_81 : (16 * 1000 + 81, 1, 297, 2, 11, 2110, 2111, 2112, 193) ∈ gCL := by decide +kernel
theorem cl_16_82 : (16 * 1000 + 82, 1, 223, 2, 10, 1376, 1377, 1378, 180) ∈ gCL := by decide +kernel
theorem cl_16_85 : (16 * 1000 + 85, 1, 286, 2, 11, 2072, 2073, 2074, 193) ∈ gCL := by decide +kernel
theorem cl_16_86 : (16 * 1000 + 86, 1, 225, 1, 10, 1405, 1406, 1407, 180) ∈ gCL := by decide +kernel
theorem cl_16_89 : (16 * 1000 + 89, 1, 287, 1, 11, 2083, 2084, 2085, 193) ∈ gCL := by decide +kernel
theorem cl_16_90 : (16 * 1000 + 90, 1, 226, 2, 10, 1417, 1418, 1419, 180) ∈ gCL := by decide +kernel
theorem cl_16_93 : (16 * 1000 + 93, 1, 301, 2, 11, 2114, 2115, 2116, 193) ∈ gCL := by decide +kernel
theorem cl_16_94 : (16 * 1000 + 94, 1, 227, 1, 10, 1429, 1430, 1431, 180) ∈ gCL := by decide +kernel
theorem cl_16_97 : (16 * 1000 + 97, 1, 349, 1, 11, 2243, 2244, 2245, 193) ∈ gCL := by decide +kernel
theorem cl_16_98 : (16 * 1000 + 98, 1, 228, 2, 10, 1433, 1434, 1435, 180) ∈ gCL := by decide +kernel
theorem mx_369 : gmx 369 = 4 := by decide +kernel
theorem ow_369 : gown 369 = 16 := by decide +kernel
theorem rt_369 : grt 369 = (some .boolean) := by decide +kernel
theorem st_369_197 : gSite 369 197 := ⟨gML_all 197 (by decide) (by decide) (by decide), gcw_197, by decide +kernel, by decide +kernel⟩
theorem st_369_198 : gSite 369 198 := ⟨gML_all 198 (by decide) (by decide) (by decide), gcw_198, by decide +kernel, by decide +kernel⟩
theorem st_369_199 : gSite 369 199 := ⟨gML_all 199 (by decide) (by decide) (by decide), gcw_199, by decide +kernel, by decide +kernel⟩
theorem st_369_200 : gSite 369 200 := ⟨gML_all 200 (by decide) (by decide) (by decide), gcw_200, by decide +kernel, by decide +kernel⟩
theorem st_369_201 : gSite 369 201 := ⟨gML_all 201 (by decide) (by decide) (by decide), gcw_201, by decide +kernel, by decide +kernel⟩
theorem st_369_205 : gSite 369 205 := ⟨gML_all 205 (by decide) (by decide) (by decide), gcw_205, by decide +kernel, by decide +kernel⟩
theorem st_369_206 : gSite 369 206 := ⟨gML_all 206 (by decide) (by decide) (by decide), gcw_206, by decide +kernel, by decide +kernel⟩
theorem st_369_207 : gSite 369 207 := ⟨gML_all 207 (by decide) (by decide) (by decide), gcw_207, by decide +kernel, by decide +kernel⟩
theorem st_369_208 : gSite 369 208 := ⟨gML_all 208 (by decide) (by decide) (by decide), gcw_208, by decide +kernel, by decide +kernel⟩
theorem st_369_209 : gSite 369 209 := ⟨gML_all 209 (by decide) (by decide) (by decide), gcw_209, by decide +kernel, by decide +kernel⟩
theorem st_369_210 : gSite 369 210 := ⟨gML_all 210 (by decide) (by decide) (by decide), gcw_210, by decide +kernel, by decide +kernel⟩
theorem st_369_211 : gSite 369 211 := ⟨gML_all 211 (by decide) (by decide) (by decide), gcw_211, by decide +kernel, by decide +kernel⟩
theorem st_369_217 : gSite 369 217 := ⟨gML_all 217 (by decide) (by decide) (by decide), gcw_217, by decide +kernel, by decide +kernel⟩
theorem st_369_218 : gSite 369 218 := ⟨gML_all 218 (by decide) (by decide) (by decide), gcw_218, by decide +kernel, by decide +kernel⟩
theorem st_369_221 : gSite 369 221 := ⟨gML_all 221 (by decide) (by decide) (by decide), gcw_221, by decide +kernel, by decide +kernel⟩
theorem st_369_222 : gSite 369 222 := ⟨gML_all 222 (by decide) (by decide) (by decide), gcw_222, by decide +kernel, by decide +kernel⟩
theorem st_369_223 : gSite 369 223 := ⟨gML_all 223 (by decide) (by decide) (by decide), gcw_223, by decide +kernel, by decide +kernel⟩
theorem st_369_225 : gSite 369 225 := ⟨gML_all 225 (by decide) (by decide) (by decide), gcw_225, by decide +kernel, by decide +kernel⟩
theorem st_369_226 : gSite 369 226 := ⟨gML_all 226 (by decide) (by decide) (by decide), gcw_226, by decide +kernel, by decide +kernel⟩
theorem st_369_227 : gSite 369 227 := ⟨gML_all 227 (by decide) (by decide) (by decide), gcw_227, by decide +kernel, by decide +kernel⟩
theorem st_369_228 : gSite 369 228 := ⟨gML_all 228 (by decide) (by decide) (by decide), gcw_228, by decide +kernel, by decide +kernel⟩
theorem st_369_229 : gSite 369 229 := ⟨gML_all 229 (by decide) (by decide) (by decide), gcw_229, by decide +kernel, by decide +kernel⟩
theorem st_369_230 : gSite 369 230 := ⟨gML_all 230 (by decide) (by decide) (by decide), gcw_230, by decide +kernel, by decide +kernel⟩
theorem st_369_231 : gSite 369 231 := ⟨gML_all 231 (by decide) (by decide) (by decide), gcw_231, by decide +kernel, by decide +kernel⟩
theorem st_369_232 : gSite 369 232 := ⟨gML_all 232 (by decide) (by decide) (by decide), gcw_232, by decide +kernel, by decide +kernel⟩
theorem st_369_233 : gSite 369 233 := ⟨gML_all 233 (by decide) (by decide) (by decide), gcw_233, by decide +kernel, by decide +kernel⟩
theorem st_369_234 : gSite 369 234 := ⟨gML_all 234 (by decide) (by decide) (by decide), gcw_234, by decide +kernel, by decide +kernel⟩
theorem st_369_235 : gSite 369 235 := ⟨gML_all 235 (by decide) (by decide) (by decide), gcw_235, by decide +kernel, by decide +kernel⟩
theorem st_369_236 : gSite 369 236 := ⟨gML_all 236 (by decide) (by decide) (by decide), gcw_236, by decide +kernel, by decide +kernel⟩
theorem st_369_237 : gSite 369 237 := ⟨gML_all 237 (by decide) (by decide) (by decide), gcw_237, by decide +kernel, by decide +kernel⟩
theorem st_369_238 : gSite 369 238 := ⟨gML_all 238 (by decide) (by decide) (by decide), gcw_238, by decide +kernel, by decide +kernel⟩
theorem st_369_239 : gSite 369 239 := ⟨gML_all 239 (by decide) (by decide) (by decide), gcw_239, by decide +kernel, by decide +kernel⟩
theorem st_369_240 : gSite 369 240 := ⟨gML_all 240 (by decide) (by decide) (by decide), gcw_240, by decide +kernel, by decide +kernel⟩
theorem st_369_241 : gSite 369 241 := ⟨gML_all 241 (by decide) (by decide) (by decide), gcw_241, by decide +kernel, by decide +kernel⟩
theorem st_369_242 : gSite 369 242 := ⟨gML_all 242 (by decide) (by decide) (by decide), gcw_242, by decide +kernel, by decide +kernel⟩
theorem st_369_243 : gSite 369 243 := ⟨gML_all 243 (by decide) (by decide) (by decide), gcw_243, by decide +kernel, by decide +kernel⟩
theorem st_369_244 : gSite 369 244 := ⟨gML_all 244 (by decide) (by decide) (by decide), gcw_244, by decide +kernel, by decide +kernel⟩
theorem st_369_251 : gSite 369 251 := ⟨gML_all 251 (by decide) (by decide) (by decide), gcw_251, by decide +kernel, by decide +kernel⟩
theorem st_369_257 : gSite 369 257 := ⟨gML_all 257 (by decide) (by decide) (by decide), gcw_257, by decide +kernel, by decide +kernel⟩
theorem st_369_259 : gSite 369 259 := ⟨gML_all 259 (by decide) (by decide) (by decide), gcw_259, by decide +kernel, by decide +kernel⟩
theorem st_369_260 : gSite 369 260 := ⟨gML_all 260 (by decide) (by decide) (by decide), gcw_260, by decide +kernel, by decide +kernel⟩
theorem st_369_261 : gSite 369 261 := ⟨gML_all 261 (by decide) (by decide) (by decide), gcw_261, by decide +kernel, by decide +kernel⟩
theorem st_369_262 : gSite 369 262 := ⟨gML_all 262 (by decide) (by decide) (by decide), gcw_262, by decide +kernel, by decide +kernel⟩
theorem st_369_263 : gSite 369 263 := ⟨gML_all 263 (by decide) (by decide) (by decide), gcw_263, by decide +kernel, by decide +kernel⟩
theorem st_369_264 : gSite 369 264 := ⟨gML_all 264 (by decide) (by decide) (by decide), gcw_264, by decide +kernel, by decide +kernel⟩
theorem st_369_286 : gSite 369 286 := ⟨gML_all 286 (by decide) (by decide) (by decide), gcw_286, by decide +kernel, by decide +kernel⟩
theorem st_369_287 : gSite 369 287 := ⟨gML_all 287 (by decide) (by decide) (by decide), gcw_287, by decide +kernel, by decide +kernel⟩
theorem st_369_294 : gSite 369 294 := ⟨gML_all 294 (by decide) (by decide) (by decide), gcw_294, by decide +kernel, by decide +kernel⟩
theorem st_369_295 : gSite 369 295 := ⟨gML_all 295 (by decide) (by decide) (by decide), gcw_295, by decide +kernel, by decide +kernel⟩
theorem st_369_296 : gSite 369 296 := ⟨gML_all 296 (by decide) (by decide) (by decide), gcw_296, by decide +kernel, by decide +kernel⟩
theorem st_369_297 : gSite 369 297 := ⟨gML_all 297 (by decide) (by decide) (by decide), gcw_297, by decide +kernel, by decide +kernel⟩
theorem st_369_301 : gSite 369 301 := ⟨gML_all 301 (by decide) (by decide) (by decide), gcw_301, by decide +kernel, by decide +kernel⟩
theorem st_369_309 : gSite 369 309 := ⟨gML_all 309 (by decide) (by decide) (by decide), gcw_309, by decide +kernel, by decide +kernel⟩
theorem st_369_341 : gSite 369 341 := ⟨gML_all 341 (by decide) (by decide) (by decide), gcw_341, by decide +kernel, by decide +kernel⟩
theorem st_369_349 : gSite 369 349 := ⟨gML_all 349 (by decide) (by decide) (by decide), gcw_349, by decide +kernel, by decide +kernel⟩
theorem st_369_351 : gSite 369 351 := ⟨gML_all 351 (by decide) (by decide) (by decide), gcw_351, by decide +kernel, by decide +kernel⟩
theorem st_369_352 : gSite 369 352 := ⟨gML_all 352 (by decide) (by decide) (by decide), gcw_352, by decide +kernel, by decide +kernel⟩
theorem st_369_353 : gSite 369 353 := ⟨gML_all 353 (by decide) (by decide) (by decide), gcw_353, by decide +kernel, by decide +kernel⟩
theorem st_369_354 : gSite 369 354 := ⟨gML_all 354 (by decide) (by decide) (by decide), gcw_354, by decide +kernel, by decide +kernel⟩
theorem st_369_355 : gSite 369 355 := ⟨gML_all 355 (by decide) (by decide) (by decide), gcw_355, by decide +kernel, by decide +kernel⟩
theorem st_369_356 : gSite 369 356 := ⟨gML_all 356 (by decide) (by decide) (by decide), gcw_356, by decide +kernel, by decide +kernel⟩
theorem st_369_357 : gSite 369 357 := ⟨gML_all 357 (by decide) (by decide) (by decide), gcw_357, by decide +kernel, by decide +kernel⟩
theorem st_369_358 : gSite 369 358 := ⟨gML_all 358 (by decide) (by decide) (by decide), gcw_358, by decide +kernel, by decide +kernel⟩
theorem st_369_359 : gSite 369 359 := ⟨gML_all 359 (by decide) (by decide) (by decide), gcw_359, by decide +kernel, by decide +kernel⟩
theorem st_369_360 : gSite 369 360 := ⟨gML_all 360 (by decide) (by decide) (by decide), gcw_360, by decide +kernel, by decide +kernel⟩
theorem st_369_361 : gSite 369 361 := ⟨gML_all 361 (by decide) (by decide) (by decide), gcw_361, by decide +kernel, by decide +kernel⟩
def c369_1155 (L : Nat) (kl18 : Int32 → Mem → Option (Mem × Int32)) (v3 : Int32) (μ : Mem) : Option (Mem × Int32) :=
  nm (v3 + (5 : Int32)) fun x1 =>
  kl18 x1 μ
theorem c369_1155_ok {L : Nat} (kl18 : Int32 → Mem → Option (Mem × Int32)) (hk18 : (∀ (v3 : Int32) (μ : Mem) (res : Mem × Int32), kl18 v3 μ = some res → Sx 369 18 [(0, .ref 100003), (1, .ref 0), (2, .ref 129), (3, .int v3)] [] 222 283848 (mk L μ) (mk L res.1, some (.int res.2)))) (v3 : Int32) (μ : Mem) (res : Mem × Int32) (h : c369_1155 L kl18 v3 μ = some res) : Sx 369 1155 [(0, .ref 100003), (1, .ref 0), (2, .ref 129), (3, .int v3)] [] 222 283848 (mk L μ) (mk L res.1, some (.int res.2)) := by
  unfold c369_1155 at h
  refine dx_iinc (c := 5) (lo2 := fun x1 => [(3, .int x1), (0, .ref 100003), (1, .ref 0), (2, .ref 129)]) k369_1155 rfl (by decide) (by rw [mx_369]; decide) (fun _ => rfl) h (fun x1 h => ?_)
  refine sx_goto (tgt := 18) k369_1158 (by decide) ?_
  refine sx_pick (lo2 := [(0, .ref 100003), (1, .ref 0), (2, .ref 129), (3, .int x1)]) [1, 2, 3, 0] rfl ?_
  exact hk18 x1 _ _ h
def c369_600 (L : Nat) (kl18 : Int32 → Mem → Option (Mem × Int32)) (v3 : Int32) (s0 : Int32) (s2 : Int32) (s3 : Int32) (s4 : Int32) (s5 : Int32) (μ : Mem) : Option (Mem × Int32) :=
  (f295 s2 s3 s4 s5 μ).bind fun r1 =>
  if s0 = r1.2 then
    c369_1155 L kl18 v3 r1.1
  else
    rtZ (0 : Int32) r1.1
theorem c369_600_ok {L : Nat} (kl18 : Int32 → Mem → Option (Mem × Int32)) (hk18 : (∀ (v3 : Int32) (μ : Mem) (res : Mem × Int32), kl18 v3 μ = some res → Sx 369 18 [(0, .ref 100003), (1, .ref 0), (2, .ref 129), (3, .int v3)] [] 222 283848 (mk L μ) (mk L res.1, some (.int res.2)))) (v3 : Int32) (s0 : Int32) (s2 : Int32) (s3 : Int32) (s4 : Int32) (s5 : Int32) (μ : Mem) (res : Mem × Int32) (h : c369_600 L kl18 v3 s0 s2 s3 s4 s5 μ = some res) : Sx 369 600 [(0, .ref 100003), (1, .ref 0), (2, .ref 129), (3, .int v3)] [.int s5, .int s4, .int s3, .int s2, .ref 129, .int s0] 222 283848 (mk L μ) (mk L res.1, some (.int res.2)) := by
  unfold c369_600 at h
  obtain ⟨r1, e2, h⟩ := Option.bind_eq_some_iff.mp h
  refine dx_V (sk := [.int s0]) (vs := [.int s2, .int s3, .int s4, .int s5]) st_369_295 k369_600 ow_369 cl_16_73 (by decide) rfl (Nat.le_of_ble_eq_true rfl) sk_129 (ok295 s2 s3 s4 s5 _ _ e2) (sk3 := [.int r1.2, .int s0]) rfl rfl law_nc ?_
  by_cases hb3 : s0 = r1.2
  · rw [if_pos hb3] at h
    refine sx_icmp_eq (tgt := 1155) k369_603 (by decide) (fun _ => ?_) (fun q => absurd hb3 q)
    refine sx_pick (lo2 := [(0, .ref 100003), (1, .ref 0), (2, .ref 129), (3, .int v3)]) [0, 1, 2, 3] rfl ?_
    exact c369_1155_ok kl18 hk18 v3 _ _ h
  · rw [if_neg hb3] at h
    refine sx_icmp_eq (tgt := 1155) k369_603 (by decide) (fun q => absurd q hb3) (fun _ => ?_)
    refine sx_iconst (v := 0) k369_606 (by decide) ?_
    exact dx_retz k369_607 rt_369 law_nc h
def c369_568 (L : Nat) (kl18 : Int32 → Mem → Option (Mem × Int32)) (v3 : Int32) (s1 : Int32) (s2 : Int32) (s3 : Int32) (s4 : Int32) (μ : Mem) : Option (Mem × Int32) :=
  (f218 s1 s2 s3 s4 μ).bind fun r1 =>
  (ldS L (v3 + (1 : Int32)) r1.1).bind fun x3 =>
  (ldS L (v3 + (2 : Int32)) r1.1).bind fun x5 =>
  (ldS L (v3 + (3 : Int32)) r1.1).bind fun x7 =>
  (ldS L (v3 + (4 : Int32)) r1.1).bind fun x9 =>
  if x9 = 0 then
    c369_600 L kl18 v3 r1.2 x3 x5 x7 (0 : Int32) r1.1
  else
    c369_600 L kl18 v3 r1.2 x3 x5 x7 (1 : Int32) r1.1
theorem c369_568_ok {L : Nat} (kl18 : Int32 → Mem → Option (Mem × Int32)) (hk18 : (∀ (v3 : Int32) (μ : Mem) (res : Mem × Int32), kl18 v3 μ = some res → Sx 369 18 [(0, .ref 100003), (1, .ref 0), (2, .ref 129), (3, .int v3)] [] 222 283848 (mk L μ) (mk L res.1, some (.int res.2)))) (v3 : Int32) (s1 : Int32) (s2 : Int32) (s3 : Int32) (s4 : Int32) (μ : Mem) (res : Mem × Int32) (h : c369_568 L kl18 v3 s1 s2 s3 s4 μ = some res) : Sx 369 568 [(0, .ref 100003), (1, .ref 0), (2, .ref 129), (3, .int v3)] [.int s4, .int s3, .int s2, .int s1, .ref 0] 222 283848 (mk L μ) (mk L res.1, some (.int res.2)) := by
  unfold c369_568 at h
  obtain ⟨r1, e2, h⟩ := Option.bind_eq_some_iff.mp h
  refine dx_V (sk := []) (vs := [.int s1, .int s2, .int s3, .int s4]) st_369_218 k369_568 ow_369 cl_16_69 (by decide) rfl (Nat.le_of_ble_eq_true rfl) sk_0 (ok218 s1 s2 s3 s4 _ _ e2) (sk3 := [.int r1.2]) rfl rfl law_nc ?_
  refine sx_aload_n (i := 2) k369_571 rfl rfl ?_
  refine sx_aload_n (i := 0) k369_572 rfl rfl ?_
  refine sx_iload_n (i := 3) k369_573 rfl rfl ?_
  refine sx_iconst (v := 1) k369_574 (by decide) ?_
  refine sx_iadd k369_575 ?_
  obtain ⟨x3, e4, h⟩ := Option.bind_eq_some_iff.mp h
  refine dx_sald k369_576 e4 ?_
  refine sx_aload_n (i := 0) k369_577 rfl rfl ?_
  refine sx_iload_n (i := 3) k369_578 rfl rfl ?_
  refine sx_iconst (v := 2) k369_579 (by decide) ?_
  refine sx_iadd k369_580 ?_
  obtain ⟨x5, e6, h⟩ := Option.bind_eq_some_iff.mp h
  refine dx_sald k369_581 e6 ?_
  refine sx_aload_n (i := 0) k369_582 rfl rfl ?_
  refine sx_iload_n (i := 3) k369_583 rfl rfl ?_
  refine sx_iconst (v := 3) k369_584 (by decide) ?_
  refine sx_iadd k369_585 ?_
  obtain ⟨x7, e8, h⟩ := Option.bind_eq_some_iff.mp h
  refine dx_sald k369_586 e8 ?_
  refine sx_aload_n (i := 0) k369_587 rfl rfl ?_
  refine sx_iload_n (i := 3) k369_588 rfl rfl ?_
  refine sx_iconst (v := 4) k369_589 (by decide) ?_
  refine sx_iadd k369_590 ?_
  obtain ⟨x9, e10, h⟩ := Option.bind_eq_some_iff.mp h
  refine dx_sald k369_591 e10 ?_
  by_cases hb11 : x9 = 0
  · rw [if_pos hb11] at h
    refine sx_if_eq (tgt := 599) k369_592 (by decide) (fun _ => ?_) (fun q => absurd hb11 q)
    refine sx_iconst (v := 0) k369_599 (by decide) ?_
    refine sx_pick (lo2 := [(0, .ref 100003), (1, .ref 0), (2, .ref 129), (3, .int v3)]) [0, 1, 2, 3] rfl ?_
    exact c369_600_ok kl18 hk18 v3 r1.2 x3 x5 x7 (0 : Int32) _ _ h
  · rw [if_neg hb11] at h
    refine sx_if_eq (tgt := 599) k369_592 (by decide) (fun q => absurd q hb11) (fun _ => ?_)
    refine sx_iconst (v := 1) k369_595 (by decide) ?_
    refine sx_goto (tgt := 600) k369_596 (by decide) ?_
    refine sx_pick (lo2 := [(0, .ref 100003), (1, .ref 0), (2, .ref 129), (3, .int v3)]) [0, 1, 2, 3] rfl ?_
    exact c369_600_ok kl18 hk18 v3 r1.2 x3 x5 x7 (1 : Int32) _ _ h
def b369_18 (L : Nat) (kl18 : Int32 → Mem → Option (Mem × Int32)) (v3 : Int32) (μ : Mem) : Option (Mem × Int32) :=
  if ((nI L) - (5 : Int32)) < v3 then
    rtZ (1 : Int32) μ
  else
    (ldS L v3 μ).bind fun x2 =>
    nm (x2 &&& (63 : Int32)) fun x4 =>
    if x4 = (0 : Int32) then
      (ldS L (v3 + (1 : Int32)) μ).bind fun x5 =>
      (ldS L (v3 + (2 : Int32)) μ).bind fun x7 =>
      (f197 x5 x7 μ).bind fun r9 =>
      (ldS L (v3 + (1 : Int32)) r9.1).bind fun x11 =>
      (ldS L (v3 + (2 : Int32)) r9.1).bind fun x13 =>
      (f241 x11 x13 r9.1).bind fun r15 =>
      if r9.2 = r15.2 then
        c369_1155 L kl18 v3 r15.1
      else
        rtZ (0 : Int32) r15.1
    else if x4 = (1 : Int32) then
      (ldS L (v3 + (1 : Int32)) μ).bind fun x19 =>
      (f198 x19 μ).bind fun r21 =>
      (ldS L (v3 + (1 : Int32)) r21.1).bind fun x23 =>
      (f242 x23 r21.1).bind fun r25 =>
      if r21.2 = r25.2 then
        c369_1155 L kl18 v3 r25.1
      else
        rtZ (0 : Int32) r25.1
    else if x4 = (2 : Int32) then
      (f199 μ).bind fun r29 =>
      (f243 r29.1).bind fun r31 =>
      if r29.2 = r31.2 then
        c369_1155 L kl18 v3 r31.1
      else
        rtZ (0 : Int32) r31.1
    else if x4 = (3 : Int32) then
      (f200 μ).bind fun r35 =>
      (f244 r35.1).bind fun r37 =>
      if r35.2 = r37.2 then
        c369_1155 L kl18 v3 r37.1
      else
        rtZ (0 : Int32) r37.1
    else if x4 = (4 : Int32) then
      (ldS L (v3 + (1 : Int32)) μ).bind fun x41 =>
      (f201 x41 μ).bind fun r43 =>
      (ldS L (v3 + (1 : Int32)) r43.1).bind fun x45 =>
      (f251 x45 r43.1).bind fun r47 =>
      if r43.2 = r47.2 then
        c369_1155 L kl18 v3 r47.1
      else
        rtZ (0 : Int32) r47.1
    else if x4 = (5 : Int32) then
      (ldS L (v3 + (1 : Int32)) μ).bind fun x51 =>
      (f205 x51 μ).bind fun r53 =>
      (ldS L (v3 + (1 : Int32)) r53.1).bind fun x55 =>
      (f257 x55 r53.1).bind fun r57 =>
      if r53.2 = r57.2 then
        c369_1155 L kl18 v3 r57.1
      else
        rtZ (0 : Int32) r57.1
    else if x4 = (6 : Int32) then
      (ldS L (v3 + (1 : Int32)) μ).bind fun x61 =>
      (ldS L (v3 + (2 : Int32)) μ).bind fun x63 =>
      (f206 x61 x63 μ).bind fun r65 =>
      (ldS L (v3 + (1 : Int32)) r65.1).bind fun x67 =>
      (ldS L (v3 + (2 : Int32)) r65.1).bind fun x69 =>
      (f259 x67 x69 r65.1).bind fun r71 =>
      if r65.2 = r71.2 then
        c369_1155 L kl18 v3 r71.1
      else
        rtZ (0 : Int32) r71.1
    else if x4 = (7 : Int32) then
      (ldS L (v3 + (1 : Int32)) μ).bind fun x75 =>
      (ldS L (v3 + (2 : Int32)) μ).bind fun x77 =>
      (f207 x75 x77 μ).bind fun r79 =>
      (ldS L (v3 + (1 : Int32)) r79.1).bind fun x81 =>
      (ldS L (v3 + (2 : Int32)) r79.1).bind fun x83 =>
      (f264 x81 x83 r79.1).bind fun r85 =>
      if r79.2 = r85.2 then
        c369_1155 L kl18 v3 r85.1
      else
        rtZ (0 : Int32) r85.1
    else if x4 = (8 : Int32) then
      (ldS L (v3 + (1 : Int32)) μ).bind fun x89 =>
      (ldS L (v3 + (2 : Int32)) μ).bind fun x91 =>
      (f208 x89 x91 μ).bind fun r93 =>
      (ldS L (v3 + (1 : Int32)) r93.1).bind fun x95 =>
      (ldS L (v3 + (2 : Int32)) r93.1).bind fun x97 =>
      (f260 x95 x97 r93.1).bind fun r99 =>
      if r93.2 = r99.2 then
        c369_1155 L kl18 v3 r99.1
      else
        rtZ (0 : Int32) r99.1
    else if x4 = (9 : Int32) then
      (ldS L (v3 + (1 : Int32)) μ).bind fun x103 =>
      (ldS L (v3 + (2 : Int32)) μ).bind fun x105 =>
      (f209 x103 x105 μ).bind fun r107 =>
      (ldS L (v3 + (1 : Int32)) r107.1).bind fun x109 =>
      (ldS L (v3 + (2 : Int32)) r107.1).bind fun x111 =>
      (f261 x109 x111 r107.1).bind fun r113 =>
      if r107.2 = r113.2 then
        c369_1155 L kl18 v3 r113.1
      else
        rtZ (0 : Int32) r113.1
    else if x4 = (10 : Int32) then
      (ldS L (v3 + (1 : Int32)) μ).bind fun x117 =>
      (ldS L (v3 + (2 : Int32)) μ).bind fun x119 =>
      (f210 x117 x119 μ).bind fun r121 =>
      (ldS L (v3 + (1 : Int32)) r121.1).bind fun x123 =>
      (ldS L (v3 + (2 : Int32)) r121.1).bind fun x125 =>
      (f262 x123 x125 r121.1).bind fun r127 =>
      if r121.2 = r127.2 then
        c369_1155 L kl18 v3 r127.1
      else
        rtZ (0 : Int32) r127.1
    else if x4 = (11 : Int32) then
      (ldS L (v3 + (1 : Int32)) μ).bind fun x131 =>
      (f211 x131 μ).bind fun r133 =>
      (ldS L (v3 + (1 : Int32)) r133.1).bind fun x135 =>
      (f263 x135 r133.1).bind fun r137 =>
      if r133.2 = r137.2 then
        c369_1155 L kl18 v3 r137.1
      else
        rtZ (0 : Int32) r137.1
    else if x4 = (12 : Int32) then
      (ldS L (v3 + (1 : Int32)) μ).bind fun x141 =>
      (ldS L (v3 + (2 : Int32)) μ).bind fun x143 =>
      (ldS L (v3 + (3 : Int32)) μ).bind fun x145 =>
      (f217 x141 x143 x145 μ).bind fun r147 =>
      (ldS L (v3 + (1 : Int32)) r147.1).bind fun x149 =>
      (ldS L (v3 + (2 : Int32)) r147.1).bind fun x151 =>
      (ldS L (v3 + (3 : Int32)) r147.1).bind fun x153 =>
      (f294 x149 x151 x153 r147.1).bind fun r155 =>
      if r147.2 = r155.2 then
        c369_1155 L kl18 v3 r155.1
      else
        rtZ (0 : Int32) r155.1
    else if x4 = (13 : Int32) then
      (ldS L (v3 + (1 : Int32)) μ).bind fun x159 =>
      (ldS L (v3 + (2 : Int32)) μ).bind fun x161 =>
      (ldS L (v3 + (3 : Int32)) μ).bind fun x163 =>
      (ldS L (v3 + (4 : Int32)) μ).bind fun x165 =>
      if x165 = 0 then
        c369_568 L kl18 v3 x159 x161 x163 (0 : Int32) μ
      else
        c369_568 L kl18 v3 x159 x161 x163 (1 : Int32) μ
    else if x4 = (14 : Int32) then
      (f221 μ).bind fun r169 =>
      (f296 r169.1).bind fun r171 =>
      if r169.2 = r171.2 then
        c369_1155 L kl18 v3 r171.1
      else
        rtZ (0 : Int32) r171.1
    else if x4 = (15 : Int32) then
      (ldS L (v3 + (1 : Int32)) μ).bind fun x175 =>
      (ldS L (v3 + (2 : Int32)) μ).bind fun x177 =>
      (f222 x175 x177 μ).bind fun r179 =>
      (ldS L (v3 + (1 : Int32)) r179.1).bind fun x181 =>
      (ldS L (v3 + (2 : Int32)) r179.1).bind fun x183 =>
      (f297 x181 x183 r179.1).bind fun r185 =>
      if r179.2 = r185.2 then
        c369_1155 L kl18 v3 r185.1
      else
        rtZ (0 : Int32) r185.1
    else if x4 = (16 : Int32) then
      (ldS L (v3 + (1 : Int32)) μ).bind fun x189 =>
      (ldS L (v3 + (2 : Int32)) μ).bind fun x191 =>
      (f223 x189 x191 μ).bind fun r193 =>
      (ldS L (v3 + (1 : Int32)) r193.1).bind fun x195 =>
      (ldS L (v3 + (2 : Int32)) r193.1).bind fun x197 =>
      (f286 x195 x197 r193.1).bind fun r199 =>
      if r193.2 = r199.2 then
        c369_1155 L kl18 v3 r199.1
      else
        rtZ (0 : Int32) r199.1
    else if x4 = (17 : Int32) then
      (ldS L (v3 + (1 : Int32)) μ).bind fun x203 =>
      (f225 x203 μ).bind fun r205 =>
      (ldS L (v3 + (1 : Int32)) r205.1).bind fun x207 =>
      (f287 x207 r205.1).bind fun r209 =>
      if r205.2 = r209.2 then
        c369_1155 L kl18 v3 r209.1
      else
        rtZ (0 : Int32) r209.1
    else if x4 = (18 : Int32) then
      (ldS L (v3 + (1 : Int32)) μ).bind fun x213 =>
      (ldS L (v3 + (2 : Int32)) μ).bind fun x215 =>
      (f226 x213 x215 μ).bind fun r217 =>
      (ldS L (v3 + (1 : Int32)) r217.1).bind fun x219 =>
      (ldS L (v3 + (2 : Int32)) r217.1).bind fun x221 =>
      (f301 x219 x221 r217.1).bind fun r223 =>
      if r217.2 = r223.2 then
        c369_1155 L kl18 v3 r223.1
      else
        rtZ (0 : Int32) r223.1
    else if x4 = (19 : Int32) then
      (ldS L (v3 + (1 : Int32)) μ).bind fun x227 =>
      (f227 x227 μ).bind fun r229 =>
      (ldS L (v3 + (1 : Int32)) r229.1).bind fun x231 =>
      (f349 x231 r229.1).bind fun r233 =>
      if r229.2 = r233.2 then
        c369_1155 L kl18 v3 r233.1
      else
        rtZ (0 : Int32) r233.1
    else if x4 = (20 : Int32) then
      (ldS L (v3 + (1 : Int32)) μ).bind fun x237 =>
      (ldS L (v3 + (2 : Int32)) μ).bind fun x239 =>
      (f228 x237 x239 μ).bind fun r241 =>
      (ldS L (v3 + (1 : Int32)) r241.1).bind fun x243 =>
      (ldS L (v3 + (2 : Int32)) r241.1).bind fun x245 =>
      (f351 x243 x245 r241.1).bind fun r247 =>
      if r241.2 = r247.2 then
        c369_1155 L kl18 v3 r247.1
      else
        rtZ (0 : Int32) r247.1
    else if x4 = (21 : Int32) then
      (ldS L (v3 + (1 : Int32)) μ).bind fun x251 =>
      (ldS L (v3 + (2 : Int32)) μ).bind fun x253 =>
      (f229 x251 x253 μ).bind fun r255 =>
      (ldS L (v3 + (1 : Int32)) r255.1).bind fun x257 =>
      (ldS L (v3 + (2 : Int32)) r255.1).bind fun x259 =>
      (f352 x257 x259 r255.1).bind fun r261 =>
      if r255.2 = r261.2 then
        c369_1155 L kl18 v3 r261.1
      else
        rtZ (0 : Int32) r261.1
    else if x4 = (22 : Int32) then
      (ldS L (v3 + (1 : Int32)) μ).bind fun x265 =>
      (ldS L (v3 + (2 : Int32)) μ).bind fun x267 =>
      (f230 x265 x267 μ).bind fun r269 =>
      (ldS L (v3 + (1 : Int32)) r269.1).bind fun x271 =>
      (ldS L (v3 + (2 : Int32)) r269.1).bind fun x273 =>
      (f353 x271 x273 r269.1).bind fun r275 =>
      if r269.2 = r275.2 then
        c369_1155 L kl18 v3 r275.1
      else
        rtZ (0 : Int32) r275.1
    else if x4 = (23 : Int32) then
      (ldS L (v3 + (1 : Int32)) μ).bind fun x279 =>
      (f231 x279 μ).bind fun r281 =>
      (ldS L (v3 + (1 : Int32)) r281.1).bind fun x283 =>
      (f341 x283 r281.1).bind fun r285 =>
      if r281.2 = r285.2 then
        c369_1155 L kl18 v3 r285.1
      else
        rtZ (0 : Int32) r285.1
    else if x4 = (24 : Int32) then
      (ldS L (v3 + (1 : Int32)) μ).bind fun x289 =>
      (ldS L (v3 + (2 : Int32)) μ).bind fun x291 =>
      (f232 x289 x291 μ).bind fun r293 =>
      (ldS L (v3 + (1 : Int32)) r293.1).bind fun x295 =>
      (ldS L (v3 + (2 : Int32)) r293.1).bind fun x297 =>
      (f354 x295 x297 r293.1).bind fun r299 =>
      if r293.2 = r299.2 then
        c369_1155 L kl18 v3 r299.1
      else
        rtZ (0 : Int32) r299.1
    else if x4 = (25 : Int32) then
      (ldS L (v3 + (1 : Int32)) μ).bind fun x303 =>
      (f233 x303 μ).bind fun r305 =>
      (ldS L (v3 + (1 : Int32)) r305.1).bind fun x307 =>
      (f355 x307 r305.1).bind fun r309 =>
      if r305.2 = r309.2 then
        c369_1155 L kl18 v3 r309.1
      else
        rtZ (0 : Int32) r309.1
    else if x4 = (26 : Int32) then
      (ldS L (v3 + (1 : Int32)) μ).bind fun x313 =>
      (f234 x313 μ).bind fun r315 =>
      (ldS L (v3 + (1 : Int32)) r315.1).bind fun x317 =>
      (f356 x317 r315.1).bind fun r319 =>
      if r315.2 = r319.2 then
        c369_1155 L kl18 v3 r319.1
      else
        rtZ (0 : Int32) r319.1
    else if x4 = (27 : Int32) then
      (ldS L (v3 + (1 : Int32)) μ).bind fun x323 =>
      (f235 x323 μ).bind fun r325 =>
      (ldS L (v3 + (1 : Int32)) r325.1).bind fun x327 =>
      (f357 x327 r325.1).bind fun r329 =>
      if r325.2 = r329.2 then
        c369_1155 L kl18 v3 r329.1
      else
        rtZ (0 : Int32) r329.1
    else if x4 = (28 : Int32) then
      (ldS L (v3 + (1 : Int32)) μ).bind fun x333 =>
      (ldS L (v3 + (2 : Int32)) μ).bind fun x335 =>
      (f236 x333 x335 μ).bind fun r337 =>
      (ldS L (v3 + (1 : Int32)) r337.1).bind fun x339 =>
      (ldS L (v3 + (2 : Int32)) r337.1).bind fun x341 =>
      (f358 x339 x341 r337.1).bind fun r343 =>
      if r337.2 = r343.2 then
        c369_1155 L kl18 v3 r343.1
      else
        rtZ (0 : Int32) r343.1
    else if x4 = (29 : Int32) then
      (ldS L (v3 + (1 : Int32)) μ).bind fun x347 =>
      (ldS L (v3 + (2 : Int32)) μ).bind fun x349 =>
      (f237 x347 x349 μ).bind fun r351 =>
      (ldS L (v3 + (1 : Int32)) r351.1).bind fun x353 =>
      (ldS L (v3 + (2 : Int32)) r351.1).bind fun x355 =>
      (f359 x353 x355 r351.1).bind fun r357 =>
      if r351.2 = r357.2 then
        c369_1155 L kl18 v3 r357.1
      else
        rtZ (0 : Int32) r357.1
    else if x4 = (30 : Int32) then
      (ldS L (v3 + (1 : Int32)) μ).bind fun x361 =>
      (ldS L (v3 + (2 : Int32)) μ).bind fun x363 =>
      (f238 x361 x363 μ).bind fun r365 =>
      (ldS L (v3 + (1 : Int32)) r365.1).bind fun x367 =>
      (ldS L (v3 + (2 : Int32)) r365.1).bind fun x369 =>
      (f360 x367 x369 r365.1).bind fun r371 =>
      if r365.2 = r371.2 then
        c369_1155 L kl18 v3 r371.1
      else
        rtZ (0 : Int32) r371.1
    else if x4 = (31 : Int32) then
      (ldS L (v3 + (1 : Int32)) μ).bind fun x375 =>
      (ldS L (v3 + (2 : Int32)) μ).bind fun x377 =>
      (f239 x375 x377 μ).bind fun r379 =>
      (ldS L (v3 + (1 : Int32)) r379.1).bind fun x381 =>
      (ldS L (v3 + (2 : Int32)) r379.1).bind fun x383 =>
      (f361 x381 x383 r379.1).bind fun r385 =>
      if r379.2 = r385.2 then
        c369_1155 L kl18 v3 r385.1
      else
        rtZ (0 : Int32) r385.1
    else if x4 = (32 : Int32) then
      (ldS L (v3 + (1 : Int32)) μ).bind fun x389 =>
      (ldS L (v3 + (2 : Int32)) μ).bind fun x391 =>
      (f240 x389 x391 μ).bind fun r393 =>
      (ldS L (v3 + (1 : Int32)) r393.1).bind fun x395 =>
      (ldS L (v3 + (2 : Int32)) r393.1).bind fun x397 =>
      (f309 x395 x397 r393.1).bind fun r399 =>
      if r393.2 = r399.2 then
        c369_1155 L kl18 v3 r399.1
      else
        rtZ (0 : Int32) r399.1
    else 
      c369_1155 L kl18 v3 μ
theorem b369_18_ok {L : Nat} (kl18 : Int32 → Mem → Option (Mem × Int32)) (hk18 : (∀ (v3 : Int32) (μ : Mem) (res : Mem × Int32), kl18 v3 μ = some res → Sx 369 18 [(0, .ref 100003), (1, .ref 0), (2, .ref 129), (3, .int v3)] [] 222 283848 (mk L μ) (mk L res.1, some (.int res.2)))) (v3 : Int32) (μ : Mem) (res : Mem × Int32) (h : b369_18 L kl18 v3 μ = some res) : Sx 369 18 [(0, .ref 100003), (1, .ref 0), (2, .ref 129), (3, .int v3)] [] 222 283848 (mk L μ) (mk L res.1, some (.int res.2)) := by
  unfold b369_18 at h
  refine sx_iload_n (i := 3) k369_18 rfl rfl ?_
  refine sx_aload_n (i := 0) k369_19 rfl rfl ?_
  refine dx_slen k369_20 ?_
  refine sx_iconst (v := 5) k369_21 (by decide) ?_
  refine sx_isub k369_22 ?_
  by_cases hb1 : ((nI L) - (5 : Int32)) < v3
  · rw [if_pos hb1] at h
    refine sx_icmp_gt (tgt := 1161) k369_23 (by decide) (fun _ => ?_) (fun q => absurd hb1 q)
    refine sx_iconst (v := 1) k369_1161 (by decide) ?_
    exact dx_retz k369_1162 rt_369 law_nc h
  · rw [if_neg hb1] at h
    refine sx_icmp_gt (tgt := 1161) k369_23 (by decide) (fun q => absurd q hb1) (fun _ => ?_)
    refine sx_aload_n (i := 0) k369_26 rfl rfl ?_
    refine sx_iload_n (i := 3) k369_27 rfl rfl ?_
    obtain ⟨x2, e3, h⟩ := Option.bind_eq_some_iff.mp h
    refine dx_sald k369_28 e3 ?_
    refine sx_bipush (v := 63) k369_29 (by decide) ?_
    refine sx_iand k369_31 ?_
    refine dx_nm h (fun x4 h => ?_)
    by_cases hb18 : x4 = (0 : Int32)
    · rw [if_pos hb18] at h
      refine sx_tableIn (off := 148) (tgt := 180) k369_32 (by rw [hb18]; decide) (by rw [hb18]; decide) (by rw [hb18]; rfl) (by decide) ?_
      refine sx_aload_n (i := 1) k369_180 rfl rfl ?_
      refine sx_aload_n (i := 0) k369_181 rfl rfl ?_
      refine sx_iload_n (i := 3) k369_182 rfl rfl ?_
      refine sx_iconst (v := 1) k369_183 (by decide) ?_
      refine sx_iadd k369_184 ?_
      obtain ⟨x5, e6, h⟩ := Option.bind_eq_some_iff.mp h
      refine dx_sald k369_185 e6 ?_
      refine sx_aload_n (i := 0) k369_186 rfl rfl ?_
      refine sx_iload_n (i := 3) k369_187 rfl rfl ?_
      refine sx_iconst (v := 2) k369_188 (by decide) ?_
      refine sx_iadd k369_189 ?_
      obtain ⟨x7, e8, h⟩ := Option.bind_eq_some_iff.mp h
      refine dx_sald k369_190 e8 ?_
      obtain ⟨r9, e10, h⟩ := Option.bind_eq_some_iff.mp h
      refine dx_V (sk := []) (vs := [.int x5, .int x7]) st_369_197 k369_191 ow_369 cl_16_13 (by decide) rfl (Nat.le_of_ble_eq_true rfl) sk_0 (ok197 x5 x7 _ _ e10) (sk3 := [.int r9.2]) rfl rfl law_nc ?_
      refine sx_aload_n (i := 2) k369_194 rfl rfl ?_
      refine sx_aload_n (i := 0) k369_195 rfl rfl ?_
      refine sx_iload_n (i := 3) k369_196 rfl rfl ?_
      refine sx_iconst (v := 1) k369_197 (by decide) ?_
      refine sx_iadd k369_198 ?_
      obtain ⟨x11, e12, h⟩ := Option.bind_eq_some_iff.mp h
      refine dx_sald k369_199 e12 ?_
      refine sx_aload_n (i := 0) k369_200 rfl rfl ?_
      refine sx_iload_n (i := 3) k369_201 rfl rfl ?_
      refine sx_iconst (v := 2) k369_202 (by decide) ?_
      refine sx_iadd k369_203 ?_
      obtain ⟨x13, e14, h⟩ := Option.bind_eq_some_iff.mp h
      refine dx_sald k369_204 e14 ?_
      obtain ⟨r15, e16, h⟩ := Option.bind_eq_some_iff.mp h
      refine dx_V (sk := [.int r9.2]) (vs := [.int x11, .int x13]) st_369_241 k369_205 ow_369 cl_16_17 (by decide) rfl (Nat.le_of_ble_eq_true rfl) sk_129 (ok241 x11 x13 _ _ e16) (sk3 := [.int r15.2, .int r9.2]) rfl rfl law_nc ?_
      by_cases hb17 : r9.2 = r15.2
      · rw [if_pos hb17] at h
        refine sx_icmp_eq (tgt := 1155) k369_208 (by decide) (fun _ => ?_) (fun q => absurd hb17 q)
        refine sx_pick (lo2 := [(0, .ref 100003), (1, .ref 0), (2, .ref 129), (3, .int v3)]) [0, 1, 2, 3] rfl ?_
        exact c369_1155_ok kl18 hk18 v3 _ _ h
      · rw [if_neg hb17] at h
        refine sx_icmp_eq (tgt := 1155) k369_208 (by decide) (fun q => absurd q hb17) (fun _ => ?_)
        refine sx_iconst (v := 0) k369_211 (by decide) ?_
        exact dx_retz k369_212 rt_369 law_nc h
    · rw [if_neg hb18] at h
      by_cases hb28 : x4 = (1 : Int32)
      · rw [if_pos hb28] at h
        refine sx_tableIn (off := 181) (tgt := 213) k369_32 (by rw [hb28]; decide) (by rw [hb28]; decide) (by rw [hb28]; rfl) (by decide) ?_
        refine sx_aload_n (i := 1) k369_213 rfl rfl ?_
        refine sx_aload_n (i := 0) k369_214 rfl rfl ?_
        refine sx_iload_n (i := 3) k369_215 rfl rfl ?_
        refine sx_iconst (v := 1) k369_216 (by decide) ?_
        refine sx_iadd k369_217 ?_
        obtain ⟨x19, e20, h⟩ := Option.bind_eq_some_iff.mp h
        refine dx_sald k369_218 e20 ?_
        obtain ⟨r21, e22, h⟩ := Option.bind_eq_some_iff.mp h
        refine dx_V (sk := []) (vs := [.int x19]) st_369_198 k369_219 ow_369 cl_16_18 (by decide) rfl (Nat.le_of_ble_eq_true rfl) sk_0 (ok198 x19 _ _ e22) (sk3 := [.int r21.2]) rfl rfl law_nc ?_
        refine sx_aload_n (i := 2) k369_222 rfl rfl ?_
        refine sx_aload_n (i := 0) k369_223 rfl rfl ?_
        refine sx_iload_n (i := 3) k369_224 rfl rfl ?_
        refine sx_iconst (v := 1) k369_225 (by decide) ?_
        refine sx_iadd k369_226 ?_
        obtain ⟨x23, e24, h⟩ := Option.bind_eq_some_iff.mp h
        refine dx_sald k369_227 e24 ?_
        obtain ⟨r25, e26, h⟩ := Option.bind_eq_some_iff.mp h
        refine dx_V (sk := [.int r21.2]) (vs := [.int x23]) st_369_242 k369_228 ow_369 cl_16_22 (by decide) rfl (Nat.le_of_ble_eq_true rfl) sk_129 (ok242 x23 _ _ e26) (sk3 := [.int r25.2, .int r21.2]) rfl rfl law_nc ?_
        by_cases hb27 : r21.2 = r25.2
        · rw [if_pos hb27] at h
          refine sx_icmp_eq (tgt := 1155) k369_231 (by decide) (fun _ => ?_) (fun q => absurd hb27 q)
          refine sx_pick (lo2 := [(0, .ref 100003), (1, .ref 0), (2, .ref 129), (3, .int v3)]) [0, 1, 2, 3] rfl ?_
          exact c369_1155_ok kl18 hk18 v3 _ _ h
        · rw [if_neg hb27] at h
          refine sx_icmp_eq (tgt := 1155) k369_231 (by decide) (fun q => absurd q hb27) (fun _ => ?_)
          refine sx_iconst (v := 0) k369_234 (by decide) ?_
          exact dx_retz k369_235 rt_369 law_nc h
      · rw [if_neg hb28] at h
        by_cases hb34 : x4 = (2 : Int32)
        · rw [if_pos hb34] at h
          refine sx_tableIn (off := 204) (tgt := 236) k369_32 (by rw [hb34]; decide) (by rw [hb34]; decide) (by rw [hb34]; rfl) (by decide) ?_
          refine sx_aload_n (i := 1) k369_236 rfl rfl ?_
          obtain ⟨r29, e30, h⟩ := Option.bind_eq_some_iff.mp h
          refine dx_V (sk := []) (vs := []) st_369_199 k369_237 ow_369 cl_16_23 (by decide) rfl (Nat.le_of_ble_eq_true rfl) sk_0 (ok199 _ _ e30) (sk3 := [.int r29.2]) rfl rfl law_nc ?_
          refine sx_aload_n (i := 2) k369_240 rfl rfl ?_
          obtain ⟨r31, e32, h⟩ := Option.bind_eq_some_iff.mp h
          refine dx_V (sk := [.int r29.2]) (vs := []) st_369_243 k369_241 ow_369 cl_16_27 (by decide) rfl (Nat.le_of_ble_eq_true rfl) sk_129 (ok243 _ _ e32) (sk3 := [.int r31.2, .int r29.2]) rfl rfl law_nc ?_
          by_cases hb33 : r29.2 = r31.2
          · rw [if_pos hb33] at h
            refine sx_icmp_eq (tgt := 1155) k369_244 (by decide) (fun _ => ?_) (fun q => absurd hb33 q)
            refine sx_pick (lo2 := [(0, .ref 100003), (1, .ref 0), (2, .ref 129), (3, .int v3)]) [0, 1, 2, 3] rfl ?_
            exact c369_1155_ok kl18 hk18 v3 _ _ h
          · rw [if_neg hb33] at h
            refine sx_icmp_eq (tgt := 1155) k369_244 (by decide) (fun q => absurd q hb33) (fun _ => ?_)
            refine sx_iconst (v := 0) k369_247 (by decide) ?_
            exact dx_retz k369_248 rt_369 law_nc h
        · rw [if_neg hb34] at h
          by_cases hb40 : x4 = (3 : Int32)
          · rw [if_pos hb40] at h
            refine sx_tableIn (off := 217) (tgt := 249) k369_32 (by rw [hb40]; decide) (by rw [hb40]; decide) (by rw [hb40]; rfl) (by decide) ?_
            refine sx_aload_n (i := 1) k369_249 rfl rfl ?_
            obtain ⟨r35, e36, h⟩ := Option.bind_eq_some_iff.mp h
            refine dx_V (sk := []) (vs := []) st_369_200 k369_250 ow_369 cl_16_28 (by decide) rfl (Nat.le_of_ble_eq_true rfl) sk_0 (ok200 _ _ e36) (sk3 := [.int r35.2]) rfl rfl law_nc ?_
            refine sx_aload_n (i := 2) k369_253 rfl rfl ?_
            obtain ⟨r37, e38, h⟩ := Option.bind_eq_some_iff.mp h
            refine dx_V (sk := [.int r35.2]) (vs := []) st_369_244 k369_254 ow_369 cl_16_31 (by decide) rfl (Nat.le_of_ble_eq_true rfl) sk_129 (ok244 _ _ e38) (sk3 := [.int r37.2, .int r35.2]) rfl rfl law_nc ?_
            by_cases hb39 : r35.2 = r37.2
            · rw [if_pos hb39] at h
              refine sx_icmp_eq (tgt := 1155) k369_257 (by decide) (fun _ => ?_) (fun q => absurd hb39 q)
              refine sx_pick (lo2 := [(0, .ref 100003), (1, .ref 0), (2, .ref 129), (3, .int v3)]) [0, 1, 2, 3] rfl ?_
              exact c369_1155_ok kl18 hk18 v3 _ _ h
            · rw [if_neg hb39] at h
              refine sx_icmp_eq (tgt := 1155) k369_257 (by decide) (fun q => absurd q hb39) (fun _ => ?_)
              refine sx_iconst (v := 0) k369_260 (by decide) ?_
              exact dx_retz k369_261 rt_369 law_nc h
          · rw [if_neg hb40] at h
            by_cases hb50 : x4 = (4 : Int32)
            · rw [if_pos hb50] at h
              refine sx_tableIn (off := 230) (tgt := 262) k369_32 (by rw [hb50]; decide) (by rw [hb50]; decide) (by rw [hb50]; rfl) (by decide) ?_
              refine sx_aload_n (i := 1) k369_262 rfl rfl ?_
              refine sx_aload_n (i := 0) k369_263 rfl rfl ?_
              refine sx_iload_n (i := 3) k369_264 rfl rfl ?_
              refine sx_iconst (v := 1) k369_265 (by decide) ?_
              refine sx_iadd k369_266 ?_
              obtain ⟨x41, e42, h⟩ := Option.bind_eq_some_iff.mp h
              refine dx_sald k369_267 e42 ?_
              obtain ⟨r43, e44, h⟩ := Option.bind_eq_some_iff.mp h
              refine dx_V (sk := []) (vs := [.int x41]) st_369_201 k369_268 ow_369 cl_16_32 (by decide) rfl (Nat.le_of_ble_eq_true rfl) sk_0 (ok201 x41 _ _ e44) (sk3 := [.int r43.2]) rfl rfl law_nc ?_
              refine sx_aload_n (i := 2) k369_271 rfl rfl ?_
              refine sx_aload_n (i := 0) k369_272 rfl rfl ?_
              refine sx_iload_n (i := 3) k369_273 rfl rfl ?_
              refine sx_iconst (v := 1) k369_274 (by decide) ?_
              refine sx_iadd k369_275 ?_
              obtain ⟨x45, e46, h⟩ := Option.bind_eq_some_iff.mp h
              refine dx_sald k369_276 e46 ?_
              obtain ⟨r47, e48, h⟩ := Option.bind_eq_some_iff.mp h
              refine dx_V (sk := [.int r43.2]) (vs := [.int x45]) st_369_251 k369_277 ow_369 cl_16_35 (by decide) rfl (Nat.le_of_ble_eq_true rfl) sk_129 (ok251 x45 _ _ e48) (sk3 := [.int r47.2, .int r43.2]) rfl rfl law_nc ?_
              by_cases hb49 : r43.2 = r47.2
              · rw [if_pos hb49] at h
                refine sx_icmp_eq (tgt := 1155) k369_280 (by decide) (fun _ => ?_) (fun q => absurd hb49 q)
                refine sx_pick (lo2 := [(0, .ref 100003), (1, .ref 0), (2, .ref 129), (3, .int v3)]) [0, 1, 2, 3] rfl ?_
                exact c369_1155_ok kl18 hk18 v3 _ _ h
              · rw [if_neg hb49] at h
                refine sx_icmp_eq (tgt := 1155) k369_280 (by decide) (fun q => absurd q hb49) (fun _ => ?_)
                refine sx_iconst (v := 0) k369_283 (by decide) ?_
                exact dx_retz k369_284 rt_369 law_nc h
            · rw [if_neg hb50] at h
              by_cases hb60 : x4 = (5 : Int32)
              · rw [if_pos hb60] at h
                refine sx_tableIn (off := 253) (tgt := 285) k369_32 (by rw [hb60]; decide) (by rw [hb60]; decide) (by rw [hb60]; rfl) (by decide) ?_
                refine sx_aload_n (i := 1) k369_285 rfl rfl ?_
                refine sx_aload_n (i := 0) k369_286 rfl rfl ?_
                refine sx_iload_n (i := 3) k369_287 rfl rfl ?_
                refine sx_iconst (v := 1) k369_288 (by decide) ?_
                refine sx_iadd k369_289 ?_
                obtain ⟨x51, e52, h⟩ := Option.bind_eq_some_iff.mp h
                refine dx_sald k369_290 e52 ?_
                obtain ⟨r53, e54, h⟩ := Option.bind_eq_some_iff.mp h
                refine dx_V (sk := []) (vs := [.int x51]) st_369_205 k369_291 ow_369 cl_16_36 (by decide) rfl (Nat.le_of_ble_eq_true rfl) sk_0 (ok205 x51 _ _ e54) (sk3 := [.int r53.2]) rfl rfl law_nc ?_
                refine sx_aload_n (i := 2) k369_294 rfl rfl ?_
                refine sx_aload_n (i := 0) k369_295 rfl rfl ?_
                refine sx_iload_n (i := 3) k369_296 rfl rfl ?_
                refine sx_iconst (v := 1) k369_297 (by decide) ?_
                refine sx_iadd k369_298 ?_
                obtain ⟨x55, e56, h⟩ := Option.bind_eq_some_iff.mp h
                refine dx_sald k369_299 e56 ?_
                obtain ⟨r57, e58, h⟩ := Option.bind_eq_some_iff.mp h
                refine dx_V (sk := [.int r53.2]) (vs := [.int x55]) st_369_257 k369_300 ow_369 cl_16_39 (by decide) rfl (Nat.le_of_ble_eq_true rfl) sk_129 (ok257 x55 _ _ e58) (sk3 := [.int r57.2, .int r53.2]) rfl rfl law_nc ?_
                by_cases hb59 : r53.2 = r57.2
                · rw [if_pos hb59] at h
                  refine sx_icmp_eq (tgt := 1155) k369_303 (by decide) (fun _ => ?_) (fun q => absurd hb59 q)
                  refine sx_pick (lo2 := [(0, .ref 100003), (1, .ref 0), (2, .ref 129), (3, .int v3)]) [0, 1, 2, 3] rfl ?_
                  exact c369_1155_ok kl18 hk18 v3 _ _ h
                · rw [if_neg hb59] at h
                  refine sx_icmp_eq (tgt := 1155) k369_303 (by decide) (fun q => absurd q hb59) (fun _ => ?_)
                  refine sx_iconst (v := 0) k369_306 (by decide) ?_
                  exact dx_retz k369_307 rt_369 law_nc h
              · rw [if_neg hb60] at h
                by_cases hb74 : x4 = (6 : Int32)
                · rw [if_pos hb74] at h
                  refine sx_tableIn (off := 276) (tgt := 308) k369_32 (by rw [hb74]; decide) (by rw [hb74]; decide) (by rw [hb74]; rfl) (by decide) ?_
                  refine sx_aload_n (i := 1) k369_308 rfl rfl ?_
                  refine sx_aload_n (i := 0) k369_309 rfl rfl ?_
                  refine sx_iload_n (i := 3) k369_310 rfl rfl ?_
                  refine sx_iconst (v := 1) k369_311 (by decide) ?_
                  refine sx_iadd k369_312 ?_
                  obtain ⟨x61, e62, h⟩ := Option.bind_eq_some_iff.mp h
                  refine dx_sald k369_313 e62 ?_
                  refine sx_aload_n (i := 0) k369_314 rfl rfl ?_
                  refine sx_iload_n (i := 3) k369_315 rfl rfl ?_
                  refine sx_iconst (v := 2) k369_316 (by decide) ?_
                  refine sx_iadd k369_317 ?_
                  obtain ⟨x63, e64, h⟩ := Option.bind_eq_some_iff.mp h
                  refine dx_sald k369_318 e64 ?_
                  obtain ⟨r65, e66, h⟩ := Option.bind_eq_some_iff.mp h
                  refine dx_V (sk := []) (vs := [.int x61, .int x63]) st_369_206 k369_319 ow_369 cl_16_40 (by decide) rfl (Nat.le_of_ble_eq_true rfl) sk_0 (ok206 x61 x63 _ _ e66) (sk3 := [.int r65.2]) rfl rfl law_nc ?_
                  refine sx_aload_n (i := 2) k369_322 rfl rfl ?_
                  refine sx_aload_n (i := 0) k369_323 rfl rfl ?_
                  refine sx_iload_n (i := 3) k369_324 rfl rfl ?_
                  refine sx_iconst (v := 1) k369_325 (by decide) ?_
                  refine sx_iadd k369_326 ?_
                  obtain ⟨x67, e68, h⟩ := Option.bind_eq_some_iff.mp h
                  refine dx_sald k369_327 e68 ?_
                  refine sx_aload_n (i := 0) k369_328 rfl rfl ?_
                  refine sx_iload_n (i := 3) k369_329 rfl rfl ?_
                  refine sx_iconst (v := 2) k369_330 (by decide) ?_
                  refine sx_iadd k369_331 ?_
                  obtain ⟨x69, e70, h⟩ := Option.bind_eq_some_iff.mp h
                  refine dx_sald k369_332 e70 ?_
                  obtain ⟨r71, e72, h⟩ := Option.bind_eq_some_iff.mp h
                  refine dx_V (sk := [.int r65.2]) (vs := [.int x67, .int x69]) st_369_259 k369_333 ow_369 cl_16_43 (by decide) rfl (Nat.le_of_ble_eq_true rfl) sk_129 (ok259 x67 x69 _ _ e72) (sk3 := [.int r71.2, .int r65.2]) rfl rfl law_nc ?_
                  by_cases hb73 : r65.2 = r71.2
                  · rw [if_pos hb73] at h
                    refine sx_icmp_eq (tgt := 1155) k369_336 (by decide) (fun _ => ?_) (fun q => absurd hb73 q)
                    refine sx_pick (lo2 := [(0, .ref 100003), (1, .ref 0), (2, .ref 129), (3, .int v3)]) [0, 1, 2, 3] rfl ?_
                    exact c369_1155_ok kl18 hk18 v3 _ _ h
                  · rw [if_neg hb73] at h
                    refine sx_icmp_eq (tgt := 1155) k369_336 (by decide) (fun q => absurd q hb73) (fun _ => ?_)
                    refine sx_iconst (v := 0) k369_339 (by decide) ?_
                    exact dx_retz k369_340 rt_369 law_nc h
                · rw [if_neg hb74] at h
                  by_cases hb88 : x4 = (7 : Int32)
                  · rw [if_pos hb88] at h
                    refine sx_tableIn (off := 309) (tgt := 341) k369_32 (by rw [hb88]; decide) (by rw [hb88]; decide) (by rw [hb88]; rfl) (by decide) ?_
                    refine sx_aload_n (i := 1) k369_341 rfl rfl ?_
                    refine sx_aload_n (i := 0) k369_342 rfl rfl ?_
                    refine sx_iload_n (i := 3) k369_343 rfl rfl ?_
                    refine sx_iconst (v := 1) k369_344 (by decide) ?_
                    refine sx_iadd k369_345 ?_
                    obtain ⟨x75, e76, h⟩ := Option.bind_eq_some_iff.mp h
                    refine dx_sald k369_346 e76 ?_
                    refine sx_aload_n (i := 0) k369_347 rfl rfl ?_
                    refine sx_iload_n (i := 3) k369_348 rfl rfl ?_
                    refine sx_iconst (v := 2) k369_349 (by decide) ?_
                    refine sx_iadd k369_350 ?_
                    obtain ⟨x77, e78, h⟩ := Option.bind_eq_some_iff.mp h
                    refine dx_sald k369_351 e78 ?_
                    obtain ⟨r79, e80, h⟩ := Option.bind_eq_some_iff.mp h
                    refine dx_V (sk := []) (vs := [.int x75, .int x77]) st_369_207 k369_352 ow_369 cl_16_44 (by decide) rfl (Nat.le_of_ble_eq_true rfl) sk_0 (ok207 x75 x77 _ _ e80) (sk3 := [.int r79.2]) rfl rfl law_nc ?_
                    refine sx_aload_n (i := 2) k369_355 rfl rfl ?_
                    refine sx_aload_n (i := 0) k369_356 rfl rfl ?_
                    refine sx_iload_n (i := 3) k369_357 rfl rfl ?_
                    refine sx_iconst (v := 1) k369_358 (by decide) ?_
                    refine sx_iadd k369_359 ?_
                    obtain ⟨x81, e82, h⟩ := Option.bind_eq_some_iff.mp h
                    refine dx_sald k369_360 e82 ?_
                    refine sx_aload_n (i := 0) k369_361 rfl rfl ?_
                    refine sx_iload_n (i := 3) k369_362 rfl rfl ?_
                    refine sx_iconst (v := 2) k369_363 (by decide) ?_
                    refine sx_iadd k369_364 ?_
                    obtain ⟨x83, e84, h⟩ := Option.bind_eq_some_iff.mp h
                    refine dx_sald k369_365 e84 ?_
                    obtain ⟨r85, e86, h⟩ := Option.bind_eq_some_iff.mp h
                    refine dx_V (sk := [.int r79.2]) (vs := [.int x81, .int x83]) st_369_264 k369_366 ow_369 cl_16_47 (by decide) rfl (Nat.le_of_ble_eq_true rfl) sk_129 (ok264 x81 x83 _ _ e86) (sk3 := [.int r85.2, .int r79.2]) rfl rfl law_nc ?_
                    by_cases hb87 : r79.2 = r85.2
                    · rw [if_pos hb87] at h
                      refine sx_icmp_eq (tgt := 1155) k369_369 (by decide) (fun _ => ?_) (fun q => absurd hb87 q)
                      refine sx_pick (lo2 := [(0, .ref 100003), (1, .ref 0), (2, .ref 129), (3, .int v3)]) [0, 1, 2, 3] rfl ?_
                      exact c369_1155_ok kl18 hk18 v3 _ _ h
                    · rw [if_neg hb87] at h
                      refine sx_icmp_eq (tgt := 1155) k369_369 (by decide) (fun q => absurd q hb87) (fun _ => ?_)
                      refine sx_iconst (v := 0) k369_372 (by decide) ?_
                      exact dx_retz k369_373 rt_369 law_nc h
                  · rw [if_neg hb88] at h
                    by_cases hb102 : x4 = (8 : Int32)
                    · rw [if_pos hb102] at h
                      refine sx_tableIn (off := 342) (tgt := 374) k369_32 (by rw [hb102]; decide) (by rw [hb102]; decide) (by rw [hb102]; rfl) (by decide) ?_
                      refine sx_aload_n (i := 1) k369_374 rfl rfl ?_
                      refine sx_aload_n (i := 0) k369_375 rfl rfl ?_
                      refine sx_iload_n (i := 3) k369_376 rfl rfl ?_
                      refine sx_iconst (v := 1) k369_377 (by decide) ?_
                      refine sx_iadd k369_378 ?_
                      obtain ⟨x89, e90, h⟩ := Option.bind_eq_some_iff.mp h
                      refine dx_sald k369_379 e90 ?_
                      refine sx_aload_n (i := 0) k369_380 rfl rfl ?_
                      refine sx_iload_n (i := 3) k369_381 rfl rfl ?_
                      refine sx_iconst (v := 2) k369_382 (by decide) ?_
                      refine sx_iadd k369_383 ?_
                      obtain ⟨x91, e92, h⟩ := Option.bind_eq_some_iff.mp h
                      refine dx_sald k369_384 e92 ?_
                      obtain ⟨r93, e94, h⟩ := Option.bind_eq_some_iff.mp h
                      refine dx_V (sk := []) (vs := [.int x89, .int x91]) st_369_208 k369_385 ow_369 cl_16_48 (by decide) rfl (Nat.le_of_ble_eq_true rfl) sk_0 (ok208 x89 x91 _ _ e94) (sk3 := [.int r93.2]) rfl rfl law_nc ?_
                      refine sx_aload_n (i := 2) k369_388 rfl rfl ?_
                      refine sx_aload_n (i := 0) k369_389 rfl rfl ?_
                      refine sx_iload_n (i := 3) k369_390 rfl rfl ?_
                      refine sx_iconst (v := 1) k369_391 (by decide) ?_
                      refine sx_iadd k369_392 ?_
                      obtain ⟨x95, e96, h⟩ := Option.bind_eq_some_iff.mp h
                      refine dx_sald k369_393 e96 ?_
                      refine sx_aload_n (i := 0) k369_394 rfl rfl ?_
                      refine sx_iload_n (i := 3) k369_395 rfl rfl ?_
                      refine sx_iconst (v := 2) k369_396 (by decide) ?_
                      refine sx_iadd k369_397 ?_
                      obtain ⟨x97, e98, h⟩ := Option.bind_eq_some_iff.mp h
                      refine dx_sald k369_398 e98 ?_
                      obtain ⟨r99, e100, h⟩ := Option.bind_eq_some_iff.mp h
                      refine dx_V (sk := [.int r93.2]) (vs := [.int x95, .int x97]) st_369_260 k369_399 ow_369 cl_16_51 (by decide) rfl (Nat.le_of_ble_eq_true rfl) sk_129 (ok260 x95 x97 _ _ e100) (sk3 := [.int r99.2, .int r93.2]) rfl rfl law_nc ?_
                      by_cases hb101 : r93.2 = r99.2
                      · rw [if_pos hb101] at h
                        refine sx_icmp_eq (tgt := 1155) k369_402 (by decide) (fun _ => ?_) (fun q => absurd hb101 q)
                        refine sx_pick (lo2 := [(0, .ref 100003), (1, .ref 0), (2, .ref 129), (3, .int v3)]) [0, 1, 2, 3] rfl ?_
                        exact c369_1155_ok kl18 hk18 v3 _ _ h
                      · rw [if_neg hb101] at h
                        refine sx_icmp_eq (tgt := 1155) k369_402 (by decide) (fun q => absurd q hb101) (fun _ => ?_)
                        refine sx_iconst (v := 0) k369_405 (by decide) ?_
                        exact dx_retz k369_406 rt_369 law_nc h
                    · rw [if_neg hb102] at h
                      by_cases hb116 : x4 = (9 : Int32)
                      · rw [if_pos hb116] at h
                        refine sx_tableIn (off := 375) (tgt := 407) k369_32 (by rw [hb116]; decide) (by rw [hb116]; decide) (by rw [hb116]; rfl) (by decide) ?_
                        refine sx_aload_n (i := 1) k369_407 rfl rfl ?_
                        refine sx_aload_n (i := 0) k369_408 rfl rfl ?_
                        refine sx_iload_n (i := 3) k369_409 rfl rfl ?_
                        refine sx_iconst (v := 1) k369_410 (by decide) ?_
                        refine sx_iadd k369_411 ?_
                        obtain ⟨x103, e104, h⟩ := Option.bind_eq_some_iff.mp h
                        refine dx_sald k369_412 e104 ?_
                        refine sx_aload_n (i := 0) k369_413 rfl rfl ?_
                        refine sx_iload_n (i := 3) k369_414 rfl rfl ?_
                        refine sx_iconst (v := 2) k369_415 (by decide) ?_
                        refine sx_iadd k369_416 ?_
                        obtain ⟨x105, e106, h⟩ := Option.bind_eq_some_iff.mp h
                        refine dx_sald k369_417 e106 ?_
                        obtain ⟨r107, e108, h⟩ := Option.bind_eq_some_iff.mp h
                        refine dx_V (sk := []) (vs := [.int x103, .int x105]) st_369_209 k369_418 ow_369 cl_16_52 (by decide) rfl (Nat.le_of_ble_eq_true rfl) sk_0 (ok209 x103 x105 _ _ e108) (sk3 := [.int r107.2]) rfl rfl law_nc ?_
                        refine sx_aload_n (i := 2) k369_421 rfl rfl ?_
                        refine sx_aload_n (i := 0) k369_422 rfl rfl ?_
                        refine sx_iload_n (i := 3) k369_423 rfl rfl ?_
                        refine sx_iconst (v := 1) k369_424 (by decide) ?_
                        refine sx_iadd k369_425 ?_
                        obtain ⟨x109, e110, h⟩ := Option.bind_eq_some_iff.mp h
                        refine dx_sald k369_426 e110 ?_
                        refine sx_aload_n (i := 0) k369_427 rfl rfl ?_
                        refine sx_iload_n (i := 3) k369_428 rfl rfl ?_
                        refine sx_iconst (v := 2) k369_429 (by decide) ?_
                        refine sx_iadd k369_430 ?_
                        obtain ⟨x111, e112, h⟩ := Option.bind_eq_some_iff.mp h
                        refine dx_sald k369_431 e112 ?_
                        obtain ⟨r113, e114, h⟩ := Option.bind_eq_some_iff.mp h
                        refine dx_V (sk := [.int r107.2]) (vs := [.int x109, .int x111]) st_369_261 k369_432 ow_369 cl_16_55 (by decide) rfl (Nat.le_of_ble_eq_true rfl) sk_129 (ok261 x109 x111 _ _ e114) (sk3 := [.int r113.2, .int r107.2]) rfl rfl law_nc ?_
                        by_cases hb115 : r107.2 = r113.2
                        · rw [if_pos hb115] at h
                          refine sx_icmp_eq (tgt := 1155) k369_435 (by decide) (fun _ => ?_) (fun q => absurd hb115 q)
                          refine sx_pick (lo2 := [(0, .ref 100003), (1, .ref 0), (2, .ref 129), (3, .int v3)]) [0, 1, 2, 3] rfl ?_
                          exact c369_1155_ok kl18 hk18 v3 _ _ h
                        · rw [if_neg hb115] at h
                          refine sx_icmp_eq (tgt := 1155) k369_435 (by decide) (fun q => absurd q hb115) (fun _ => ?_)
                          refine sx_iconst (v := 0) k369_438 (by decide) ?_
                          exact dx_retz k369_439 rt_369 law_nc h
                      · rw [if_neg hb116] at h
                        by_cases hb130 : x4 = (10 : Int32)
                        · rw [if_pos hb130] at h
                          refine sx_tableIn (off := 408) (tgt := 440) k369_32 (by rw [hb130]; decide) (by rw [hb130]; decide) (by rw [hb130]; rfl) (by decide) ?_
                          refine sx_aload_n (i := 1) k369_440 rfl rfl ?_
                          refine sx_aload_n (i := 0) k369_441 rfl rfl ?_
                          refine sx_iload_n (i := 3) k369_442 rfl rfl ?_
                          refine sx_iconst (v := 1) k369_443 (by decide) ?_
                          refine sx_iadd k369_444 ?_
                          obtain ⟨x117, e118, h⟩ := Option.bind_eq_some_iff.mp h
                          refine dx_sald k369_445 e118 ?_
                          refine sx_aload_n (i := 0) k369_446 rfl rfl ?_
                          refine sx_iload_n (i := 3) k369_447 rfl rfl ?_
                          refine sx_iconst (v := 2) k369_448 (by decide) ?_
                          refine sx_iadd k369_449 ?_
                          obtain ⟨x119, e120, h⟩ := Option.bind_eq_some_iff.mp h
                          refine dx_sald k369_450 e120 ?_
                          obtain ⟨r121, e122, h⟩ := Option.bind_eq_some_iff.mp h
                          refine dx_V (sk := []) (vs := [.int x117, .int x119]) st_369_210 k369_451 ow_369 cl_16_56 (by decide) rfl (Nat.le_of_ble_eq_true rfl) sk_0 (ok210 x117 x119 _ _ e122) (sk3 := [.int r121.2]) rfl rfl law_nc ?_
                          refine sx_aload_n (i := 2) k369_454 rfl rfl ?_
                          refine sx_aload_n (i := 0) k369_455 rfl rfl ?_
                          refine sx_iload_n (i := 3) k369_456 rfl rfl ?_
                          refine sx_iconst (v := 1) k369_457 (by decide) ?_
                          refine sx_iadd k369_458 ?_
                          obtain ⟨x123, e124, h⟩ := Option.bind_eq_some_iff.mp h
                          refine dx_sald k369_459 e124 ?_
                          refine sx_aload_n (i := 0) k369_460 rfl rfl ?_
                          refine sx_iload_n (i := 3) k369_461 rfl rfl ?_
                          refine sx_iconst (v := 2) k369_462 (by decide) ?_
                          refine sx_iadd k369_463 ?_
                          obtain ⟨x125, e126, h⟩ := Option.bind_eq_some_iff.mp h
                          refine dx_sald k369_464 e126 ?_
                          obtain ⟨r127, e128, h⟩ := Option.bind_eq_some_iff.mp h
                          refine dx_V (sk := [.int r121.2]) (vs := [.int x123, .int x125]) st_369_262 k369_465 ow_369 cl_16_59 (by decide) rfl (Nat.le_of_ble_eq_true rfl) sk_129 (ok262 x123 x125 _ _ e128) (sk3 := [.int r127.2, .int r121.2]) rfl rfl law_nc ?_
                          by_cases hb129 : r121.2 = r127.2
                          · rw [if_pos hb129] at h
                            refine sx_icmp_eq (tgt := 1155) k369_468 (by decide) (fun _ => ?_) (fun q => absurd hb129 q)
                            refine sx_pick (lo2 := [(0, .ref 100003), (1, .ref 0), (2, .ref 129), (3, .int v3)]) [0, 1, 2, 3] rfl ?_
                            exact c369_1155_ok kl18 hk18 v3 _ _ h
                          · rw [if_neg hb129] at h
                            refine sx_icmp_eq (tgt := 1155) k369_468 (by decide) (fun q => absurd q hb129) (fun _ => ?_)
                            refine sx_iconst (v := 0) k369_471 (by decide) ?_
                            exact dx_retz k369_472 rt_369 law_nc h
                        · rw [if_neg hb130] at h
                          by_cases hb140 : x4 = (11 : Int32)
                          · rw [if_pos hb140] at h
                            refine sx_tableIn (off := 441) (tgt := 473) k369_32 (by rw [hb140]; decide) (by rw [hb140]; decide) (by rw [hb140]; rfl) (by decide) ?_
                            refine sx_aload_n (i := 1) k369_473 rfl rfl ?_
                            refine sx_aload_n (i := 0) k369_474 rfl rfl ?_
                            refine sx_iload_n (i := 3) k369_475 rfl rfl ?_
                            refine sx_iconst (v := 1) k369_476 (by decide) ?_
                            refine sx_iadd k369_477 ?_
                            obtain ⟨x131, e132, h⟩ := Option.bind_eq_some_iff.mp h
                            refine dx_sald k369_478 e132 ?_
                            obtain ⟨r133, e134, h⟩ := Option.bind_eq_some_iff.mp h
                            refine dx_V (sk := []) (vs := [.int x131]) st_369_211 k369_479 ow_369 cl_16_60 (by decide) rfl (Nat.le_of_ble_eq_true rfl) sk_0 (ok211 x131 _ _ e134) (sk3 := [.int r133.2]) rfl rfl law_nc ?_
                            refine sx_aload_n (i := 2) k369_482 rfl rfl ?_
                            refine sx_aload_n (i := 0) k369_483 rfl rfl ?_
                            refine sx_iload_n (i := 3) k369_484 rfl rfl ?_
                            refine sx_iconst (v := 1) k369_485 (by decide) ?_
                            refine sx_iadd k369_486 ?_
                            obtain ⟨x135, e136, h⟩ := Option.bind_eq_some_iff.mp h
                            refine dx_sald k369_487 e136 ?_
                            obtain ⟨r137, e138, h⟩ := Option.bind_eq_some_iff.mp h
                            refine dx_V (sk := [.int r133.2]) (vs := [.int x135]) st_369_263 k369_488 ow_369 cl_16_63 (by decide) rfl (Nat.le_of_ble_eq_true rfl) sk_129 (ok263 x135 _ _ e138) (sk3 := [.int r137.2, .int r133.2]) rfl rfl law_nc ?_
                            by_cases hb139 : r133.2 = r137.2
                            · rw [if_pos hb139] at h
                              refine sx_icmp_eq (tgt := 1155) k369_491 (by decide) (fun _ => ?_) (fun q => absurd hb139 q)
                              refine sx_pick (lo2 := [(0, .ref 100003), (1, .ref 0), (2, .ref 129), (3, .int v3)]) [0, 1, 2, 3] rfl ?_
                              exact c369_1155_ok kl18 hk18 v3 _ _ h
                            · rw [if_neg hb139] at h
                              refine sx_icmp_eq (tgt := 1155) k369_491 (by decide) (fun q => absurd q hb139) (fun _ => ?_)
                              refine sx_iconst (v := 0) k369_494 (by decide) ?_
                              exact dx_retz k369_495 rt_369 law_nc h
                          · rw [if_neg hb140] at h
                            by_cases hb158 : x4 = (12 : Int32)
                            · rw [if_pos hb158] at h
                              refine sx_tableIn (off := 464) (tgt := 496) k369_32 (by rw [hb158]; decide) (by rw [hb158]; decide) (by rw [hb158]; rfl) (by decide) ?_
                              refine sx_aload_n (i := 1) k369_496 rfl rfl ?_
                              refine sx_aload_n (i := 0) k369_497 rfl rfl ?_
                              refine sx_iload_n (i := 3) k369_498 rfl rfl ?_
                              refine sx_iconst (v := 1) k369_499 (by decide) ?_
                              refine sx_iadd k369_500 ?_
                              obtain ⟨x141, e142, h⟩ := Option.bind_eq_some_iff.mp h
                              refine dx_sald k369_501 e142 ?_
                              refine sx_aload_n (i := 0) k369_502 rfl rfl ?_
                              refine sx_iload_n (i := 3) k369_503 rfl rfl ?_
                              refine sx_iconst (v := 2) k369_504 (by decide) ?_
                              refine sx_iadd k369_505 ?_
                              obtain ⟨x143, e144, h⟩ := Option.bind_eq_some_iff.mp h
                              refine dx_sald k369_506 e144 ?_
                              refine sx_aload_n (i := 0) k369_507 rfl rfl ?_
                              refine sx_iload_n (i := 3) k369_508 rfl rfl ?_
                              refine sx_iconst (v := 3) k369_509 (by decide) ?_
                              refine sx_iadd k369_510 ?_
                              obtain ⟨x145, e146, h⟩ := Option.bind_eq_some_iff.mp h
                              refine dx_sald k369_511 e146 ?_
                              obtain ⟨r147, e148, h⟩ := Option.bind_eq_some_iff.mp h
                              refine dx_V (sk := []) (vs := [.int x141, .int x143, .int x145]) st_369_217 k369_512 ow_369 cl_16_64 (by decide) rfl (Nat.le_of_ble_eq_true rfl) sk_0 (ok217 x141 x143 x145 _ _ e148) (sk3 := [.int r147.2]) rfl rfl law_nc ?_
                              refine sx_aload_n (i := 2) k369_515 rfl rfl ?_
                              refine sx_aload_n (i := 0) k369_516 rfl rfl ?_
                              refine sx_iload_n (i := 3) k369_517 rfl rfl ?_
                              refine sx_iconst (v := 1) k369_518 (by decide) ?_
                              refine sx_iadd k369_519 ?_
                              obtain ⟨x149, e150, h⟩ := Option.bind_eq_some_iff.mp h
                              refine dx_sald k369_520 e150 ?_
                              refine sx_aload_n (i := 0) k369_521 rfl rfl ?_
                              refine sx_iload_n (i := 3) k369_522 rfl rfl ?_
                              refine sx_iconst (v := 2) k369_523 (by decide) ?_
                              refine sx_iadd k369_524 ?_
                              obtain ⟨x151, e152, h⟩ := Option.bind_eq_some_iff.mp h
                              refine dx_sald k369_525 e152 ?_
                              refine sx_aload_n (i := 0) k369_526 rfl rfl ?_
                              refine sx_iload_n (i := 3) k369_527 rfl rfl ?_
                              refine sx_iconst (v := 3) k369_528 (by decide) ?_
                              refine sx_iadd k369_529 ?_
                              obtain ⟨x153, e154, h⟩ := Option.bind_eq_some_iff.mp h
                              refine dx_sald k369_530 e154 ?_
                              obtain ⟨r155, e156, h⟩ := Option.bind_eq_some_iff.mp h
                              refine dx_V (sk := [.int r147.2]) (vs := [.int x149, .int x151, .int x153]) st_369_294 k369_531 ow_369 cl_16_68 (by decide) rfl (Nat.le_of_ble_eq_true rfl) sk_129 (ok294 x149 x151 x153 _ _ e156) (sk3 := [.int r155.2, .int r147.2]) rfl rfl law_nc ?_
                              by_cases hb157 : r147.2 = r155.2
                              · rw [if_pos hb157] at h
                                refine sx_icmp_eq (tgt := 1155) k369_534 (by decide) (fun _ => ?_) (fun q => absurd hb157 q)
                                refine sx_pick (lo2 := [(0, .ref 100003), (1, .ref 0), (2, .ref 129), (3, .int v3)]) [0, 1, 2, 3] rfl ?_
                                exact c369_1155_ok kl18 hk18 v3 _ _ h
                              · rw [if_neg hb157] at h
                                refine sx_icmp_eq (tgt := 1155) k369_534 (by decide) (fun q => absurd q hb157) (fun _ => ?_)
                                refine sx_iconst (v := 0) k369_537 (by decide) ?_
                                exact dx_retz k369_538 rt_369 law_nc h
                            · rw [if_neg hb158] at h
                              by_cases hb168 : x4 = (13 : Int32)
                              · rw [if_pos hb168] at h
                                refine sx_tableIn (off := 507) (tgt := 539) k369_32 (by rw [hb168]; decide) (by rw [hb168]; decide) (by rw [hb168]; rfl) (by decide) ?_
                                refine sx_aload_n (i := 1) k369_539 rfl rfl ?_
                                refine sx_aload_n (i := 0) k369_540 rfl rfl ?_
                                refine sx_iload_n (i := 3) k369_541 rfl rfl ?_
                                refine sx_iconst (v := 1) k369_542 (by decide) ?_
                                refine sx_iadd k369_543 ?_
                                obtain ⟨x159, e160, h⟩ := Option.bind_eq_some_iff.mp h
                                refine dx_sald k369_544 e160 ?_
                                refine sx_aload_n (i := 0) k369_545 rfl rfl ?_
                                refine sx_iload_n (i := 3) k369_546 rfl rfl ?_
                                refine sx_iconst (v := 2) k369_547 (by decide) ?_
                                refine sx_iadd k369_548 ?_
                                obtain ⟨x161, e162, h⟩ := Option.bind_eq_some_iff.mp h
                                refine dx_sald k369_549 e162 ?_
                                refine sx_aload_n (i := 0) k369_550 rfl rfl ?_
                                refine sx_iload_n (i := 3) k369_551 rfl rfl ?_
                                refine sx_iconst (v := 3) k369_552 (by decide) ?_
                                refine sx_iadd k369_553 ?_
                                obtain ⟨x163, e164, h⟩ := Option.bind_eq_some_iff.mp h
                                refine dx_sald k369_554 e164 ?_
                                refine sx_aload_n (i := 0) k369_555 rfl rfl ?_
                                refine sx_iload_n (i := 3) k369_556 rfl rfl ?_
                                refine sx_iconst (v := 4) k369_557 (by decide) ?_
                                refine sx_iadd k369_558 ?_
                                obtain ⟨x165, e166, h⟩ := Option.bind_eq_some_iff.mp h
                                refine dx_sald k369_559 e166 ?_
                                by_cases hb167 : x165 = 0
                                · rw [if_pos hb167] at h
                                  refine sx_if_eq (tgt := 567) k369_560 (by decide) (fun _ => ?_) (fun q => absurd hb167 q)
                                  refine sx_iconst (v := 0) k369_567 (by decide) ?_
                                  refine sx_pick (lo2 := [(0, .ref 100003), (1, .ref 0), (2, .ref 129), (3, .int v3)]) [0, 1, 2, 3] rfl ?_
                                  exact c369_568_ok kl18 hk18 v3 x159 x161 x163 (0 : Int32) _ _ h
                                · rw [if_neg hb167] at h
                                  refine sx_if_eq (tgt := 567) k369_560 (by decide) (fun q => absurd q hb167) (fun _ => ?_)
                                  refine sx_iconst (v := 1) k369_563 (by decide) ?_
                                  refine sx_goto (tgt := 568) k369_564 (by decide) ?_
                                  refine sx_pick (lo2 := [(0, .ref 100003), (1, .ref 0), (2, .ref 129), (3, .int v3)]) [0, 1, 2, 3] rfl ?_
                                  exact c369_568_ok kl18 hk18 v3 x159 x161 x163 (1 : Int32) _ _ h
                              · rw [if_neg hb168] at h
                                by_cases hb174 : x4 = (14 : Int32)
                                · rw [if_pos hb174] at h
                                  refine sx_tableIn (off := 576) (tgt := 608) k369_32 (by rw [hb174]; decide) (by rw [hb174]; decide) (by rw [hb174]; rfl) (by decide) ?_
                                  refine sx_aload_n (i := 1) k369_608 rfl rfl ?_
                                  obtain ⟨r169, e170, h⟩ := Option.bind_eq_some_iff.mp h
                                  refine dx_V (sk := []) (vs := []) st_369_221 k369_609 ow_369 cl_16_74 (by decide) rfl (Nat.le_of_ble_eq_true rfl) sk_0 (ok221 _ _ e170) (sk3 := [.int r169.2]) rfl rfl law_nc ?_
                                  refine sx_aload_n (i := 2) k369_612 rfl rfl ?_
                                  obtain ⟨r171, e172, h⟩ := Option.bind_eq_some_iff.mp h
                                  refine dx_V (sk := [.int r169.2]) (vs := []) st_369_296 k369_613 ow_369 cl_16_77 (by decide) rfl (Nat.le_of_ble_eq_true rfl) sk_129 (ok296 _ _ e172) (sk3 := [.int r171.2, .int r169.2]) rfl rfl law_nc ?_
                                  by_cases hb173 : r169.2 = r171.2
                                  · rw [if_pos hb173] at h
                                    refine sx_icmp_eq (tgt := 1155) k369_616 (by decide) (fun _ => ?_) (fun q => absurd hb173 q)
                                    refine sx_pick (lo2 := [(0, .ref 100003), (1, .ref 0), (2, .ref 129), (3, .int v3)]) [0, 1, 2, 3] rfl ?_
                                    exact c369_1155_ok kl18 hk18 v3 _ _ h
                                  · rw [if_neg hb173] at h
                                    refine sx_icmp_eq (tgt := 1155) k369_616 (by decide) (fun q => absurd q hb173) (fun _ => ?_)
                                    refine sx_iconst (v := 0) k369_619 (by decide) ?_
                                    exact dx_retz k369_620 rt_369 law_nc h
                                · rw [if_neg hb174] at h
                                  by_cases hb188 : x4 = (15 : Int32)
                                  · rw [if_pos hb188] at h
                                    refine sx_tableIn (off := 589) (tgt := 621) k369_32 (by rw [hb188]; decide) (by rw [hb188]; decide) (by rw [hb188]; rfl) (by decide) ?_
                                    refine sx_aload_n (i := 1) k369_621 rfl rfl ?_
                                    refine sx_aload_n (i := 0) k369_622 rfl rfl ?_
                                    refine sx_iload_n (i := 3) k369_623 rfl rfl ?_
                                    refine sx_iconst (v := 1) k369_624 (by decide) ?_
                                    refine sx_iadd k369_625 ?_
                                    obtain ⟨x175, e176, h⟩ := Option.bind_eq_some_iff.mp h
                                    refine dx_sald k369_626 e176 ?_
                                    refine sx_aload_n (i := 0) k369_627 rfl rfl ?_
                                    refine sx_iload_n (i := 3) k369_628 rfl rfl ?_
                                    refine sx_iconst (v := 2) k369_629 (by decide) ?_
                                    refine sx_iadd k369_630 ?_
                                    obtain ⟨x177, e178, h⟩ := Option.bind_eq_some_iff.mp h
                                    refine dx_sald k369_631 e178 ?_
                                    obtain ⟨r179, e180, h⟩ := Option.bind_eq_some_iff.mp h
                                    refine dx_V (sk := []) (vs := [.int x175, .int x177]) st_369_222 k369_632 ow_369 cl_16_78 (by decide) rfl (Nat.le_of_ble_eq_true rfl) sk_0 (ok222 x175 x177 _ _ e180) (sk3 := [.int r179.2]) rfl rfl law_nc ?_
                                    refine sx_aload_n (i := 2) k369_635 rfl rfl ?_
                                    refine sx_aload_n (i := 0) k369_636 rfl rfl ?_
                                    refine sx_iload_n (i := 3) k369_637 rfl rfl ?_
                                    refine sx_iconst (v := 1) k369_638 (by decide) ?_
                                    refine sx_iadd k369_639 ?_
                                    obtain ⟨x181, e182, h⟩ := Option.bind_eq_some_iff.mp h
                                    refine dx_sald k369_640 e182 ?_
                                    refine sx_aload_n (i := 0) k369_641 rfl rfl ?_
                                    refine sx_iload_n (i := 3) k369_642 rfl rfl ?_
                                    refine sx_iconst (v := 2) k369_643 (by decide) ?_
                                    refine sx_iadd k369_644 ?_
                                    obtain ⟨x183, e184, h⟩ := Option.bind_eq_some_iff.mp h
                                    refine dx_sald k369_645 e184 ?_
                                    obtain ⟨r185, e186, h⟩ := Option.bind_eq_some_iff.mp h
                                    refine dx_V (sk := [.int r179.2]) (vs := [.int x181, .int x183]) st_369_297 k369_646 ow_369 cl_16_81 (by decide) rfl (Nat.le_of_ble_eq_true rfl) sk_129 (ok297 x181 x183 _ _ e186) (sk3 := [.int r185.2, .int r179.2]) rfl rfl law_nc ?_
                                    by_cases hb187 : r179.2 = r185.2
                                    · rw [if_pos hb187] at h
                                      refine sx_icmp_eq (tgt := 1155) k369_649 (by decide) (fun _ => ?_) (fun q => absurd hb187 q)
                                      refine sx_pick (lo2 := [(0, .ref 100003), (1, .ref 0), (2, .ref 129), (3, .int v3)]) [0, 1, 2, 3] rfl ?_
                                      exact c369_1155_ok kl18 hk18 v3 _ _ h
                                    · rw [if_neg hb187] at h
                                      refine sx_icmp_eq (tgt := 1155) k369_649 (by decide) (fun q => absurd q hb187) (fun _ => ?_)
                                      refine sx_iconst (v := 0) k369_652 (by decide) ?_
                                      exact dx_retz k369_653 rt_369 law_nc h
                                  · rw [if_neg hb188] at h
                                    by_cases hb202 : x4 = (16 : Int32)
                                    · rw [if_pos hb202] at h
                                      refine sx_tableIn (off := 622) (tgt := 654) k369_32 (by rw [hb202]; decide) (by rw [hb202]; decide) (by rw [hb202]; rfl) (by decide) ?_
                                      refine sx_aload_n (i := 1) k369_654 rfl rfl ?_
                                      refine sx_aload_n (i := 0) k369_655 rfl rfl ?_
                                      refine sx_iload_n (i := 3) k369_656 rfl rfl ?_
                                      refine sx_iconst (v := 1) k369_657 (by decide) ?_
                                      refine sx_iadd k369_658 ?_
                                      obtain ⟨x189, e190, h⟩ := Option.bind_eq_some_iff.mp h
                                      refine dx_sald k369_659 e190 ?_
                                      refine sx_aload_n (i := 0) k369_660 rfl rfl ?_
                                      refine sx_iload_n (i := 3) k369_661 rfl rfl ?_
                                      refine sx_iconst (v := 2) k369_662 (by decide) ?_
                                      refine sx_iadd k369_663 ?_
                                      obtain ⟨x191, e192, h⟩ := Option.bind_eq_some_iff.mp h
                                      refine dx_sald k369_664 e192 ?_
                                      obtain ⟨r193, e194, h⟩ := Option.bind_eq_some_iff.mp h
                                      refine dx_V (sk := []) (vs := [.int x189, .int x191]) st_369_223 k369_665 ow_369 cl_16_82 (by decide) rfl (Nat.le_of_ble_eq_true rfl) sk_0 (ok223 x189 x191 _ _ e194) (sk3 := [.int r193.2]) rfl rfl law_nc ?_
                                      refine sx_aload_n (i := 2) k369_668 rfl rfl ?_
                                      refine sx_aload_n (i := 0) k369_669 rfl rfl ?_
                                      refine sx_iload_n (i := 3) k369_670 rfl rfl ?_
                                      refine sx_iconst (v := 1) k369_671 (by decide) ?_
                                      refine sx_iadd k369_672 ?_
                                      obtain ⟨x195, e196, h⟩ := Option.bind_eq_some_iff.mp h
                                      refine dx_sald k369_673 e196 ?_
                                      refine sx_aload_n (i := 0) k369_674 rfl rfl ?_
                                      refine sx_iload_n (i := 3) k369_675 rfl rfl ?_
                                      refine sx_iconst (v := 2) k369_676 (by decide) ?_
                                      refine sx_iadd k369_677 ?_
                                      obtain ⟨x197, e198, h⟩ := Option.bind_eq_some_iff.mp h
                                      refine dx_sald k369_678 e198 ?_
                                      obtain ⟨r199, e200, h⟩ := Option.bind_eq_some_iff.mp h
                                      refine dx_V (sk := [.int r193.2]) (vs := [.int x195, .int x197]) st_369_286 k369_679 ow_369 cl_16_85 (by decide) rfl (Nat.le_of_ble_eq_true rfl) sk_129 (ok286 x195 x197 _ _ e200) (sk3 := [.int r199.2, .int r193.2]) rfl rfl law_nc ?_
                                      by_cases hb201 : r193.2 = r199.2
                                      · rw [if_pos hb201] at h
                                        refine sx_icmp_eq (tgt := 1155) k369_682 (by decide) (fun _ => ?_) (fun q => absurd hb201 q)
                                        refine sx_pick (lo2 := [(0, .ref 100003), (1, .ref 0), (2, .ref 129), (3, .int v3)]) [0, 1, 2, 3] rfl ?_
                                        exact c369_1155_ok kl18 hk18 v3 _ _ h
                                      · rw [if_neg hb201] at h
                                        refine sx_icmp_eq (tgt := 1155) k369_682 (by decide) (fun q => absurd q hb201) (fun _ => ?_)
                                        refine sx_iconst (v := 0) k369_685 (by decide) ?_
                                        exact dx_retz k369_686 rt_369 law_nc h
                                    · rw [if_neg hb202] at h
                                      by_cases hb212 : x4 = (17 : Int32)
                                      · rw [if_pos hb212] at h
                                        refine sx_tableIn (off := 655) (tgt := 687) k369_32 (by rw [hb212]; decide) (by rw [hb212]; decide) (by rw [hb212]; rfl) (by decide) ?_
                                        refine sx_aload_n (i := 1) k369_687 rfl rfl ?_
                                        refine sx_aload_n (i := 0) k369_688 rfl rfl ?_
                                        refine sx_iload_n (i := 3) k369_689 rfl rfl ?_
                                        refine sx_iconst (v := 1) k369_690 (by decide) ?_
                                        refine sx_iadd k369_691 ?_
                                        obtain ⟨x203, e204, h⟩ := Option.bind_eq_some_iff.mp h
                                        refine dx_sald k369_692 e204 ?_
                                        obtain ⟨r205, e206, h⟩ := Option.bind_eq_some_iff.mp h
                                        refine dx_V (sk := []) (vs := [.int x203]) st_369_225 k369_693 ow_369 cl_16_86 (by decide) rfl (Nat.le_of_ble_eq_true rfl) sk_0 (ok225 x203 _ _ e206) (sk3 := [.int r205.2]) rfl rfl law_nc ?_
                                        refine sx_aload_n (i := 2) k369_696 rfl rfl ?_
                                        refine sx_aload_n (i := 0) k369_697 rfl rfl ?_
                                        refine sx_iload_n (i := 3) k369_698 rfl rfl ?_
                                        refine sx_iconst (v := 1) k369_699 (by decide) ?_
                                        refine sx_iadd k369_700 ?_
                                        obtain ⟨x207, e208, h⟩ := Option.bind_eq_some_iff.mp h
                                        refine dx_sald k369_701 e208 ?_
                                        obtain ⟨r209, e210, h⟩ := Option.bind_eq_some_iff.mp h
                                        refine dx_V (sk := [.int r205.2]) (vs := [.int x207]) st_369_287 k369_702 ow_369 cl_16_89 (by decide) rfl (Nat.le_of_ble_eq_true rfl) sk_129 (ok287 x207 _ _ e210) (sk3 := [.int r209.2, .int r205.2]) rfl rfl law_nc ?_
                                        by_cases hb211 : r205.2 = r209.2
                                        · rw [if_pos hb211] at h
                                          refine sx_icmp_eq (tgt := 1155) k369_705 (by decide) (fun _ => ?_) (fun q => absurd hb211 q)
                                          refine sx_pick (lo2 := [(0, .ref 100003), (1, .ref 0), (2, .ref 129), (3, .int v3)]) [0, 1, 2, 3] rfl ?_
                                          exact c369_1155_ok kl18 hk18 v3 _ _ h
                                        · rw [if_neg hb211] at h
                                          refine sx_icmp_eq (tgt := 1155) k369_705 (by decide) (fun q => absurd q hb211) (fun _ => ?_)
                                          refine sx_iconst (v := 0) k369_708 (by decide) ?_
                                          exact dx_retz k369_709 rt_369 law_nc h
                                      · rw [if_neg hb212] at h
                                        by_cases hb226 : x4 = (18 : Int32)
                                        · rw [if_pos hb226] at h
                                          refine sx_tableIn (off := 678) (tgt := 710) k369_32 (by rw [hb226]; decide) (by rw [hb226]; decide) (by rw [hb226]; rfl) (by decide) ?_
                                          refine sx_aload_n (i := 1) k369_710 rfl rfl ?_
                                          refine sx_aload_n (i := 0) k369_711 rfl rfl ?_
                                          refine sx_iload_n (i := 3) k369_712 rfl rfl ?_
                                          refine sx_iconst (v := 1) k369_713 (by decide) ?_
                                          refine sx_iadd k369_714 ?_
                                          obtain ⟨x213, e214, h⟩ := Option.bind_eq_some_iff.mp h
                                          refine dx_sald k369_715 e214 ?_
                                          refine sx_aload_n (i := 0) k369_716 rfl rfl ?_
                                          refine sx_iload_n (i := 3) k369_717 rfl rfl ?_
                                          refine sx_iconst (v := 2) k369_718 (by decide) ?_
                                          refine sx_iadd k369_719 ?_
                                          obtain ⟨x215, e216, h⟩ := Option.bind_eq_some_iff.mp h
                                          refine dx_sald k369_720 e216 ?_
                                          obtain ⟨r217, e218, h⟩ := Option.bind_eq_some_iff.mp h
                                          refine dx_V (sk := []) (vs := [.int x213, .int x215]) st_369_226 k369_721 ow_369 cl_16_90 (by decide) rfl (Nat.le_of_ble_eq_true rfl) sk_0 (ok226 x213 x215 _ _ e218) (sk3 := [.int r217.2]) rfl rfl law_nc ?_
                                          refine sx_aload_n (i := 2) k369_724 rfl rfl ?_
                                          refine sx_aload_n (i := 0) k369_725 rfl rfl ?_
                                          refine sx_iload_n (i := 3) k369_726 rfl rfl ?_
                                          refine sx_iconst (v := 1) k369_727 (by decide) ?_
                                          refine sx_iadd k369_728 ?_
                                          obtain ⟨x219, e220, h⟩ := Option.bind_eq_some_iff.mp h
                                          refine dx_sald k369_729 e220 ?_
                                          refine sx_aload_n (i := 0) k369_730 rfl rfl ?_
                                          refine sx_iload_n (i := 3) k369_731 rfl rfl ?_
                                          refine sx_iconst (v := 2) k369_732 (by decide) ?_
                                          refine sx_iadd k369_733 ?_
                                          obtain ⟨x221, e222, h⟩ := Option.bind_eq_some_iff.mp h
                                          refine dx_sald k369_734 e222 ?_
                                          obtain ⟨r223, e224, h⟩ := Option.bind_eq_some_iff.mp h
                                          refine dx_V (sk := [.int r217.2]) (vs := [.int x219, .int x221]) st_369_301 k369_735 ow_369 cl_16_93 (by decide) rfl (Nat.le_of_ble_eq_true rfl) sk_129 (ok301 x219 x221 _ _ e224) (sk3 := [.int r223.2, .int r217.2]) rfl rfl law_nc ?_
                                          by_cases hb225 : r217.2 = r223.2
                                          · rw [if_pos hb225] at h
                                            refine sx_icmp_eq (tgt := 1155) k369_738 (by decide) (fun _ => ?_) (fun q => absurd hb225 q)
                                            refine sx_pick (lo2 := [(0, .ref 100003), (1, .ref 0), (2, .ref 129), (3, .int v3)]) [0, 1, 2, 3] rfl ?_
                                            exact c369_1155_ok kl18 hk18 v3 _ _ h
                                          · rw [if_neg hb225] at h
                                            refine sx_icmp_eq (tgt := 1155) k369_738 (by decide) (fun q => absurd q hb225) (fun _ => ?_)
                                            refine sx_iconst (v := 0) k369_741 (by decide) ?_
                                            exact dx_retz k369_742 rt_369 law_nc h
                                        · rw [if_neg hb226] at h
                                          by_cases hb236 : x4 = (19 : Int32)
                                          · rw [if_pos hb236] at h
                                            refine sx_tableIn (off := 711) (tgt := 743) k369_32 (by rw [hb236]; decide) (by rw [hb236]; decide) (by rw [hb236]; rfl) (by decide) ?_
                                            refine sx_aload_n (i := 1) k369_743 rfl rfl ?_
                                            refine sx_aload_n (i := 0) k369_744 rfl rfl ?_
                                            refine sx_iload_n (i := 3) k369_745 rfl rfl ?_
                                            refine sx_iconst (v := 1) k369_746 (by decide) ?_
                                            refine sx_iadd k369_747 ?_
                                            obtain ⟨x227, e228, h⟩ := Option.bind_eq_some_iff.mp h
                                            refine dx_sald k369_748 e228 ?_
                                            obtain ⟨r229, e230, h⟩ := Option.bind_eq_some_iff.mp h
                                            refine dx_V (sk := []) (vs := [.int x227]) st_369_227 k369_749 ow_369 cl_16_94 (by decide) rfl (Nat.le_of_ble_eq_true rfl) sk_0 (ok227 x227 _ _ e230) (sk3 := [.int r229.2]) rfl rfl law_nc ?_
                                            refine sx_aload_n (i := 2) k369_752 rfl rfl ?_
                                            refine sx_aload_n (i := 0) k369_753 rfl rfl ?_
                                            refine sx_iload_n (i := 3) k369_754 rfl rfl ?_
                                            refine sx_iconst (v := 1) k369_755 (by decide) ?_
                                            refine sx_iadd k369_756 ?_
                                            obtain ⟨x231, e232, h⟩ := Option.bind_eq_some_iff.mp h
                                            refine dx_sald k369_757 e232 ?_
                                            obtain ⟨r233, e234, h⟩ := Option.bind_eq_some_iff.mp h
                                            refine dx_V (sk := [.int r229.2]) (vs := [.int x231]) st_369_349 k369_758 ow_369 cl_16_97 (by decide) rfl (Nat.le_of_ble_eq_true rfl) sk_129 (ok349 x231 _ _ e234) (sk3 := [.int r233.2, .int r229.2]) rfl rfl law_nc ?_
                                            by_cases hb235 : r229.2 = r233.2
                                            · rw [if_pos hb235] at h
                                              refine sx_icmp_eq (tgt := 1155) k369_761 (by decide) (fun _ => ?_) (fun q => absurd hb235 q)
                                              refine sx_pick (lo2 := [(0, .ref 100003), (1, .ref 0), (2, .ref 129), (3, .int v3)]) [0, 1, 2, 3] rfl ?_
                                              exact c369_1155_ok kl18 hk18 v3 _ _ h
                                            · rw [if_neg hb235] at h
                                              refine sx_icmp_eq (tgt := 1155) k369_761 (by decide) (fun q => absurd q hb235) (fun _ => ?_)
                                              refine sx_iconst (v := 0) k369_764 (by decide) ?_
                                              exact dx_retz k369_765 rt_369 law_nc h
                                          · rw [if_neg hb236] at h
                                            by_cases hb250 : x4 = (20 : Int32)
                                            · rw [if_pos hb250] at h
                                              refine sx_tableIn (off := 734) (tgt := 766) k369_32 (by rw [hb250]; decide) (by rw [hb250]; decide) (by rw [hb250]; rfl) (by decide) ?_
                                              refine sx_aload_n (i := 1) k369_766 rfl rfl ?_
                                              refine sx_aload_n (i := 0) k369_767 rfl rfl ?_
                                              refine sx_iload_n (i := 3) k369_768 rfl rfl ?_
                                              refine sx_iconst (v := 1) k369_769 (by decide) ?_
                                              refine sx_iadd k369_770 ?_
                                              obtain ⟨x237, e238, h⟩ := Option.bind_eq_some_iff.mp h
                                              refine dx_sald k369_771 e238 ?_
                                              refine sx_aload_n (i := 0) k369_772 rfl rfl ?_
                                              refine sx_iload_n (i := 3) k369_773 rfl rfl ?_
                                              refine sx_iconst (v := 2) k369_774 (by decide) ?_
                                              refine sx_iadd k369_775 ?_
                                              obtain ⟨x239, e240, h⟩ := Option.bind_eq_some_iff.mp h
                                              refine dx_sald k369_776 e240 ?_
                                              obtain ⟨r241, e242, h⟩ := Option.bind_eq_some_iff.mp h
                                              refine dx_V (sk := []) (vs := [.int x237, .int x239]) st_369_228 k369_777 ow_369 cl_16_98 (by decide) rfl (Nat.le_of_ble_eq_true rfl) sk_0 (ok228 x237 x239 _ _ e242) (sk3 := [.int r241.2]) rfl rfl law_nc ?_
                                              refine sx_aload_n (i := 2) k369_780 rfl rfl ?_
                                              refine sx_aload_n (i := 0) k369_781 rfl rfl ?_
                                              refine sx_iload_n (i := 3) k369_782 rfl rfl ?_
                                              refine sx_iconst (v := 1) k369_783 (by decide) ?_
                                              refine sx_iadd k369_784 ?_
                                              obtain ⟨x243, e244, h⟩ := Option.bind_eq_some_iff.mp h
                                              refine dx_sald k369_785 e244 ?_
                                              refine sx_aload_n (i := 0) k369_786 rfl rfl ?_
                                              refine sx_iload_n (i := 3) k369_787 rfl rfl ?_
                                              refine sx_iconst (v := 2) k369_788 (by decide) ?_
                                              refine sx_iadd k369_789 ?_
                                              obtain ⟨x245, e246, h⟩ := Option.bind_eq_some_iff.mp h
                                              refine dx_sald k369_790 e246 ?_
                                              obtain ⟨r247, e248, h⟩ := Option.bind_eq_some_iff.mp h
                                              refine dx_V (sk := [.int r241.2]) (vs := [.int x243, .int x245]) st_369_351 k369_791 ow_369 cl_16_101 (by decide) rfl (Nat.le_of_ble_eq_true rfl) sk_129 (ok351 x243 x245 _ _ e248) (sk3 := [.int r247.2, .int r241.2]) rfl rfl law_nc ?_
                                              by_cases hb249 : r241.2 = r247.2
                                              · rw [if_pos hb249] at h
                                                refine sx_icmp_eq (tgt := 1155) k369_794 (by decide) (fun _ => ?_) (fun q => absurd hb249 q)
                                                refine sx_pick (lo2 := [(0, .ref 100003), (1, .ref 0), (2, .ref 129), (3, .int v3)]) [0, 1, 2, 3] rfl ?_
                                                exact c369_1155_ok kl18 hk18 v3 _ _ h
                                              · rw [if_neg hb249] at h
                                                refine sx_icmp_eq (tgt := 1155) k369_794 (by decide) (fun q => absurd q hb249) (fun _ => ?_)
                                                refine sx_iconst (v := 0) k369_797 (by decide) ?_
                                                exact dx_retz k369_798 rt_369 law_nc h
                                            · rw [if_neg hb250] at h
                                              by_cases hb264 : x4 = (21 : Int32)
                                              · rw [if_pos hb264] at h
                                                refine sx_tableIn (off := 767) (tgt := 799) k369_32 (by rw [hb264]; decide) (by rw [hb264]; decide) (by rw [hb264]; rfl) (by decide) ?_
                                                refine sx_aload_n (i := 1) k369_799 rfl rfl ?_
                                                refine sx_aload_n (i := 0) k369_800 rfl rfl ?_
                                                refine sx_iload_n (i := 3) k369_801 rfl rfl ?_
                                                refine sx_iconst (v := 1) k369_802 (by decide) ?_
                                                refine sx_iadd k369_803 ?_
                                                obtain ⟨x251, e252, h⟩ := Option.bind_eq_some_iff.mp h
                                                refine dx_sald k369_804 e252 ?_
                                                refine sx_aload_n (i := 0) k369_805 rfl rfl ?_
                                                refine sx_iload_n (i := 3) k369_806 rfl rfl ?_
                                                refine sx_iconst (v := 2) k369_807 (by decide) ?_
                                                refine sx_iadd k369_808 ?_
                                                obtain ⟨x253, e254, h⟩ := Option.bind_eq_some_iff.mp h
                                                refine dx_sald k369_809 e254 ?_
                                                obtain ⟨r255, e256, h⟩ := Option.bind_eq_some_iff.mp h
                                                refine dx_V (sk := []) (vs := [.int x251, .int x253]) st_369_229 k369_810 ow_369 cl_16_102 (by decide) rfl (Nat.le_of_ble_eq_true rfl) sk_0 (ok229 x251 x253 _ _ e256) (sk3 := [.int r255.2]) rfl rfl law_nc ?_
                                                refine sx_aload_n (i := 2) k369_813 rfl rfl ?_
                                                refine sx_aload_n (i := 0) k369_814 rfl rfl ?_
                                                refine sx_iload_n (i := 3) k369_815 rfl rfl ?_
                                                refine sx_iconst (v := 1) k369_816 (by decide) ?_
                                                refine sx_iadd k369_817 ?_
                                                obtain ⟨x257, e258, h⟩ := Option.bind_eq_some_iff.mp h
                                                refine dx_sald k369_818 e258 ?_
                                                refine sx_aload_n (i := 0) k369_819 rfl rfl ?_
                                                refine sx_iload_n (i := 3) k369_820 rfl rfl ?_
                                                refine sx_iconst (v := 2) k369_821 (by decide) ?_
                                                refine sx_iadd k369_822 ?_
                                                obtain ⟨x259, e260, h⟩ := Option.bind_eq_some_iff.mp h
                                                refine dx_sald k369_823 e260 ?_
                                                obtain ⟨r261, e262, h⟩ := Option.bind_eq_some_iff.mp h
                                                refine dx_V (sk := [.int r255.2]) (vs := [.int x257, .int x259]) st_369_352 k369_824 ow_369 cl_16_105 (by decide) rfl (Nat.le_of_ble_eq_true rfl) sk_129 (ok352 x257 x259 _ _ e262) (sk3 := [.int r261.2, .int r255.2]) rfl rfl law_nc ?_
                                                by_cases hb263 : r255.2 = r261.2
                                                · rw [if_pos hb263] at h
                                                  refine sx_icmp_eq (tgt := 1155) k369_827 (by decide) (fun _ => ?_) (fun q => absurd hb263 q)
                                                  refine sx_pick (lo2 := [(0, .ref 100003), (1, .ref 0), (2, .ref 129), (3, .int v3)]) [0, 1, 2, 3] rfl ?_
                                                  exact c369_1155_ok kl18 hk18 v3 _ _ h
                                                · rw [if_neg hb263] at h
                                                  refine sx_icmp_eq (tgt := 1155) k369_827 (by decide) (fun q => absurd q hb263) (fun _ => ?_)
                                                  refine sx_iconst (v := 0) k369_830 (by decide) ?_
                                                  exact dx_retz k369_831 rt_369 law_nc h
                                              · rw [if_neg hb264] at h
                                                by_cases hb278 : x4 = (22 : Int32)
                                                · rw [if_pos hb278] at h
                                                  refine sx_tableIn (off := 800) (tgt := 832) k369_32 (by rw [hb278]; decide) (by rw [hb278]; decide) (by rw [hb278]; rfl) (by decide) ?_
                                                  refine sx_aload_n (i := 1) k369_832 rfl rfl ?_
                                                  refine sx_aload_n (i := 0) k369_833 rfl rfl ?_
                                                  refine sx_iload_n (i := 3) k369_834 rfl rfl ?_
                                                  refine sx_iconst (v := 1) k369_835 (by decide) ?_
                                                  refine sx_iadd k369_836 ?_
                                                  obtain ⟨x265, e266, h⟩ := Option.bind_eq_some_iff.mp h
                                                  refine dx_sald k369_837 e266 ?_
                                                  refine sx_aload_n (i := 0) k369_838 rfl rfl ?_
                                                  refine sx_iload_n (i := 3) k369_839 rfl rfl ?_
                                                  refine sx_iconst (v := 2) k369_840 (by decide) ?_
                                                  refine sx_iadd k369_841 ?_
                                                  obtain ⟨x267, e268, h⟩ := Option.bind_eq_some_iff.mp h
                                                  refine dx_sald k369_842 e268 ?_
                                                  obtain ⟨r269, e270, h⟩ := Option.bind_eq_some_iff.mp h
                                                  refine dx_V (sk := []) (vs := [.int x265, .int x267]) st_369_230 k369_843 ow_369 cl_16_106 (by decide) rfl (Nat.le_of_ble_eq_true rfl) sk_0 (ok230 x265 x267 _ _ e270) (sk3 := [.int r269.2]) rfl rfl law_nc ?_
                                                  refine sx_aload_n (i := 2) k369_846 rfl rfl ?_
                                                  refine sx_aload_n (i := 0) k369_847 rfl rfl ?_
                                                  refine sx_iload_n (i := 3) k369_848 rfl rfl ?_
                                                  refine sx_iconst (v := 1) k369_849 (by decide) ?_
                                                  refine sx_iadd k369_850 ?_
                                                  obtain ⟨x271, e272, h⟩ := Option.bind_eq_some_iff.mp h
                                                  refine dx_sald k369_851 e272 ?_
                                                  refine sx_aload_n (i := 0) k369_852 rfl rfl ?_
                                                  refine sx_iload_n (i := 3) k369_853 rfl rfl ?_
                                                  refine sx_iconst (v := 2) k369_854 (by decide) ?_
                                                  refine sx_iadd k369_855 ?_
                                                  obtain ⟨x273, e274, h⟩ := Option.bind_eq_some_iff.mp h
                                                  refine dx_sald k369_856 e274 ?_
                                                  obtain ⟨r275, e276, h⟩ := Option.bind_eq_some_iff.mp h
                                                  refine dx_V (sk := [.int r269.2]) (vs := [.int x271, .int x273]) st_369_353 k369_857 ow_369 cl_16_109 (by decide) rfl (Nat.le_of_ble_eq_true rfl) sk_129 (ok353 x271 x273 _ _ e276) (sk3 := [.int r275.2, .int r269.2]) rfl rfl law_nc ?_
                                                  by_cases hb277 : r269.2 = r275.2
                                                  · rw [if_pos hb277] at h
                                                    refine sx_icmp_eq (tgt := 1155) k369_860 (by decide) (fun _ => ?_) (fun q => absurd hb277 q)
                                                    refine sx_pick (lo2 := [(0, .ref 100003), (1, .ref 0), (2, .ref 129), (3, .int v3)]) [0, 1, 2, 3] rfl ?_
                                                    exact c369_1155_ok kl18 hk18 v3 _ _ h
                                                  · rw [if_neg hb277] at h
                                                    refine sx_icmp_eq (tgt := 1155) k369_860 (by decide) (fun q => absurd q hb277) (fun _ => ?_)
                                                    refine sx_iconst (v := 0) k369_863 (by decide) ?_
                                                    exact dx_retz k369_864 rt_369 law_nc h
                                                · rw [if_neg hb278] at h
                                                  by_cases hb288 : x4 = (23 : Int32)
                                                  · rw [if_pos hb288] at h
                                                    refine sx_tableIn (off := 833) (tgt := 865) k369_32 (by rw [hb288]; decide) (by rw [hb288]; decide) (by rw [hb288]; rfl) (by decide) ?_
                                                    refine sx_aload_n (i := 1) k369_865 rfl rfl ?_
                                                    refine sx_aload_n (i := 0) k369_866 rfl rfl ?_
                                                    refine sx_iload_n (i := 3) k369_867 rfl rfl ?_
                                                    refine sx_iconst (v := 1) k369_868 (by decide) ?_
                                                    refine sx_iadd k369_869 ?_
                                                    obtain ⟨x279, e280, h⟩ := Option.bind_eq_some_iff.mp h
                                                    refine dx_sald k369_870 e280 ?_
                                                    obtain ⟨r281, e282, h⟩ := Option.bind_eq_some_iff.mp h
                                                    refine dx_V (sk := []) (vs := [.int x279]) st_369_231 k369_871 ow_369 cl_16_110 (by decide) rfl (Nat.le_of_ble_eq_true rfl) sk_0 (ok231 x279 _ _ e282) (sk3 := [.int r281.2]) rfl rfl law_nc ?_
                                                    refine sx_aload_n (i := 2) k369_874 rfl rfl ?_
                                                    refine sx_aload_n (i := 0) k369_875 rfl rfl ?_
                                                    refine sx_iload_n (i := 3) k369_876 rfl rfl ?_
                                                    refine sx_iconst (v := 1) k369_877 (by decide) ?_
                                                    refine sx_iadd k369_878 ?_
                                                    obtain ⟨x283, e284, h⟩ := Option.bind_eq_some_iff.mp h
                                                    refine dx_sald k369_879 e284 ?_
                                                    obtain ⟨r285, e286, h⟩ := Option.bind_eq_some_iff.mp h
                                                    refine dx_V (sk := [.int r281.2]) (vs := [.int x283]) st_369_341 k369_880 ow_369 cl_16_113 (by decide) rfl (Nat.le_of_ble_eq_true rfl) sk_129 (ok341 x283 _ _ e286) (sk3 := [.int r285.2, .int r281.2]) rfl rfl law_nc ?_
                                                    by_cases hb287 : r281.2 = r285.2
                                                    · rw [if_pos hb287] at h
                                                      refine sx_icmp_eq (tgt := 1155) k369_883 (by decide) (fun _ => ?_) (fun q => absurd hb287 q)
                                                      refine sx_pick (lo2 := [(0, .ref 100003), (1, .ref 0), (2, .ref 129), (3, .int v3)]) [0, 1, 2, 3] rfl ?_
                                                      exact c369_1155_ok kl18 hk18 v3 _ _ h
                                                    · rw [if_neg hb287] at h
                                                      refine sx_icmp_eq (tgt := 1155) k369_883 (by decide) (fun q => absurd q hb287) (fun _ => ?_)
                                                      refine sx_iconst (v := 0) k369_886 (by decide) ?_
                                                      exact dx_retz k369_887 rt_369 law_nc h
                                                  · rw [if_neg hb288] at h
                                                    by_cases hb302 : x4 = (24 : Int32)
                                                    · rw [if_pos hb302] at h
                                                      refine sx_tableIn (off := 856) (tgt := 888) k369_32 (by rw [hb302]; decide) (by rw [hb302]; decide) (by rw [hb302]; rfl) (by decide) ?_
                                                      refine sx_aload_n (i := 1) k369_888 rfl rfl ?_
                                                      refine sx_aload_n (i := 0) k369_889 rfl rfl ?_
                                                      refine sx_iload_n (i := 3) k369_890 rfl rfl ?_
                                                      refine sx_iconst (v := 1) k369_891 (by decide) ?_
                                                      refine sx_iadd k369_892 ?_
                                                      obtain ⟨x289, e290, h⟩ := Option.bind_eq_some_iff.mp h
                                                      refine dx_sald k369_893 e290 ?_
                                                      refine sx_aload_n (i := 0) k369_894 rfl rfl ?_
                                                      refine sx_iload_n (i := 3) k369_895 rfl rfl ?_
                                                      refine sx_iconst (v := 2) k369_896 (by decide) ?_
                                                      refine sx_iadd k369_897 ?_
                                                      obtain ⟨x291, e292, h⟩ := Option.bind_eq_some_iff.mp h
                                                      refine dx_sald k369_898 e292 ?_
                                                      obtain ⟨r293, e294, h⟩ := Option.bind_eq_some_iff.mp h
                                                      refine dx_V (sk := []) (vs := [.int x289, .int x291]) st_369_232 k369_899 ow_369 cl_16_114 (by decide) rfl (Nat.le_of_ble_eq_true rfl) sk_0 (ok232 x289 x291 _ _ e294) (sk3 := [.int r293.2]) rfl rfl law_nc ?_
                                                      refine sx_aload_n (i := 2) k369_902 rfl rfl ?_
                                                      refine sx_aload_n (i := 0) k369_903 rfl rfl ?_
                                                      refine sx_iload_n (i := 3) k369_904 rfl rfl ?_
                                                      refine sx_iconst (v := 1) k369_905 (by decide) ?_
                                                      refine sx_iadd k369_906 ?_
                                                      obtain ⟨x295, e296, h⟩ := Option.bind_eq_some_iff.mp h
                                                      refine dx_sald k369_907 e296 ?_
                                                      refine sx_aload_n (i := 0) k369_908 rfl rfl ?_
                                                      refine sx_iload_n (i := 3) k369_909 rfl rfl ?_
                                                      refine sx_iconst (v := 2) k369_910 (by decide) ?_
                                                      refine sx_iadd k369_911 ?_
                                                      obtain ⟨x297, e298, h⟩ := Option.bind_eq_some_iff.mp h
                                                      refine dx_sald k369_912 e298 ?_
                                                      obtain ⟨r299, e300, h⟩ := Option.bind_eq_some_iff.mp h
                                                      refine dx_V (sk := [.int r293.2]) (vs := [.int x295, .int x297]) st_369_354 k369_913 ow_369 cl_16_117 (by decide) rfl (Nat.le_of_ble_eq_true rfl) sk_129 (ok354 x295 x297 _ _ e300) (sk3 := [.int r299.2, .int r293.2]) rfl rfl law_nc ?_
                                                      by_cases hb301 : r293.2 = r299.2
                                                      · rw [if_pos hb301] at h
                                                        refine sx_icmp_eq (tgt := 1155) k369_916 (by decide) (fun _ => ?_) (fun q => absurd hb301 q)
                                                        refine sx_pick (lo2 := [(0, .ref 100003), (1, .ref 0), (2, .ref 129), (3, .int v3)]) [0, 1, 2, 3] rfl ?_
                                                        exact c369_1155_ok kl18 hk18 v3 _ _ h
                                                      · rw [if_neg hb301] at h
                                                        refine sx_icmp_eq (tgt := 1155) k369_916 (by decide) (fun q => absurd q hb301) (fun _ => ?_)
                                                        refine sx_iconst (v := 0) k369_919 (by decide) ?_
                                                        exact dx_retz k369_920 rt_369 law_nc h
                                                    · rw [if_neg hb302] at h
                                                      by_cases hb312 : x4 = (25 : Int32)
                                                      · rw [if_pos hb312] at h
                                                        refine sx_tableIn (off := 889) (tgt := 921) k369_32 (by rw [hb312]; decide) (by rw [hb312]; decide) (by rw [hb312]; rfl) (by decide) ?_
                                                        refine sx_aload_n (i := 1) k369_921 rfl rfl ?_
                                                        refine sx_aload_n (i := 0) k369_922 rfl rfl ?_
                                                        refine sx_iload_n (i := 3) k369_923 rfl rfl ?_
                                                        refine sx_iconst (v := 1) k369_924 (by decide) ?_
                                                        refine sx_iadd k369_925 ?_
                                                        obtain ⟨x303, e304, h⟩ := Option.bind_eq_some_iff.mp h
                                                        refine dx_sald k369_926 e304 ?_
                                                        obtain ⟨r305, e306, h⟩ := Option.bind_eq_some_iff.mp h
                                                        refine dx_V (sk := []) (vs := [.int x303]) st_369_233 k369_927 ow_369 cl_16_118 (by decide) rfl (Nat.le_of_ble_eq_true rfl) sk_0 (ok233 x303 _ _ e306) (sk3 := [.int r305.2]) rfl rfl law_nc ?_
                                                        refine sx_aload_n (i := 2) k369_930 rfl rfl ?_
                                                        refine sx_aload_n (i := 0) k369_931 rfl rfl ?_
                                                        refine sx_iload_n (i := 3) k369_932 rfl rfl ?_
                                                        refine sx_iconst (v := 1) k369_933 (by decide) ?_
                                                        refine sx_iadd k369_934 ?_
                                                        obtain ⟨x307, e308, h⟩ := Option.bind_eq_some_iff.mp h
                                                        refine dx_sald k369_935 e308 ?_
                                                        obtain ⟨r309, e310, h⟩ := Option.bind_eq_some_iff.mp h
                                                        refine dx_V (sk := [.int r305.2]) (vs := [.int x307]) st_369_355 k369_936 ow_369 cl_16_121 (by decide) rfl (Nat.le_of_ble_eq_true rfl) sk_129 (ok355 x307 _ _ e310) (sk3 := [.int r309.2, .int r305.2]) rfl rfl law_nc ?_
                                                        by_cases hb311 : r305.2 = r309.2
                                                        · rw [if_pos hb311] at h
                                                          refine sx_icmp_eq (tgt := 1155) k369_939 (by decide) (fun _ => ?_) (fun q => absurd hb311 q)
                                                          refine sx_pick (lo2 := [(0, .ref 100003), (1, .ref 0), (2, .ref 129), (3, .int v3)]) [0, 1, 2, 3] rfl ?_
                                                          exact c369_1155_ok kl18 hk18 v3 _ _ h
                                                        · rw [if_neg hb311] at h
                                                          refine sx_icmp_eq (tgt := 1155) k369_939 (by decide) (fun q => absurd q hb311) (fun _ => ?_)
                                                          refine sx_iconst (v := 0) k369_942 (by decide) ?_
                                                          exact dx_retz k369_943 rt_369 law_nc h
                                                      · rw [if_neg hb312] at h
                                                        by_cases hb322 : x4 = (26 : Int32)
                                                        · rw [if_pos hb322] at h
                                                          refine sx_tableIn (off := 912) (tgt := 944) k369_32 (by rw [hb322]; decide) (by rw [hb322]; decide) (by rw [hb322]; rfl) (by decide) ?_
                                                          refine sx_aload_n (i := 1) k369_944 rfl rfl ?_
                                                          refine sx_aload_n (i := 0) k369_945 rfl rfl ?_
                                                          refine sx_iload_n (i := 3) k369_946 rfl rfl ?_
                                                          refine sx_iconst (v := 1) k369_947 (by decide) ?_
                                                          refine sx_iadd k369_948 ?_
                                                          obtain ⟨x313, e314, h⟩ := Option.bind_eq_some_iff.mp h
                                                          refine dx_sald k369_949 e314 ?_
                                                          obtain ⟨r315, e316, h⟩ := Option.bind_eq_some_iff.mp h
                                                          refine dx_V (sk := []) (vs := [.int x313]) st_369_234 k369_950 ow_369 cl_16_122 (by decide) rfl (Nat.le_of_ble_eq_true rfl) sk_0 (ok234 x313 _ _ e316) (sk3 := [.int r315.2]) rfl rfl law_nc ?_
                                                          refine sx_aload_n (i := 2) k369_953 rfl rfl ?_
                                                          refine sx_aload_n (i := 0) k369_954 rfl rfl ?_
                                                          refine sx_iload_n (i := 3) k369_955 rfl rfl ?_
                                                          refine sx_iconst (v := 1) k369_956 (by decide) ?_
                                                          refine sx_iadd k369_957 ?_
                                                          obtain ⟨x317, e318, h⟩ := Option.bind_eq_some_iff.mp h
                                                          refine dx_sald k369_958 e318 ?_
                                                          obtain ⟨r319, e320, h⟩ := Option.bind_eq_some_iff.mp h
                                                          refine dx_V (sk := [.int r315.2]) (vs := [.int x317]) st_369_356 k369_959 ow_369 cl_16_125 (by decide) rfl (Nat.le_of_ble_eq_true rfl) sk_129 (ok356 x317 _ _ e320) (sk3 := [.int r319.2, .int r315.2]) rfl rfl law_nc ?_
                                                          by_cases hb321 : r315.2 = r319.2
                                                          · rw [if_pos hb321] at h
                                                            refine sx_icmp_eq (tgt := 1155) k369_962 (by decide) (fun _ => ?_) (fun q => absurd hb321 q)
                                                            refine sx_pick (lo2 := [(0, .ref 100003), (1, .ref 0), (2, .ref 129), (3, .int v3)]) [0, 1, 2, 3] rfl ?_
                                                            exact c369_1155_ok kl18 hk18 v3 _ _ h
                                                          · rw [if_neg hb321] at h
                                                            refine sx_icmp_eq (tgt := 1155) k369_962 (by decide) (fun q => absurd q hb321) (fun _ => ?_)
                                                            refine sx_iconst (v := 0) k369_965 (by decide) ?_
                                                            exact dx_retz k369_966 rt_369 law_nc h
                                                        · rw [if_neg hb322] at h
                                                          by_cases hb332 : x4 = (27 : Int32)
                                                          · rw [if_pos hb332] at h
                                                            refine sx_tableIn (off := 935) (tgt := 967) k369_32 (by rw [hb332]; decide) (by rw [hb332]; decide) (by rw [hb332]; rfl) (by decide) ?_
                                                            refine sx_aload_n (i := 1) k369_967 rfl rfl ?_
                                                            refine sx_aload_n (i := 0) k369_968 rfl rfl ?_
                                                            refine sx_iload_n (i := 3) k369_969 rfl rfl ?_
                                                            refine sx_iconst (v := 1) k369_970 (by decide) ?_
                                                            refine sx_iadd k369_971 ?_
                                                            obtain ⟨x323, e324, h⟩ := Option.bind_eq_some_iff.mp h
                                                            refine dx_sald k369_972 e324 ?_
                                                            obtain ⟨r325, e326, h⟩ := Option.bind_eq_some_iff.mp h
                                                            refine dx_V (sk := []) (vs := [.int x323]) st_369_235 k369_973 ow_369 cl_16_126 (by decide) rfl (Nat.le_of_ble_eq_true rfl) sk_0 (ok235 x323 _ _ e326) (sk3 := [.int r325.2]) rfl rfl law_nc ?_
                                                            refine sx_aload_n (i := 2) k369_976 rfl rfl ?_
                                                            refine sx_aload_n (i := 0) k369_977 rfl rfl ?_
                                                            refine sx_iload_n (i := 3) k369_978 rfl rfl ?_
                                                            refine sx_iconst (v := 1) k369_979 (by decide) ?_
                                                            refine sx_iadd k369_980 ?_
                                                            obtain ⟨x327, e328, h⟩ := Option.bind_eq_some_iff.mp h
                                                            refine dx_sald k369_981 e328 ?_
                                                            obtain ⟨r329, e330, h⟩ := Option.bind_eq_some_iff.mp h
                                                            refine dx_V (sk := [.int r325.2]) (vs := [.int x327]) st_369_357 k369_982 ow_369 cl_16_129 (by decide) rfl (Nat.le_of_ble_eq_true rfl) sk_129 (ok357 x327 _ _ e330) (sk3 := [.int r329.2, .int r325.2]) rfl rfl law_nc ?_
                                                            by_cases hb331 : r325.2 = r329.2
                                                            · rw [if_pos hb331] at h
                                                              refine sx_icmp_eq (tgt := 1155) k369_985 (by decide) (fun _ => ?_) (fun q => absurd hb331 q)
                                                              refine sx_pick (lo2 := [(0, .ref 100003), (1, .ref 0), (2, .ref 129), (3, .int v3)]) [0, 1, 2, 3] rfl ?_
                                                              exact c369_1155_ok kl18 hk18 v3 _ _ h
                                                            · rw [if_neg hb331] at h
                                                              refine sx_icmp_eq (tgt := 1155) k369_985 (by decide) (fun q => absurd q hb331) (fun _ => ?_)
                                                              refine sx_iconst (v := 0) k369_988 (by decide) ?_
                                                              exact dx_retz k369_989 rt_369 law_nc h
                                                          · rw [if_neg hb332] at h
                                                            by_cases hb346 : x4 = (28 : Int32)
                                                            · rw [if_pos hb346] at h
                                                              refine sx_tableIn (off := 958) (tgt := 990) k369_32 (by rw [hb346]; decide) (by rw [hb346]; decide) (by rw [hb346]; rfl) (by decide) ?_
                                                              refine sx_aload_n (i := 1) k369_990 rfl rfl ?_
                                                              refine sx_aload_n (i := 0) k369_991 rfl rfl ?_
                                                              refine sx_iload_n (i := 3) k369_992 rfl rfl ?_
                                                              refine sx_iconst (v := 1) k369_993 (by decide) ?_
                                                              refine sx_iadd k369_994 ?_
                                                              obtain ⟨x333, e334, h⟩ := Option.bind_eq_some_iff.mp h
                                                              refine dx_sald k369_995 e334 ?_
                                                              refine sx_aload_n (i := 0) k369_996 rfl rfl ?_
                                                              refine sx_iload_n (i := 3) k369_997 rfl rfl ?_
                                                              refine sx_iconst (v := 2) k369_998 (by decide) ?_
                                                              refine sx_iadd k369_999 ?_
                                                              obtain ⟨x335, e336, h⟩ := Option.bind_eq_some_iff.mp h
                                                              refine dx_sald k369_1000 e336 ?_
                                                              obtain ⟨r337, e338, h⟩ := Option.bind_eq_some_iff.mp h
                                                              refine dx_V (sk := []) (vs := [.int x333, .int x335]) st_369_236 k369_1001 ow_369 cl_16_130 (by decide) rfl (Nat.le_of_ble_eq_true rfl) sk_0 (ok236 x333 x335 _ _ e338) (sk3 := [.int r337.2]) rfl rfl law_nc ?_
                                                              refine sx_aload_n (i := 2) k369_1004 rfl rfl ?_
                                                              refine sx_aload_n (i := 0) k369_1005 rfl rfl ?_
                                                              refine sx_iload_n (i := 3) k369_1006 rfl rfl ?_
                                                              refine sx_iconst (v := 1) k369_1007 (by decide) ?_
                                                              refine sx_iadd k369_1008 ?_
                                                              obtain ⟨x339, e340, h⟩ := Option.bind_eq_some_iff.mp h
                                                              refine dx_sald k369_1009 e340 ?_
                                                              refine sx_aload_n (i := 0) k369_1010 rfl rfl ?_
                                                              refine sx_iload_n (i := 3) k369_1011 rfl rfl ?_
                                                              refine sx_iconst (v := 2) k369_1012 (by decide) ?_
                                                              refine sx_iadd k369_1013 ?_
                                                              obtain ⟨x341, e342, h⟩ := Option.bind_eq_some_iff.mp h
                                                              refine dx_sald k369_1014 e342 ?_
                                                              obtain ⟨r343, e344, h⟩ := Option.bind_eq_some_iff.mp h
                                                              refine dx_V (sk := [.int r337.2]) (vs := [.int x339, .int x341]) st_369_358 k369_1015 ow_369 cl_16_133 (by decide) rfl (Nat.le_of_ble_eq_true rfl) sk_129 (ok358 x339 x341 _ _ e344) (sk3 := [.int r343.2, .int r337.2]) rfl rfl law_nc ?_
                                                              by_cases hb345 : r337.2 = r343.2
                                                              · rw [if_pos hb345] at h
                                                                refine sx_icmp_eq (tgt := 1155) k369_1018 (by decide) (fun _ => ?_) (fun q => absurd hb345 q)
                                                                refine sx_pick (lo2 := [(0, .ref 100003), (1, .ref 0), (2, .ref 129), (3, .int v3)]) [0, 1, 2, 3] rfl ?_
                                                                exact c369_1155_ok kl18 hk18 v3 _ _ h
                                                              · rw [if_neg hb345] at h
                                                                refine sx_icmp_eq (tgt := 1155) k369_1018 (by decide) (fun q => absurd q hb345) (fun _ => ?_)
                                                                refine sx_iconst (v := 0) k369_1021 (by decide) ?_
                                                                exact dx_retz k369_1022 rt_369 law_nc h
                                                            · rw [if_neg hb346] at h
                                                              by_cases hb360 : x4 = (29 : Int32)
                                                              · rw [if_pos hb360] at h
                                                                refine sx_tableIn (off := 991) (tgt := 1023) k369_32 (by rw [hb360]; decide) (by rw [hb360]; decide) (by rw [hb360]; rfl) (by decide) ?_
                                                                refine sx_aload_n (i := 1) k369_1023 rfl rfl ?_
                                                                refine sx_aload_n (i := 0) k369_1024 rfl rfl ?_
                                                                refine sx_iload_n (i := 3) k369_1025 rfl rfl ?_
                                                                refine sx_iconst (v := 1) k369_1026 (by decide) ?_
                                                                refine sx_iadd k369_1027 ?_
                                                                obtain ⟨x347, e348, h⟩ := Option.bind_eq_some_iff.mp h
                                                                refine dx_sald k369_1028 e348 ?_
                                                                refine sx_aload_n (i := 0) k369_1029 rfl rfl ?_
                                                                refine sx_iload_n (i := 3) k369_1030 rfl rfl ?_
                                                                refine sx_iconst (v := 2) k369_1031 (by decide) ?_
                                                                refine sx_iadd k369_1032 ?_
                                                                obtain ⟨x349, e350, h⟩ := Option.bind_eq_some_iff.mp h
                                                                refine dx_sald k369_1033 e350 ?_
                                                                obtain ⟨r351, e352, h⟩ := Option.bind_eq_some_iff.mp h
                                                                refine dx_V (sk := []) (vs := [.int x347, .int x349]) st_369_237 k369_1034 ow_369 cl_16_134 (by decide) rfl (Nat.le_of_ble_eq_true rfl) sk_0 (ok237 x347 x349 _ _ e352) (sk3 := [.int r351.2]) rfl rfl law_nc ?_
                                                                refine sx_aload_n (i := 2) k369_1037 rfl rfl ?_
                                                                refine sx_aload_n (i := 0) k369_1038 rfl rfl ?_
                                                                refine sx_iload_n (i := 3) k369_1039 rfl rfl ?_
                                                                refine sx_iconst (v := 1) k369_1040 (by decide) ?_
                                                                refine sx_iadd k369_1041 ?_
                                                                obtain ⟨x353, e354, h⟩ := Option.bind_eq_some_iff.mp h
                                                                refine dx_sald k369_1042 e354 ?_
                                                                refine sx_aload_n (i := 0) k369_1043 rfl rfl ?_
                                                                refine sx_iload_n (i := 3) k369_1044 rfl rfl ?_
                                                                refine sx_iconst (v := 2) k369_1045 (by decide) ?_
                                                                refine sx_iadd k369_1046 ?_
                                                                obtain ⟨x355, e356, h⟩ := Option.bind_eq_some_iff.mp h
                                                                refine dx_sald k369_1047 e356 ?_
                                                                obtain ⟨r357, e358, h⟩ := Option.bind_eq_some_iff.mp h
                                                                refine dx_V (sk := [.int r351.2]) (vs := [.int x353, .int x355]) st_369_359 k369_1048 ow_369 cl_16_137 (by decide) rfl (Nat.le_of_ble_eq_true rfl) sk_129 (ok359 x353 x355 _ _ e358) (sk3 := [.int r357.2, .int r351.2]) rfl rfl law_nc ?_
                                                                by_cases hb359 : r351.2 = r357.2
                                                                · rw [if_pos hb359] at h
                                                                  refine sx_icmp_eq (tgt := 1155) k369_1051 (by decide) (fun _ => ?_) (fun q => absurd hb359 q)
                                                                  refine sx_pick (lo2 := [(0, .ref 100003), (1, .ref 0), (2, .ref 129), (3, .int v3)]) [0, 1, 2, 3] rfl ?_
                                                                  exact c369_1155_ok kl18 hk18 v3 _ _ h
                                                                · rw [if_neg hb359] at h
                                                                  refine sx_icmp_eq (tgt := 1155) k369_1051 (by decide) (fun q => absurd q hb359) (fun _ => ?_)
                                                                  refine sx_iconst (v := 0) k369_1054 (by decide) ?_
                                                                  exact dx_retz k369_1055 rt_369 law_nc h
                                                              · rw [if_neg hb360] at h
                                                                by_cases hb374 : x4 = (30 : Int32)
                                                                · rw [if_pos hb374] at h
                                                                  refine sx_tableIn (off := 1024) (tgt := 1056) k369_32 (by rw [hb374]; decide) (by rw [hb374]; decide) (by rw [hb374]; rfl) (by decide) ?_
                                                                  refine sx_aload_n (i := 1) k369_1056 rfl rfl ?_
                                                                  refine sx_aload_n (i := 0) k369_1057 rfl rfl ?_
                                                                  refine sx_iload_n (i := 3) k369_1058 rfl rfl ?_
                                                                  refine sx_iconst (v := 1) k369_1059 (by decide) ?_
                                                                  refine sx_iadd k369_1060 ?_
                                                                  obtain ⟨x361, e362, h⟩ := Option.bind_eq_some_iff.mp h
                                                                  refine dx_sald k369_1061 e362 ?_
                                                                  refine sx_aload_n (i := 0) k369_1062 rfl rfl ?_
                                                                  refine sx_iload_n (i := 3) k369_1063 rfl rfl ?_
                                                                  refine sx_iconst (v := 2) k369_1064 (by decide) ?_
                                                                  refine sx_iadd k369_1065 ?_
                                                                  obtain ⟨x363, e364, h⟩ := Option.bind_eq_some_iff.mp h
                                                                  refine dx_sald k369_1066 e364 ?_
                                                                  obtain ⟨r365, e366, h⟩ := Option.bind_eq_some_iff.mp h
                                                                  refine dx_V (sk := []) (vs := [.int x361, .int x363]) st_369_238 k369_1067 ow_369 cl_16_138 (by decide) rfl (Nat.le_of_ble_eq_true rfl) sk_0 (ok238 x361 x363 _ _ e366) (sk3 := [.int r365.2]) rfl rfl law_nc ?_
                                                                  refine sx_aload_n (i := 2) k369_1070 rfl rfl ?_
                                                                  refine sx_aload_n (i := 0) k369_1071 rfl rfl ?_
                                                                  refine sx_iload_n (i := 3) k369_1072 rfl rfl ?_
                                                                  refine sx_iconst (v := 1) k369_1073 (by decide) ?_
                                                                  refine sx_iadd k369_1074 ?_
                                                                  obtain ⟨x367, e368, h⟩ := Option.bind_eq_some_iff.mp h
                                                                  refine dx_sald k369_1075 e368 ?_
                                                                  refine sx_aload_n (i := 0) k369_1076 rfl rfl ?_
                                                                  refine sx_iload_n (i := 3) k369_1077 rfl rfl ?_
                                                                  refine sx_iconst (v := 2) k369_1078 (by decide) ?_
                                                                  refine sx_iadd k369_1079 ?_
                                                                  obtain ⟨x369, e370, h⟩ := Option.bind_eq_some_iff.mp h
                                                                  refine dx_sald k369_1080 e370 ?_
                                                                  obtain ⟨r371, e372, h⟩ := Option.bind_eq_some_iff.mp h
                                                                  refine dx_V (sk := [.int r365.2]) (vs := [.int x367, .int x369]) st_369_360 k369_1081 ow_369 cl_16_141 (by decide) rfl (Nat.le_of_ble_eq_true rfl) sk_129 (ok360 x367 x369 _ _ e372) (sk3 := [.int r371.2, .int r365.2]) rfl rfl law_nc ?_
                                                                  by_cases hb373 : r365.2 = r371.2
                                                                  · rw [if_pos hb373] at h
                                                                    refine sx_icmp_eq (tgt := 1155) k369_1084 (by decide) (fun _ => ?_) (fun q => absurd hb373 q)
                                                                    refine sx_pick (lo2 := [(0, .ref 100003), (1, .ref 0), (2, .ref 129), (3, .int v3)]) [0, 1, 2, 3] rfl ?_
                                                                    exact c369_1155_ok kl18 hk18 v3 _ _ h
                                                                  · rw [if_neg hb373] at h
                                                                    refine sx_icmp_eq (tgt := 1155) k369_1084 (by decide) (fun q => absurd q hb373) (fun _ => ?_)
                                                                    refine sx_iconst (v := 0) k369_1087 (by decide) ?_
                                                                    exact dx_retz k369_1088 rt_369 law_nc h
                                                                · rw [if_neg hb374] at h
                                                                  by_cases hb388 : x4 = (31 : Int32)
                                                                  · rw [if_pos hb388] at h
                                                                    refine sx_tableIn (off := 1057) (tgt := 1089) k369_32 (by rw [hb388]; decide) (by rw [hb388]; decide) (by rw [hb388]; rfl) (by decide) ?_
                                                                    refine sx_aload_n (i := 1) k369_1089 rfl rfl ?_
                                                                    refine sx_aload_n (i := 0) k369_1090 rfl rfl ?_
                                                                    refine sx_iload_n (i := 3) k369_1091 rfl rfl ?_
                                                                    refine sx_iconst (v := 1) k369_1092 (by decide) ?_
                                                                    refine sx_iadd k369_1093 ?_
                                                                    obtain ⟨x375, e376, h⟩ := Option.bind_eq_some_iff.mp h
                                                                    refine dx_sald k369_1094 e376 ?_
                                                                    refine sx_aload_n (i := 0) k369_1095 rfl rfl ?_
                                                                    refine sx_iload_n (i := 3) k369_1096 rfl rfl ?_
                                                                    refine sx_iconst (v := 2) k369_1097 (by decide) ?_
                                                                    refine sx_iadd k369_1098 ?_
                                                                    obtain ⟨x377, e378, h⟩ := Option.bind_eq_some_iff.mp h
                                                                    refine dx_sald k369_1099 e378 ?_
                                                                    obtain ⟨r379, e380, h⟩ := Option.bind_eq_some_iff.mp h
                                                                    refine dx_V (sk := []) (vs := [.int x375, .int x377]) st_369_239 k369_1100 ow_369 cl_16_142 (by decide) rfl (Nat.le_of_ble_eq_true rfl) sk_0 (ok239 x375 x377 _ _ e380) (sk3 := [.int r379.2]) rfl rfl law_nc ?_
                                                                    refine sx_aload_n (i := 2) k369_1103 rfl rfl ?_
                                                                    refine sx_aload_n (i := 0) k369_1104 rfl rfl ?_
                                                                    refine sx_iload_n (i := 3) k369_1105 rfl rfl ?_
                                                                    refine sx_iconst (v := 1) k369_1106 (by decide) ?_
                                                                    refine sx_iadd k369_1107 ?_
                                                                    obtain ⟨x381, e382, h⟩ := Option.bind_eq_some_iff.mp h
                                                                    refine dx_sald k369_1108 e382 ?_
                                                                    refine sx_aload_n (i := 0) k369_1109 rfl rfl ?_
                                                                    refine sx_iload_n (i := 3) k369_1110 rfl rfl ?_
                                                                    refine sx_iconst (v := 2) k369_1111 (by decide) ?_
                                                                    refine sx_iadd k369_1112 ?_
                                                                    obtain ⟨x383, e384, h⟩ := Option.bind_eq_some_iff.mp h
                                                                    refine dx_sald k369_1113 e384 ?_
                                                                    obtain ⟨r385, e386, h⟩ := Option.bind_eq_some_iff.mp h
                                                                    refine dx_V (sk := [.int r379.2]) (vs := [.int x381, .int x383]) st_369_361 k369_1114 ow_369 cl_16_145 (by decide) rfl (Nat.le_of_ble_eq_true rfl) sk_129 (ok361 x381 x383 _ _ e386) (sk3 := [.int r385.2, .int r379.2]) rfl rfl law_nc ?_
                                                                    by_cases hb387 : r379.2 = r385.2
                                                                    · rw [if_pos hb387] at h
                                                                      refine sx_icmp_eq (tgt := 1155) k369_1117 (by decide) (fun _ => ?_) (fun q => absurd hb387 q)
                                                                      refine sx_pick (lo2 := [(0, .ref 100003), (1, .ref 0), (2, .ref 129), (3, .int v3)]) [0, 1, 2, 3] rfl ?_
                                                                      exact c369_1155_ok kl18 hk18 v3 _ _ h
                                                                    · rw [if_neg hb387] at h
                                                                      refine sx_icmp_eq (tgt := 1155) k369_1117 (by decide) (fun q => absurd q hb387) (fun _ => ?_)
                                                                      refine sx_iconst (v := 0) k369_1120 (by decide) ?_
                                                                      exact dx_retz k369_1121 rt_369 law_nc h
                                                                  · rw [if_neg hb388] at h
                                                                    by_cases hb402 : x4 = (32 : Int32)
                                                                    · rw [if_pos hb402] at h
                                                                      refine sx_tableIn (off := 1090) (tgt := 1122) k369_32 (by rw [hb402]; decide) (by rw [hb402]; decide) (by rw [hb402]; rfl) (by decide) ?_
                                                                      refine sx_aload_n (i := 1) k369_1122 rfl rfl ?_
                                                                      refine sx_aload_n (i := 0) k369_1123 rfl rfl ?_
                                                                      refine sx_iload_n (i := 3) k369_1124 rfl rfl ?_
                                                                      refine sx_iconst (v := 1) k369_1125 (by decide) ?_
                                                                      refine sx_iadd k369_1126 ?_
                                                                      obtain ⟨x389, e390, h⟩ := Option.bind_eq_some_iff.mp h
                                                                      refine dx_sald k369_1127 e390 ?_
                                                                      refine sx_aload_n (i := 0) k369_1128 rfl rfl ?_
                                                                      refine sx_iload_n (i := 3) k369_1129 rfl rfl ?_
                                                                      refine sx_iconst (v := 2) k369_1130 (by decide) ?_
                                                                      refine sx_iadd k369_1131 ?_
                                                                      obtain ⟨x391, e392, h⟩ := Option.bind_eq_some_iff.mp h
                                                                      refine dx_sald k369_1132 e392 ?_
                                                                      obtain ⟨r393, e394, h⟩ := Option.bind_eq_some_iff.mp h
                                                                      refine dx_V (sk := []) (vs := [.int x389, .int x391]) st_369_240 k369_1133 ow_369 cl_16_146 (by decide) rfl (Nat.le_of_ble_eq_true rfl) sk_0 (ok240 x389 x391 _ _ e394) (sk3 := [.int r393.2]) rfl rfl law_nc ?_
                                                                      refine sx_aload_n (i := 2) k369_1136 rfl rfl ?_
                                                                      refine sx_aload_n (i := 0) k369_1137 rfl rfl ?_
                                                                      refine sx_iload_n (i := 3) k369_1138 rfl rfl ?_
                                                                      refine sx_iconst (v := 1) k369_1139 (by decide) ?_
                                                                      refine sx_iadd k369_1140 ?_
                                                                      obtain ⟨x395, e396, h⟩ := Option.bind_eq_some_iff.mp h
                                                                      refine dx_sald k369_1141 e396 ?_
                                                                      refine sx_aload_n (i := 0) k369_1142 rfl rfl ?_
                                                                      refine sx_iload_n (i := 3) k369_1143 rfl rfl ?_
                                                                      refine sx_iconst (v := 2) k369_1144 (by decide) ?_
                                                                      refine sx_iadd k369_1145 ?_
                                                                      obtain ⟨x397, e398, h⟩ := Option.bind_eq_some_iff.mp h
                                                                      refine dx_sald k369_1146 e398 ?_
                                                                      obtain ⟨r399, e400, h⟩ := Option.bind_eq_some_iff.mp h
                                                                      refine dx_V (sk := [.int r393.2]) (vs := [.int x395, .int x397]) st_369_309 k369_1147 ow_369 cl_16_149 (by decide) rfl (Nat.le_of_ble_eq_true rfl) sk_129 (ok309 x395 x397 _ _ e400) (sk3 := [.int r399.2, .int r393.2]) rfl rfl law_nc ?_
                                                                      by_cases hb401 : r393.2 = r399.2
                                                                      · rw [if_pos hb401] at h
                                                                        refine sx_icmp_eq (tgt := 1155) k369_1150 (by decide) (fun _ => ?_) (fun q => absurd hb401 q)
                                                                        refine sx_pick (lo2 := [(0, .ref 100003), (1, .ref 0), (2, .ref 129), (3, .int v3)]) [0, 1, 2, 3] rfl ?_
                                                                        exact c369_1155_ok kl18 hk18 v3 _ _ h
                                                                      · rw [if_neg hb401] at h
                                                                        refine sx_icmp_eq (tgt := 1155) k369_1150 (by decide) (fun q => absurd q hb401) (fun _ => ?_)
                                                                        refine sx_iconst (v := 0) k369_1153 (by decide) ?_
                                                                        exact dx_retz k369_1154 rt_369 law_nc h
                                                                    · rw [if_neg hb402] at h
                                                                      refine sx_tableOut (tgt := 1155) k369_32 (sw_out (n := 33) (fun j hj => ?_)) (by decide) ?_
                                                                      · intro hj2
                                                                        exact sw_no [(0 : Int32), (1 : Int32), (2 : Int32), (3 : Int32), (4 : Int32), (5 : Int32), (6 : Int32), (7 : Int32), (8 : Int32), (9 : Int32), (10 : Int32), (11 : Int32), (12 : Int32), (13 : Int32), (14 : Int32), (15 : Int32), (16 : Int32), (17 : Int32), (18 : Int32), (19 : Int32), (20 : Int32), (21 : Int32), (22 : Int32), (23 : Int32), (24 : Int32), (25 : Int32), (26 : Int32), (27 : Int32), (28 : Int32), (29 : Int32), (30 : Int32), (31 : Int32), (32 : Int32)] (by decide) hj hj2 ⟨hb18, hb28, hb34, hb40, hb50, hb60, hb74, hb88, hb102, hb116, hb130, hb140, hb158, hb168, hb174, hb188, hb202, hb212, hb226, hb236, hb250, hb264, hb278, hb288, hb302, hb312, hb322, hb332, hb346, hb360, hb374, hb388, hb402, trivial⟩
                                                                      ·
                                                                        refine sx_pick (lo2 := [(0, .ref 100003), (1, .ref 0), (2, .ref 129), (3, .int v3)]) [0, 1, 2, 3] rfl ?_
                                                                        exact c369_1155_ok kl18 hk18 v3 _ _ h
def l369_18 (L : Nat) : Nat → Int32 × Mem → Option (Mem × Int32) :=
  fixN (fun self x => b369_18 L (fun v3 μ => self (v3, μ)) (x.1) (x.2))
theorem l369_18_ok {L : Nat} (n : Nat) (v3 : Int32) (μ : Mem) (res : Mem × Int32) (h : l369_18 L n (v3, μ) = some res) : Sx 369 18 [(0, .ref 100003), (1, .ref 0), (2, .ref 129), (3, .int v3)] [] 222 283848 (mk L μ) (mk L res.1, some (.int res.2)) := by
  have key := fixN_ind (P := fun x res => Sx 369 18 [(0, .ref 100003), (1, .ref 0), (2, .ref 129), (3, .int (x.1))] [] 222 283848 (mk L (x.2)) (mk L res.1, some (.int res.2))) (F := fun self x => b369_18 L (fun v3 μ => self (v3, μ)) (x.1) (x.2)) (fun self hself x res h => b369_18_ok (fun v3 μ => self (v3, μ)) (fun v3 μ res hh => hself (v3, μ) res hh) (x.1) (x.2) res h) n (v3, μ) res h
  exact key
