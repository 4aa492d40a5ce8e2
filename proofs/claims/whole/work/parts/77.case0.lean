/-! ===== the law, case by case ===== -/
theorem dL_204 : decode mL_law.2.1 204 = .ok (.aload_n 1, 1) := by decide +kernel
theorem dL_205 : decode mL_law.2.1 205 = .ok (.aload_n 0, 1) := by decide +kernel
theorem dL_206 : decode mL_law.2.1 206 = .ok (.iload 4, 2) := by decide +kernel
theorem dL_208 : decode mL_law.2.1 208 = .ok (.iconst 1, 1) := by decide +kernel
theorem dL_209 : decode mL_law.2.1 209 = .ok (.iadd, 1) := by decide +kernel
theorem dL_210 : decode mL_law.2.1 210 = .ok (.iaload, 1) := by decide +kernel
theorem dL_211 : decode mL_law.2.1 211 = .ok (.aload_n 0, 1) := by decide +kernel
theorem dL_212 : decode mL_law.2.1 212 = .ok (.iload 4, 2) := by decide +kernel
theorem dL_214 : decode mL_law.2.1 214 = .ok (.iconst 2, 1) := by decide +kernel
theorem dL_215 : decode mL_law.2.1 215 = .ok (.iadd, 1) := by decide +kernel
theorem dL_216 : decode mL_law.2.1 216 = .ok (.iaload, 1) := by decide +kernel
theorem dL_217 : decode mL_law.2.1 217 = .ok (.aload_n 0, 1) := by decide +kernel
theorem dL_218 : decode mL_law.2.1 218 = .ok (.iload 4, 2) := by decide +kernel
theorem dL_220 : decode mL_law.2.1 220 = .ok (.iconst 3, 1) := by decide +kernel
theorem dL_221 : decode mL_law.2.1 221 = .ok (.iadd, 1) := by decide +kernel
theorem dL_222 : decode mL_law.2.1 222 = .ok (.iaload, 1) := by decide +kernel
theorem dL_223 : decode mL_law.2.1 223 = .ok (.aload_n 0, 1) := by decide +kernel
theorem dL_224 : decode mL_law.2.1 224 = .ok (.iload 4, 2) := by decide +kernel
theorem dL_226 : decode mL_law.2.1 226 = .ok (.iconst 4, 1) := by decide +kernel
theorem dL_227 : decode mL_law.2.1 227 = .ok (.iadd, 1) := by decide +kernel
theorem dL_228 : decode mL_law.2.1 228 = .ok (.iaload, 1) := by decide +kernel
theorem dL_229 : decode mL_law.2.1 229 = .ok (.aload_n 0, 1) := by decide +kernel
theorem dL_230 : decode mL_law.2.1 230 = .ok (.iload 4, 2) := by decide +kernel
theorem dL_232 : decode mL_law.2.1 232 = .ok (.iconst 5, 1) := by decide +kernel
theorem dL_233 : decode mL_law.2.1 233 = .ok (.iadd, 1) := by decide +kernel
theorem dL_234 : decode mL_law.2.1 234 = .ok (.iaload, 1) := by decide +kernel
theorem dL_235 : decode mL_law.2.1 235 = .ok (.invokevirtual 23, 3) := by decide +kernel
theorem dL_238 : decode mL_law.2.1 238 = .ok (.aload_n 2, 1) := by decide +kernel
theorem dL_239 : decode mL_law.2.1 239 = .ok (.aload_n 0, 1) := by decide +kernel
theorem dL_240 : decode mL_law.2.1 240 = .ok (.iload 4, 2) := by decide +kernel
theorem dL_242 : decode mL_law.2.1 242 = .ok (.iconst 1, 1) := by decide +kernel
theorem dL_243 : decode mL_law.2.1 243 = .ok (.iadd, 1) := by decide +kernel
theorem dL_244 : decode mL_law.2.1 244 = .ok (.iaload, 1) := by decide +kernel
theorem dL_245 : decode mL_law.2.1 245 = .ok (.aload_n 0, 1) := by decide +kernel
theorem dL_246 : decode mL_law.2.1 246 = .ok (.iload 4, 2) := by decide +kernel
theorem dL_248 : decode mL_law.2.1 248 = .ok (.iconst 2, 1) := by decide +kernel
theorem dL_249 : decode mL_law.2.1 249 = .ok (.iadd, 1) := by decide +kernel
theorem dL_250 : decode mL_law.2.1 250 = .ok (.iaload, 1) := by decide +kernel
theorem dL_251 : decode mL_law.2.1 251 = .ok (.aload_n 0, 1) := by decide +kernel
theorem dL_252 : decode mL_law.2.1 252 = .ok (.iload 4, 2) := by decide +kernel
theorem dL_254 : decode mL_law.2.1 254 = .ok (.iconst 3, 1) := by decide +kernel
theorem dL_255 : decode mL_law.2.1 255 = .ok (.iadd, 1) := by decide +kernel
theorem dL_256 : decode mL_law.2.1 256 = .ok (.iaload, 1) := by decide +kernel
theorem dL_257 : decode mL_law.2.1 257 = .ok (.aload_n 0, 1) := by decide +kernel
theorem dL_258 : decode mL_law.2.1 258 = .ok (.iload 4, 2) := by decide +kernel
theorem dL_260 : decode mL_law.2.1 260 = .ok (.iconst 4, 1) := by decide +kernel
theorem dL_261 : decode mL_law.2.1 261 = .ok (.iadd, 1) := by decide +kernel
theorem dL_262 : decode mL_law.2.1 262 = .ok (.iaload, 1) := by decide +kernel
theorem dL_263 : decode mL_law.2.1 263 = .ok (.aload_n 0, 1) := by decide +kernel
theorem dL_264 : decode mL_law.2.1 264 = .ok (.iload 4, 2) := by decide +kernel
theorem dL_266 : decode mL_law.2.1 266 = .ok (.iconst 5, 1) := by decide +kernel
theorem dL_267 : decode mL_law.2.1 267 = .ok (.iadd, 1) := by decide +kernel
theorem dL_268 : decode mL_law.2.1 268 = .ok (.iaload, 1) := by decide +kernel
theorem dL_269 : decode mL_law.2.1 269 = .ok (.invokevirtual 27, 3) := by decide +kernel
theorem dL_272 : decode mL_law.2.1 272 = .ok (.if_icmp .eq 1075, 3) := by decide +kernel
theorem dL_275 : decode mL_law.2.1 275 = .ok (.iconst 0, 1) := by decide +kernel
theorem dL_276 : decode mL_law.2.1 276 = .ok (.ireturn, 1) := by decide +kernel
theorem lc_feed {n : Nat} {xs : Nat → Int32} {g : Nat} {i B : Int} {m : Mem} {Q : Int → Mem → Prop} (hn : n ≤ 3072) (hg : 1 ≤ g) (h0 : 0 ≤ i) (h1 : i + 6 ≤ n) (h : Inv m B) (hB : 0 ≤ B ∧ B ≤ 100000000) (k : ∀ m2 : Mem, Inv m2 (B + 300) → GoL (XL n xs) (g - 1) 72 mL_law Q 1347 (LL i) [] m2) : GoL (XL n xs) g 72 mL_law Q 204 (LL i) [] m := by
  have K0 : Duo mX11_feed mX12_feed [vi (sc xs (i + 1)), vi (sc xs (i + 2)), vi (sc xs (i + 3)), vi (sc xs (i + 4)), vi (sc xs (i + 5))] m (fun m2 => Inv m2 B) := c_feed h (InR.r _) (InR.r _) (InR.r _) (InR.r _) (InR.r _)
  obtain ⟨d1, Q1, hd1, E1, K1⟩ := K0
  refine gl_aload_n dL_204 rfl ?_
  refine gl_aload_n dL_205 rfl ?_
  refine gl_iload dL_206 rfl ?_
  refine gl_iconst dL_208 ?_
  refine gl_iadd dL_209 ?_
  refine gl_sload dL_210 (by omega) (by omega) hn ?_
  refine gl_aload_n dL_211 rfl ?_
  refine gl_iload dL_212 rfl ?_
  refine gl_iconst dL_214 ?_
  refine gl_iadd dL_215 ?_
  refine gl_sload dL_216 (by omega) (by omega) hn ?_
  refine gl_aload_n dL_217 rfl ?_
  refine gl_iload dL_218 rfl ?_
  refine gl_iconst dL_220 ?_
  refine gl_iadd dL_221 ?_
  refine gl_sload dL_222 (by omega) (by omega) hn ?_
  refine gl_aload_n dL_223 rfl ?_
  refine gl_iload dL_224 rfl ?_
  refine gl_iconst dL_226 ?_
  refine gl_iadd dL_227 ?_
  refine gl_sload dL_228 (by omega) (by omega) hn ?_
  refine gl_aload_n dL_229 rfl ?_
  refine gl_iload dL_230 rfl ?_
  refine gl_iconst dL_232 ?_
  refine gl_iadd dL_233 ?_
  refine gl_sload dL_234 (by omega) (by omega) hn ?_
  refine gl_callR (as := [vi (sc xs (i + 1)), vi (sc xs (i + 2)), vi (sc xs (i + 3)), vi (sc xs (i + 4)), vi (sc xs (i + 5))]) (S := []) (b := 0) E1 (Or.inl rfl) dL_235 cv_L_23 rfl rfl ob_0 rfl (by omega) (by decide) (fun r1 m1 hq1 hr1 => ?_)
  obtain ⟨d2, Q2, hd2, E2, K2⟩ := K1 r1 m1 hq1
  refine gl_aload_n dL_238 rfl ?_
  refine gl_aload_n dL_239 rfl ?_
  refine gl_iload dL_240 rfl ?_
  refine gl_iconst dL_242 ?_
  refine gl_iadd dL_243 ?_
  refine gl_sload dL_244 (by omega) (by omega) hn ?_
  refine gl_aload_n dL_245 rfl ?_
  refine gl_iload dL_246 rfl ?_
  refine gl_iconst dL_248 ?_
  refine gl_iadd dL_249 ?_
  refine gl_sload dL_250 (by omega) (by omega) hn ?_
  refine gl_aload_n dL_251 rfl ?_
  refine gl_iload dL_252 rfl ?_
  refine gl_iconst dL_254 ?_
  refine gl_iadd dL_255 ?_
  refine gl_sload dL_256 (by omega) (by omega) hn ?_
  refine gl_aload_n dL_257 rfl ?_
  refine gl_iload dL_258 rfl ?_
  refine gl_iconst dL_260 ?_
  refine gl_iadd dL_261 ?_
  refine gl_sload dL_262 (by omega) (by omega) hn ?_
  refine gl_aload_n dL_263 rfl ?_
  refine gl_iload dL_264 rfl ?_
  refine gl_iconst dL_266 ?_
  refine gl_iadd dL_267 ?_
  refine gl_sload dL_268 (by omega) (by omega) hn ?_
  refine gl_callR (as := [vi (sc xs (i + 1)), vi (sc xs (i + 2)), vi (sc xs (i + 3)), vi (sc xs (i + 4)), vi (sc xs (i + 5))]) (S := [vi r1]) (b := 214) E2 (Or.inl rfl) dL_269 cv_L_27 rfl rfl ob_214 rfl (by omega) (Nat.le_of_ble_eq_true rfl) (fun r2 m2 hq2 hr2 => ?_)
  obtain ⟨hrr, hI⟩ := K2 r2 m2 hq2
  refine gl_icmp_eq (tgt := 1347) dL_272 (by decide) hr1 hr2 (fun e => gl_weak (by omega) (k m2 (hI.all (by omega) (fun _ _ _ => rfl)))) (fun e => absurd hrr.symm e)
theorem dL_277 : decode mL_law.2.1 277 = .ok (.aload_n 1, 1) := by decide +kernel
theorem dL_278 : decode mL_law.2.1 278 = .ok (.aload_n 0, 1) := by decide +kernel
theorem dL_279 : decode mL_law.2.1 279 = .ok (.iload 4, 2) := by decide +kernel
theorem dL_281 : decode mL_law.2.1 281 = .ok (.iconst 1, 1) := by decide +kernel
theorem dL_282 : decode mL_law.2.1 282 = .ok (.iadd, 1) := by decide +kernel
theorem dL_283 : decode mL_law.2.1 283 = .ok (.iaload, 1) := by decide +kernel
theorem dL_284 : decode mL_law.2.1 284 = .ok (.invokevirtual 28, 3) := by decide +kernel
theorem dL_287 : decode mL_law.2.1 287 = .ok (.aload_n 2, 1) := by decide +kernel
theorem dL_288 : decode mL_law.2.1 288 = .ok (.aload_n 0, 1) := by decide +kernel
theorem dL_289 : decode mL_law.2.1 289 = .ok (.iload 4, 2) := by decide +kernel
theorem dL_291 : decode mL_law.2.1 291 = .ok (.iconst 1, 1) := by decide +kernel
theorem dL_292 : decode mL_law.2.1 292 = .ok (.iadd, 1) := by decide +kernel
theorem dL_293 : decode mL_law.2.1 293 = .ok (.iaload, 1) := by decide +kernel
theorem dL_294 : decode mL_law.2.1 294 = .ok (.invokevirtual 32, 3) := by decide +kernel
theorem dL_297 : decode mL_law.2.1 297 = .ok (.if_icmp .eq 1050, 3) := by decide +kernel
theorem dL_300 : decode mL_law.2.1 300 = .ok (.iconst 0, 1) := by decide +kernel
theorem dL_301 : decode mL_law.2.1 301 = .ok (.ireturn, 1) := by decide +kernel
theorem lc_end {n : Nat} {xs : Nat → Int32} {g : Nat} {i B : Int} {m : Mem} {Q : Int → Mem → Prop} (hn : n ≤ 3072) (hg : 1 ≤ g) (h0 : 0 ≤ i) (h1 : i + 6 ≤ n) (h : Inv m B) (hB : 0 ≤ B ∧ B ≤ 100000000) (k : ∀ m2 : Mem, Inv m2 (B + 300) → GoL (XL n xs) (g - 1) 72 mL_law Q 1347 (LL i) [] m2) : GoL (XL n xs) g 72 mL_law Q 277 (LL i) [] m := by
  have K0 : Duo mX11_end mX12_end [vi (sc xs (i + 1))] m (fun m2 => Inv m2 B) := c_end h (InR.r _)
  obtain ⟨d1, Q1, hd1, E1, K1⟩ := K0
  refine gl_aload_n dL_277 rfl ?_
  refine gl_aload_n dL_278 rfl ?_
  refine gl_iload dL_279 rfl ?_
  refine gl_iconst dL_281 ?_
  refine gl_iadd dL_282 ?_
  refine gl_sload dL_283 (by omega) (by omega) hn ?_
  refine gl_callR (as := [vi (sc xs (i + 1))]) (S := []) (b := 0) E1 (Or.inr rfl) dL_284 cv_L_28 rfl rfl ob_0 rfl (by omega) (by decide) (fun r1 m1 hq1 hr1 => ?_)
  obtain ⟨d2, Q2, hd2, E2, K2⟩ := K1 r1 m1 hq1
  refine gl_aload_n dL_287 rfl ?_
  refine gl_aload_n dL_288 rfl ?_
  refine gl_iload dL_289 rfl ?_
  refine gl_iconst dL_291 ?_
  refine gl_iadd dL_292 ?_
  refine gl_sload dL_293 (by omega) (by omega) hn ?_
  refine gl_callR (as := [vi (sc xs (i + 1))]) (S := [vi r1]) (b := 214) E2 (Or.inr rfl) dL_294 cv_L_32 rfl rfl ob_214 rfl (by omega) (Nat.le_of_ble_eq_true rfl) (fun r2 m2 hq2 hr2 => ?_)
  obtain ⟨hrr, hI⟩ := K2 r2 m2 hq2
  refine gl_icmp_eq (tgt := 1347) dL_297 (by decide) hr1 hr2 (fun e => gl_weak (by omega) (k m2 (hI.all (by omega) (fun _ _ _ => rfl)))) (fun e => absurd hrr.symm e)
theorem dL_302 : decode mL_law.2.1 302 = .ok (.aload_n 1, 1) := by decide +kernel
theorem dL_303 : decode mL_law.2.1 303 = .ok (.invokevirtual 33, 3) := by decide +kernel
theorem dL_306 : decode mL_law.2.1 306 = .ok (.aload_n 2, 1) := by decide +kernel
theorem dL_307 : decode mL_law.2.1 307 = .ok (.invokevirtual 37, 3) := by decide +kernel
theorem dL_310 : decode mL_law.2.1 310 = .ok (.if_icmp .eq 1037, 3) := by decide +kernel
theorem dL_313 : decode mL_law.2.1 313 = .ok (.iconst 0, 1) := by decide +kernel
theorem dL_314 : decode mL_law.2.1 314 = .ok (.ireturn, 1) := by decide +kernel
theorem lc_downs {n : Nat} {xs : Nat → Int32} {g : Nat} {i B : Int} {m : Mem} {Q : Int → Mem → Prop} (hn : n ≤ 3072) (hg : 1 ≤ g) (h0 : 0 ≤ i) (h1 : i + 6 ≤ n) (h : Inv m B) (hB : 0 ≤ B ∧ B ≤ 100000000) (k : ∀ m2 : Mem, Inv m2 (B + 300) → GoL (XL n xs) (g - 1) 72 mL_law Q 1347 (LL i) [] m2) : GoL (XL n xs) g 72 mL_law Q 302 (LL i) [] m := by
  refine gl_can (fun hcan => ?_)
  have K0 : Duo mX11_downs mX12_downs [] m (fun m2 => Inv m2 B) := c_downs h hcan hB.1
  obtain ⟨d1, Q1, hd1, E1, K1⟩ := K0
  refine gl_aload_n dL_302 rfl ?_
  refine gl_callR (as := []) (S := []) (b := 0) E1 (Or.inl rfl) dL_303 cv_L_33 rfl rfl ob_0 rfl (by omega) (by decide) (fun r1 m1 hq1 hr1 => ?_)
  obtain ⟨d2, Q2, hd2, E2, K2⟩ := K1 r1 m1 hq1
  refine gl_aload_n dL_306 rfl ?_
  refine gl_callR (as := []) (S := [vi r1]) (b := 214) E2 (Or.inl rfl) dL_307 cv_L_37 rfl rfl ob_214 rfl (by omega) (Nat.le_of_ble_eq_true rfl) (fun r2 m2 hq2 hr2 => ?_)
  obtain ⟨hrr, hI⟩ := K2 r2 m2 hq2
  refine gl_icmp_eq (tgt := 1347) dL_310 (by decide) hr1 hr2 (fun e => gl_weak (by omega) (k m2 (hI.all (by omega) (fun _ _ _ => rfl)))) (fun e => absurd hrr.symm e)
theorem dL_315 : decode mL_law.2.1 315 = .ok (.aload_n 1, 1) := by decide +kernel
theorem dL_316 : decode mL_law.2.1 316 = .ok (.invokevirtual 38, 3) := by decide +kernel
theorem dL_319 : decode mL_law.2.1 319 = .ok (.aload_n 2, 1) := by decide +kernel
theorem dL_320 : decode mL_law.2.1 320 = .ok (.invokevirtual 41, 3) := by decide +kernel
theorem dL_323 : decode mL_law.2.1 323 = .ok (.if_icmp .eq 1024, 3) := by decide +kernel
theorem dL_326 : decode mL_law.2.1 326 = .ok (.iconst 0, 1) := by decide +kernel
theorem dL_327 : decode mL_law.2.1 327 = .ok (.ireturn, 1) := by decide +kernel
theorem lc_fault {n : Nat} {xs : Nat → Int32} {g : Nat} {i B : Int} {m : Mem} {Q : Int → Mem → Prop} (hn : n ≤ 3072) (hg : 1 ≤ g) (h0 : 0 ≤ i) (h1 : i + 6 ≤ n) (h : Inv m B) (hB : 0 ≤ B ∧ B ≤ 100000000) (k : ∀ m2 : Mem, Inv m2 (B + 300) → GoL (XL n xs) (g - 1) 72 mL_law Q 1347 (LL i) [] m2) : GoL (XL n xs) g 72 mL_law Q 315 (LL i) [] m := by
  have K0 : Duo mX11_fault mX12_fault [] m (fun m2 => Inv m2 B) := c_fault h
  obtain ⟨d1, Q1, hd1, E1, K1⟩ := K0
  refine gl_aload_n dL_315 rfl ?_
  refine gl_callR (as := []) (S := []) (b := 0) E1 (Or.inl rfl) dL_316 cv_L_38 rfl rfl ob_0 rfl (by omega) (by decide) (fun r1 m1 hq1 hr1 => ?_)
  obtain ⟨d2, Q2, hd2, E2, K2⟩ := K1 r1 m1 hq1
  refine gl_aload_n dL_319 rfl ?_
  refine gl_callR (as := []) (S := [vi r1]) (b := 214) E2 (Or.inl rfl) dL_320 cv_L_41 rfl rfl ob_214 rfl (by omega) (Nat.le_of_ble_eq_true rfl) (fun r2 m2 hq2 hr2 => ?_)
  obtain ⟨hrr, hI⟩ := K2 r2 m2 hq2
  refine gl_icmp_eq (tgt := 1347) dL_323 (by decide) hr1 hr2 (fun e => gl_weak (by omega) (k m2 (hI.all (by omega) (fun _ _ _ => rfl)))) (fun e => absurd hrr.symm e)
theorem dL_328 : decode mL_law.2.1 328 = .ok (.aload_n 1, 1) := by decide +kernel
theorem dL_329 : decode mL_law.2.1 329 = .ok (.aload_n 0, 1) := by decide +kernel
theorem dL_330 : decode mL_law.2.1 330 = .ok (.iload 4, 2) := by decide +kernel
theorem dL_332 : decode mL_law.2.1 332 = .ok (.iconst 1, 1) := by decide +kernel
theorem dL_333 : decode mL_law.2.1 333 = .ok (.iadd, 1) := by decide +kernel
theorem dL_334 : decode mL_law.2.1 334 = .ok (.iaload, 1) := by decide +kernel
theorem dL_335 : decode mL_law.2.1 335 = .ok (.aload_n 0, 1) := by decide +kernel
theorem dL_336 : decode mL_law.2.1 336 = .ok (.iload 4, 2) := by decide +kernel
theorem dL_338 : decode mL_law.2.1 338 = .ok (.iconst 2, 1) := by decide +kernel
theorem dL_339 : decode mL_law.2.1 339 = .ok (.iadd, 1) := by decide +kernel
theorem dL_340 : decode mL_law.2.1 340 = .ok (.iaload, 1) := by decide +kernel
theorem dL_341 : decode mL_law.2.1 341 = .ok (.aload_n 3, 1) := by decide +kernel
theorem dL_342 : decode mL_law.2.1 342 = .ok (.invokestatic 42, 3) := by decide +kernel
theorem dL_345 : decode mL_law.2.1 345 = .ok (.istore 5, 2) := by decide +kernel
theorem dL_347 : decode mL_law.2.1 347 = .ok (.aload_n 2, 1) := by decide +kernel
theorem dL_348 : decode mL_law.2.1 348 = .ok (.aload_n 0, 1) := by decide +kernel
theorem dL_349 : decode mL_law.2.1 349 = .ok (.iload 4, 2) := by decide +kernel
theorem dL_351 : decode mL_law.2.1 351 = .ok (.iconst 1, 1) := by decide +kernel
theorem dL_352 : decode mL_law.2.1 352 = .ok (.iadd, 1) := by decide +kernel
theorem dL_353 : decode mL_law.2.1 353 = .ok (.iaload, 1) := by decide +kernel
theorem dL_354 : decode mL_law.2.1 354 = .ok (.aload_n 0, 1) := by decide +kernel
theorem dL_355 : decode mL_law.2.1 355 = .ok (.iload 4, 2) := by decide +kernel
theorem dL_357 : decode mL_law.2.1 357 = .ok (.iconst 2, 1) := by decide +kernel
theorem dL_358 : decode mL_law.2.1 358 = .ok (.iadd, 1) := by decide +kernel
theorem dL_359 : decode mL_law.2.1 359 = .ok (.iaload, 1) := by decide +kernel
theorem dL_360 : decode mL_law.2.1 360 = .ok (.invokevirtual 47, 3) := by decide +kernel
theorem dL_363 : decode mL_law.2.1 363 = .ok (.istore 6, 2) := by decide +kernel
theorem dL_365 : decode mL_law.2.1 365 = .ok (.aload_n 2, 1) := by decide +kernel
theorem dL_366 : decode mL_law.2.1 366 = .ok (.invokevirtual 48, 3) := by decide +kernel
theorem dL_369 : decode mL_law.2.1 369 = .ok (.iload 5, 2) := by decide +kernel
theorem dL_371 : decode mL_law.2.1 371 = .ok (.if_icmp .eq 5, 3) := by decide +kernel
theorem dL_374 : decode mL_law.2.1 374 = .ok (.iconst 0, 1) := by decide +kernel
theorem dL_375 : decode mL_law.2.1 375 = .ok (.ireturn, 1) := by decide +kernel
theorem dL_376 : decode mL_law.2.1 376 = .ok (.iload 5, 2) := by decide +kernel
theorem dL_378 : decode mL_law.2.1 378 = .ok (.ifCond .ne 15, 3) := by decide +kernel
theorem dL_381 : decode mL_law.2.1 381 = .ok (.aload_n 3, 1) := by decide +kernel
theorem dL_382 : decode mL_law.2.1 382 = .ok (.iconst 0, 1) := by decide +kernel
theorem dL_383 : decode mL_law.2.1 383 = .ok (.laload, 1) := by decide +kernel
theorem dL_384 : decode mL_law.2.1 384 = .ok (.iload 6, 2) := by decide +kernel
theorem dL_386 : decode mL_law.2.1 386 = .ok (.i2l, 1) := by decide +kernel
theorem dL_387 : decode mL_law.2.1 387 = .ok (.lcmp, 1) := by decide +kernel
theorem dL_388 : decode mL_law.2.1 388 = .ok (.ifCond .eq 5, 3) := by decide +kernel
theorem dL_391 : decode mL_law.2.1 391 = .ok (.iconst 0, 1) := by decide +kernel
theorem dL_392 : decode mL_law.2.1 392 = .ok (.ireturn, 1) := by decide +kernel
theorem dL_393 : decode mL_law.2.1 393 = .ok (.goto 954, 3) := by decide +kernel
theorem lc_person {n : Nat} {xs : Nat → Int32} {g : Nat} {i B : Int} {m : Mem} {Q : Int → Mem → Prop} (hn : n ≤ 3072) (hg : 1 ≤ g) (h0 : 0 ≤ i) (h1 : i + 6 ≤ n) (h : Inv m B) (hB : 0 ≤ B ∧ B ≤ 100000000) (k : ∀ m2 : Mem, Inv m2 (B + 300) → GoL (XL n xs) (g - 1) 72 mL_law Q 1347 (LL i) [] m2) : GoL (XL n xs) g 72 mL_law Q 328 (LL i) [] m := by
  refine gl_aload_n dL_328 rfl ?_
  refine gl_aload_n dL_329 rfl ?_
  refine gl_iload dL_330 rfl ?_
  refine gl_iconst dL_332 ?_
  refine gl_iadd dL_333 ?_
  refine gl_sload dL_334 (by omega) (by omega) hn ?_
  refine gl_aload_n dL_335 rfl ?_
  refine gl_iload dL_336 rfl ?_
  refine gl_iconst dL_338 ?_
  refine gl_iadd dL_339 ?_
  refine gl_sload dL_340 (by omega) (by omega) hn ?_
  refine gl_aload_n dL_341 rfl ?_
  refine gl_callSH (as := [vr 0, vi (sc xs (i + 1)), vi (sc xs (i + 2)), vr 235]) (S := []) (fun _ _ _ _ _ _ hx => hx.2.2.2) (ev_L_person h.dn h.st (by omega) (InR.r _) (InR.r _)) dL_342 csh_person rfl rfl (by decide) (by decide) hg (fun r1 m1 hq1 hr1 => ?_)
  have hr1 : InR r1 := hr1
  have hI1 : Inv m1 B := by
    rcases hq1 with ⟨-, -, hm⟩ | ⟨-, -, hm⟩
    · rw [hm]; exact h.all (Int.le_refl _) (fun b j z => by unfold wr; rw [if_neg (by omega)])
    · rw [hm]; exact h
  have e6 : m1 216 = m 216 := by
    rcases hq1 with ⟨-, -, hm⟩ | ⟨-, -, hm⟩
    · rw [hm, wr_row (by omega)]
    · rw [hm]
  refine gl_istore (x := r1) (L' := [vr 1011, vr 0, vr 214, vr 235, vi i, vi r1, un]) dL_345 (by decide) rfl rfl ?_
  refine gl_aload_n dL_347 rfl ?_
  refine gl_aload_n dL_348 rfl ?_
  refine gl_iload dL_349 rfl ?_
  refine gl_iconst dL_351 ?_
  refine gl_iadd dL_352 ?_
  refine gl_sload dL_353 (by omega) (by omega) hn ?_
  refine gl_aload_n dL_354 rfl ?_
  refine gl_iload dL_355 rfl ?_
  refine gl_iconst dL_357 ?_
  refine gl_iadd dL_358 ?_
  refine gl_sload dL_359 (by omega) (by omega) hn ?_
  refine gl_callR (as := [vi (sc xs (i + 1)), vi (sc xs (i + 2))]) (S := []) (b := 214) (ev_X12_person (G := m) (d := 8) (st := 18) (B := B) (by rw [e6]; exact h.bg) h.dn h.st (by omega) (InR.r _) (InR.r _)) (Or.inl rfl) dL_360 cv_L_47 rfl rfl ob_214 rfl (by decide) (by decide) (fun r2 m2 hq2 hr2 => ?_)
  obtain ⟨hm2, hv2⟩ := hq2
  refine gl_istore (x := r2) (L' := [vr 1011, vr 0, vr 214, vr 235, vi i, vi r1, vi r2]) dL_363 (by decide) rfl rfl ?_
  refine gl_aload_n dL_365 rfl ?_
  refine gl_callR (as := []) (S := []) (b := 214) ev_X12_thrown (Or.inl rfl) dL_366 cv_L_48 rfl rfl ob_214 rfl (by decide) (by decide) (fun r3 m3 hq3 hr3 => ?_)
  obtain ⟨rfl, hv3⟩ := hq3
  have e3 : r3 = if ((0 ≤ sc xs (i + 1) ∧ sc xs (i + 1) < m 8 3) ∧ 0 ≤ sc xs (i + 2) ∧ sc xs (i + 2) ≤ 6) then 0 else 1 := by rw [hv3, hm2, wr_self]
  have hI2 : Inv m3 (B + 300) := by rw [hm2]; exact hI1.t0.all (by omega) (fun _ _ _ => rfl)
  refine gl_iload dL_369 rfl ?_
  refine gl_icmp_eq (tgt := 376) dL_371 (by decide) hr3 hr1 (fun e => ?_) (fun e => ?_)
  · refine gl_iload dL_376 rfl ?_
    refine gl_if_ne (tgt := 393) dL_378 (by decide) hr1 (fun e2 => ?_) (fun e2 => ?_)
    · refine gl_goto (tgt := 1347) dL_393 (by decide) ?_
      exact gl_un (L1 := [vr 1011, vr 0, vr 214, vr 235, vi i]) (k m3 hI2)
    · refine gl_aload_n dL_381 rfl ?_
      refine gl_iconst dL_382 ?_
      refine gl_laload dL_383 ar_235 (by omega) (by omega) (fun hlr => ?_)
      refine gl_iload dL_384 rfl ?_
      refine gl_i2l dL_386 hr2 ?_
      refine gl_lcmp dL_387 hlr (by unfold InR at hr2; unfold InL; omega) ?_
      have e4 : m3 235 0 = r2 := by
        rcases hq1 with ⟨ok, -, hm⟩ | ⟨-, z, -⟩
        · rw [hm2, wr_row (by omega), hm, wr_self, hv2 ok]
        · omega
      rw [lcmp_eq e4]
      refine gl_if_eq (tgt := 393) dL_388 (by decide) ⟨by omega, by omega⟩ (fun e5 => ?_) (fun e5 => absurd rfl e5)
      refine gl_goto (tgt := 1347) dL_393 (by decide) ?_
      exact gl_un (L1 := [vr 1011, vr 0, vr 214, vr 235, vi i]) (k m3 hI2)
  · exfalso
    rcases hq1 with ⟨ok, z, -⟩ | ⟨ok, z, -⟩
    · rw [if_pos ok] at e3; exact e (e3.trans z.symm)
    · rw [if_neg ok] at e3; exact e (e3.trans z.symm)
theorem dL_396 : decode mL_law.2.1 396 = .ok (.aload_n 1, 1) := by decide +kernel
theorem dL_397 : decode mL_law.2.1 397 = .ok (.aload_n 0, 1) := by decide +kernel
theorem dL_398 : decode mL_law.2.1 398 = .ok (.iload 4, 2) := by decide +kernel
theorem dL_400 : decode mL_law.2.1 400 = .ok (.iconst 1, 1) := by decide +kernel
theorem dL_401 : decode mL_law.2.1 401 = .ok (.iadd, 1) := by decide +kernel
theorem dL_402 : decode mL_law.2.1 402 = .ok (.iaload, 1) := by decide +kernel
theorem dL_403 : decode mL_law.2.1 403 = .ok (.aload_n 0, 1) := by decide +kernel
theorem dL_404 : decode mL_law.2.1 404 = .ok (.iload 4, 2) := by decide +kernel
theorem dL_406 : decode mL_law.2.1 406 = .ok (.iconst 2, 1) := by decide +kernel
theorem dL_407 : decode mL_law.2.1 407 = .ok (.iadd, 1) := by decide +kernel
theorem dL_408 : decode mL_law.2.1 408 = .ok (.iaload, 1) := by decide +kernel
theorem dL_409 : decode mL_law.2.1 409 = .ok (.invokevirtual 51, 3) := by decide +kernel
theorem dL_412 : decode mL_law.2.1 412 = .ok (.aload_n 2, 1) := by decide +kernel
theorem dL_413 : decode mL_law.2.1 413 = .ok (.aload_n 0, 1) := by decide +kernel
theorem dL_414 : decode mL_law.2.1 414 = .ok (.iload 4, 2) := by decide +kernel
theorem dL_416 : decode mL_law.2.1 416 = .ok (.iconst 1, 1) := by decide +kernel
theorem dL_417 : decode mL_law.2.1 417 = .ok (.iadd, 1) := by decide +kernel
theorem dL_418 : decode mL_law.2.1 418 = .ok (.iaload, 1) := by decide +kernel
theorem dL_419 : decode mL_law.2.1 419 = .ok (.aload_n 0, 1) := by decide +kernel
theorem dL_420 : decode mL_law.2.1 420 = .ok (.iload 4, 2) := by decide +kernel
theorem dL_422 : decode mL_law.2.1 422 = .ok (.iconst 2, 1) := by decide +kernel
theorem dL_423 : decode mL_law.2.1 423 = .ok (.iadd, 1) := by decide +kernel
theorem dL_424 : decode mL_law.2.1 424 = .ok (.iaload, 1) := by decide +kernel
theorem dL_425 : decode mL_law.2.1 425 = .ok (.invokevirtual 54, 3) := by decide +kernel
theorem dL_428 : decode mL_law.2.1 428 = .ok (.if_icmp .eq 919, 3) := by decide +kernel
theorem dL_431 : decode mL_law.2.1 431 = .ok (.iconst 0, 1) := by decide +kernel
theorem dL_432 : decode mL_law.2.1 432 = .ok (.ireturn, 1) := by decide +kernel
theorem lc_figure {n : Nat} {xs : Nat → Int32} {g : Nat} {i B : Int} {m : Mem} {Q : Int → Mem → Prop} (hn : n ≤ 3072) (hg : 1 ≤ g) (h0 : 0 ≤ i) (h1 : i + 6 ≤ n) (h : Inv m B) (hB : 0 ≤ B ∧ B ≤ 100000000) (k : ∀ m2 : Mem, Inv m2 (B + 300) → GoL (XL n xs) (g - 1) 72 mL_law Q 1347 (LL i) [] m2) : GoL (XL n xs) g 72 mL_law Q 396 (LL i) [] m := by
  have K0 : Duo mX11_figure mX12_figure [vi (sc xs (i + 1)), vi (sc xs (i + 2))] m (fun m2 => Inv m2 B) := c_figure h (InR.r _) (InR.r _)
  obtain ⟨d1, Q1, hd1, E1, K1⟩ := K0
  refine gl_aload_n dL_396 rfl ?_
  refine gl_aload_n dL_397 rfl ?_
  refine gl_iload dL_398 rfl ?_
  refine gl_iconst dL_400 ?_
  refine gl_iadd dL_401 ?_
  refine gl_sload dL_402 (by omega) (by omega) hn ?_
  refine gl_aload_n dL_403 rfl ?_
  refine gl_iload dL_404 rfl ?_
  refine gl_iconst dL_406 ?_
  refine gl_iadd dL_407 ?_
  refine gl_sload dL_408 (by omega) (by omega) hn ?_
  refine gl_callR (as := [vi (sc xs (i + 1)), vi (sc xs (i + 2))]) (S := []) (b := 0) E1 (Or.inl rfl) dL_409 cv_L_51 rfl rfl ob_0 rfl (by omega) (by decide) (fun r1 m1 hq1 hr1 => ?_)
  obtain ⟨d2, Q2, hd2, E2, K2⟩ := K1 r1 m1 hq1
  refine gl_aload_n dL_412 rfl ?_
  refine gl_aload_n dL_413 rfl ?_
  refine gl_iload dL_414 rfl ?_
  refine gl_iconst dL_416 ?_
  refine gl_iadd dL_417 ?_
  refine gl_sload dL_418 (by omega) (by omega) hn ?_
  refine gl_aload_n dL_419 rfl ?_
  refine gl_iload dL_420 rfl ?_
  refine gl_iconst dL_422 ?_
  refine gl_iadd dL_423 ?_
  refine gl_sload dL_424 (by omega) (by omega) hn ?_
  refine gl_callR (as := [vi (sc xs (i + 1)), vi (sc xs (i + 2))]) (S := [vi r1]) (b := 214) E2 (Or.inl rfl) dL_425 cv_L_54 rfl rfl ob_214 rfl (by omega) (Nat.le_of_ble_eq_true rfl) (fun r2 m2 hq2 hr2 => ?_)
  obtain ⟨hrr, hI⟩ := K2 r2 m2 hq2
  refine gl_icmp_eq (tgt := 1347) dL_428 (by decide) hr1 hr2 (fun e => gl_weak (by omega) (k m2 (hI.all (by omega) (fun _ _ _ => rfl)))) (fun e => absurd hrr.symm e)
