/-! ===== the law's calls ===== -/
section LAWB
variable {g : mG} {b Ls t : Nat} {xs : Nat → Int32} {h : mH} {S : ST}
theorem law_0 (hi : 5 * t + 5 ≤ Ls) (hL : Ls ≤ 2560) (I : IX h S) (M : IM h S) (h64 : 64 ≤ h.1) (k : ∀ h' S', IX h' S' → IM h' S' → 64 ≤ h'.1 → Ok g ML_law (jL g b Ls xs) 1064 [some (.retAddr b), some (.ref 0), some (.ref 46), some (.int (nI (5 * t)))] [] h' (64 + 8 * (t + 1)) (12374 + 2706 * (t + 1))) : Ok g ML_law (jL g b Ls xs) 176 [some (.retAddr b), some (.ref 0), some (.ref 46), some (.int (nI (5 * t)))] [] h (64 + 8 * t) (12374 + 2706 * t) := by
  refine ok_aload_n dL_law_176 rfl rfl ?_
  refine ok_aload_n dL_law_177 rfl rfl ?_
  refine ok_iload_n dL_law_178 rfl ?_
  refine ok_iconst (v := nI 1) dL_law_179 (by decide) ?_
  refine okN_iadd dL_law_180 ?_
  refine okN_sald dL_law_181 (by omega) (by omega) ?_
  refine call_X4_parting dL_law_182 lk_L_13 ⟨by decide, by show 64 + 8 * t + 0 ≤ 600000; omega, by show 12374 + 2706 * t + 0 ≤ 7302250; omega⟩ I.1 (Nat.le_of_ble_eq_true rfl) ?_
  refine p_X4_parting I (fun h1 f1 I1 => ?_)
  have M1 := M.f f1
  have z1 := f1.1
  dsimp only [m_push]
  obtain ⟨fs, e46⟩ := M1.e46
  refine ok_aload_n dL_law_185 rfl rfl ?_
  refine ok_aload_n dL_law_186 rfl rfl ?_
  refine ok_iload_n dL_law_187 rfl ?_
  refine ok_iconst (v := nI 1) dL_law_188 (by decide) ?_
  refine okN_iadd dL_law_189 ?_
  refine okN_sald dL_law_190 (by omega) (by omega) ?_
  refine call_X5_parting dL_law_191 lk_L_17 ⟨by decide, by show 64 + 8 * t + 0 ≤ 600000; omega, by show 12374 + 2706 * t + 0 ≤ 7302250; omega⟩ e46 (Nat.le_of_ble_eq_true rfl) ?_
  refine p_X5_parting M1 (fun h2 f2 M2 => ?_)
  have z2 := f2.1
  dsimp only [m_push]
  refine ok_icmp_eq (tgt := 1064) dL_law_194 (by decide) (fun _ => ?_) (fun c => absurd rfl c)
  refine ok_widen (uc' := 64 + 8 * (t + 1)) (us' := 12374 + 2706 * (t + 1)) (by omega) (by omega) ?_
  exact k h2 _ (I1.f f2) M2 (by omega)
theorem law_1 (hi : 5 * t + 5 ≤ Ls) (hL : Ls ≤ 2560) (I : IX h S) (M : IM h S) (h64 : 64 ≤ h.1) (k : ∀ h' S', IX h' S' → IM h' S' → 64 ≤ h'.1 → Ok g ML_law (jL g b Ls xs) 1064 [some (.retAddr b), some (.ref 0), some (.ref 46), some (.int (nI (5 * t)))] [] h' (64 + 8 * (t + 1)) (12374 + 2706 * (t + 1))) : Ok g ML_law (jL g b Ls xs) 199 [some (.retAddr b), some (.ref 0), some (.ref 46), some (.int (nI (5 * t)))] [] h (64 + 8 * t) (12374 + 2706 * t) := by
  refine ok_aload_n dL_law_199 rfl rfl ?_
  refine ok_aload_n dL_law_200 rfl rfl ?_
  refine ok_iload_n dL_law_201 rfl ?_
  refine ok_iconst (v := nI 1) dL_law_202 (by decide) ?_
  refine okN_iadd dL_law_203 ?_
  refine okN_sald dL_law_204 (by omega) (by omega) ?_
  refine ok_aload_n dL_law_205 rfl rfl ?_
  refine ok_iload_n dL_law_206 rfl ?_
  refine ok_iconst (v := nI 2) dL_law_207 (by decide) ?_
  refine okN_iadd dL_law_208 ?_
  refine okN_sald dL_law_209 (by omega) (by omega) ?_
  refine call_X4_heap dL_law_210 lk_L_18 ⟨by decide, by show 64 + 8 * t + 0 ≤ 600000; omega, by show 12374 + 2706 * t + 0 ≤ 7302250; omega⟩ I.1 (Nat.le_of_ble_eq_true rfl) ?_
  refine p_X4_heap I (fun h1 f1 I1 => ?_)
  have M1 := M.f f1
  have z1 := f1.1
  dsimp only [m_push]
  obtain ⟨fs, e46⟩ := M1.e46
  refine ok_aload_n dL_law_213 rfl rfl ?_
  refine ok_aload_n dL_law_214 rfl rfl ?_
  refine ok_iload_n dL_law_215 rfl ?_
  refine ok_iconst (v := nI 1) dL_law_216 (by decide) ?_
  refine okN_iadd dL_law_217 ?_
  refine okN_sald dL_law_218 (by omega) (by omega) ?_
  refine ok_aload_n dL_law_219 rfl rfl ?_
  refine ok_iload_n dL_law_220 rfl ?_
  refine ok_iconst (v := nI 2) dL_law_221 (by decide) ?_
  refine okN_iadd dL_law_222 ?_
  refine okN_sald dL_law_223 (by omega) (by omega) ?_
  refine call_X5_heap dL_law_224 lk_L_22 ⟨by decide, by show 64 + 8 * t + 0 ≤ 600000; omega, by show 12374 + 2706 * t + 0 ≤ 7302250; omega⟩ e46 (Nat.le_of_ble_eq_true rfl) ?_
  refine p_X5_heap M1 (fun h2 f2 M2 => ?_)
  have z2 := f2.1
  dsimp only [m_push]
  refine ok_icmp_eq (tgt := 1064) dL_law_227 (by decide) (fun _ => ?_) (fun c => absurd rfl c)
  refine ok_widen (uc' := 64 + 8 * (t + 1)) (us' := 12374 + 2706 * (t + 1)) (by omega) (by omega) ?_
  exact k h2 _ (I1.f f2) M2 (by omega)
theorem law_2 (hi : 5 * t + 5 ≤ Ls) (hL : Ls ≤ 2560) (I : IX h S) (M : IM h S) (h64 : 64 ≤ h.1) (k : ∀ h' S', IX h' S' → IM h' S' → 64 ≤ h'.1 → Ok g ML_law (jL g b Ls xs) 1064 [some (.retAddr b), some (.ref 0), some (.ref 46), some (.int (nI (5 * t)))] [] h' (64 + 8 * (t + 1)) (12374 + 2706 * (t + 1))) : Ok g ML_law (jL g b Ls xs) 232 [some (.retAddr b), some (.ref 0), some (.ref 46), some (.int (nI (5 * t)))] [] h (64 + 8 * t) (12374 + 2706 * t) := by
  refine ok_aload_n dL_law_232 rfl rfl ?_
  refine ok_aload_n dL_law_233 rfl rfl ?_
  refine ok_iload_n dL_law_234 rfl ?_
  refine ok_iconst (v := nI 1) dL_law_235 (by decide) ?_
  refine okN_iadd dL_law_236 ?_
  refine okN_sald dL_law_237 (by omega) (by omega) ?_
  refine ok_aload_n dL_law_238 rfl rfl ?_
  refine ok_iload_n dL_law_239 rfl ?_
  refine ok_iconst (v := nI 2) dL_law_240 (by decide) ?_
  refine okN_iadd dL_law_241 ?_
  refine okN_sald dL_law_242 (by omega) (by omega) ?_
  refine call_X4_at dL_law_243 lk_L_23 ⟨by decide, by show 64 + 8 * t + 0 ≤ 600000; omega, by show 12374 + 2706 * t + 0 ≤ 7302250; omega⟩ I.1 (Nat.le_of_ble_eq_true rfl) ?_
  refine p_X4_at I h64 (fun h1 f1 I1 => ?_)
  have M1 := M.f f1
  have z1 := f1.1
  dsimp only [m_push]
  obtain ⟨fs, e46⟩ := M1.e46
  refine ok_aload_n dL_law_246 rfl rfl ?_
  refine ok_aload_n dL_law_247 rfl rfl ?_
  refine ok_iload_n dL_law_248 rfl ?_
  refine ok_iconst (v := nI 1) dL_law_249 (by decide) ?_
  refine okN_iadd dL_law_250 ?_
  refine okN_sald dL_law_251 (by omega) (by omega) ?_
  refine ok_aload_n dL_law_252 rfl rfl ?_
  refine ok_iload_n dL_law_253 rfl ?_
  refine ok_iconst (v := nI 2) dL_law_254 (by decide) ?_
  refine okN_iadd dL_law_255 ?_
  refine okN_sald dL_law_256 (by omega) (by omega) ?_
  refine call_X5_at dL_law_257 lk_L_26 ⟨by decide, by show 64 + 8 * t + 0 ≤ 600000; omega, by show 12374 + 2706 * t + 0 ≤ 7302250; omega⟩ e46 (Nat.le_of_ble_eq_true rfl) ?_
  refine p_X5_at M1 (fun h2 f2 M2 => ?_)
  have z2 := f2.1
  dsimp only [m_push]
  refine ok_icmp_eq (tgt := 1064) dL_law_260 (by decide) (fun _ => ?_) (fun c => absurd rfl c)
  refine ok_widen (uc' := 64 + 8 * (t + 1)) (us' := 12374 + 2706 * (t + 1)) (by omega) (by omega) ?_
  exact k h2 _ (I1.f f2) M2 (by omega)
theorem law_3 (hi : 5 * t + 5 ≤ Ls) (hL : Ls ≤ 2560) (I : IX h S) (M : IM h S) (h64 : 64 ≤ h.1) (k : ∀ h' S', IX h' S' → IM h' S' → 64 ≤ h'.1 → Ok g ML_law (jL g b Ls xs) 1064 [some (.retAddr b), some (.ref 0), some (.ref 46), some (.int (nI (5 * t)))] [] h' (64 + 8 * (t + 1)) (12374 + 2706 * (t + 1))) : Ok g ML_law (jL g b Ls xs) 265 [some (.retAddr b), some (.ref 0), some (.ref 46), some (.int (nI (5 * t)))] [] h (64 + 8 * t) (12374 + 2706 * t) := by
  refine ok_aload_n dL_law_265 rfl rfl ?_
  refine ok_aload_n dL_law_266 rfl rfl ?_
  refine ok_iload_n dL_law_267 rfl ?_
  refine ok_iconst (v := nI 1) dL_law_268 (by decide) ?_
  refine okN_iadd dL_law_269 ?_
  refine okN_sald dL_law_270 (by omega) (by omega) ?_
  refine ok_aload_n dL_law_271 rfl rfl ?_
  refine ok_iload_n dL_law_272 rfl ?_
  refine ok_iconst (v := nI 2) dL_law_273 (by decide) ?_
  refine okN_iadd dL_law_274 ?_
  refine okN_sald dL_law_275 (by omega) (by omega) ?_
  refine call_X4_take dL_law_276 lk_L_27 ⟨by decide, by show 64 + 8 * t + 0 ≤ 600000; omega, by show 12374 + 2706 * t + 0 ≤ 7302250; omega⟩ I.1 (Nat.le_of_ble_eq_true rfl) ?_
  refine p_X4_take I h64 (fun h1 f1 I1 => ?_)
  have M1 := M.f f1
  have z1 := f1.1
  dsimp only [m_push]
  obtain ⟨fs, e46⟩ := M1.e46
  refine ok_aload_n dL_law_279 rfl rfl ?_
  refine ok_aload_n dL_law_280 rfl rfl ?_
  refine ok_iload_n dL_law_281 rfl ?_
  refine ok_iconst (v := nI 1) dL_law_282 (by decide) ?_
  refine okN_iadd dL_law_283 ?_
  refine okN_sald dL_law_284 (by omega) (by omega) ?_
  refine ok_aload_n dL_law_285 rfl rfl ?_
  refine ok_iload_n dL_law_286 rfl ?_
  refine ok_iconst (v := nI 2) dL_law_287 (by decide) ?_
  refine okN_iadd dL_law_288 ?_
  refine okN_sald dL_law_289 (by omega) (by omega) ?_
  refine call_X5_take dL_law_290 lk_L_30 ⟨by decide, by show 64 + 8 * t + 0 ≤ 600000; omega, by show 12374 + 2706 * t + 0 ≤ 7302250; omega⟩ e46 (Nat.le_of_ble_eq_true rfl) ?_
  refine p_X5_take M1 (fun h2 f2 M2 => ?_)
  have z2 := f2.1
  dsimp only [m_push]
  refine ok_icmp_eq (tgt := 1064) dL_law_293 (by decide) (fun _ => ?_) (fun c => absurd rfl c)
  refine ok_widen (uc' := 64 + 8 * (t + 1)) (us' := 12374 + 2706 * (t + 1)) (by omega) (by omega) ?_
  exact k h2 _ (I1.f f2) M2 (by omega)
theorem law_4 (hi : 5 * t + 5 ≤ Ls) (hL : Ls ≤ 2560) (I : IX h S) (M : IM h S) (h64 : 64 ≤ h.1) (k : ∀ h' S', IX h' S' → IM h' S' → 64 ≤ h'.1 → Ok g ML_law (jL g b Ls xs) 1064 [some (.retAddr b), some (.ref 0), some (.ref 46), some (.int (nI (5 * t)))] [] h' (64 + 8 * (t + 1)) (12374 + 2706 * (t + 1))) : Ok g ML_law (jL g b Ls xs) 298 [some (.retAddr b), some (.ref 0), some (.ref 46), some (.int (nI (5 * t)))] [] h (64 + 8 * t) (12374 + 2706 * t) := by
  refine ok_aload_n dL_law_298 rfl rfl ?_
  refine ok_aload_n dL_law_299 rfl rfl ?_
  refine ok_iload_n dL_law_300 rfl ?_
  refine ok_iconst (v := nI 1) dL_law_301 (by decide) ?_
  refine okN_iadd dL_law_302 ?_
  refine okN_sald dL_law_303 (by omega) (by omega) ?_
  refine call_X4_tear dL_law_304 lk_L_31 ⟨by decide, by show 64 + 8 * t + 0 ≤ 600000; omega, by show 12374 + 2706 * t + 0 ≤ 7302250; omega⟩ I.1 (Nat.le_of_ble_eq_true rfl) ?_
  refine p_X4_tear I (fun h1 f1 I1 => ?_)
  have M1 := M.f f1
  have z1 := f1.1
  dsimp only [m_push]
  obtain ⟨fs, e46⟩ := M1.e46
  refine ok_aload_n dL_law_307 rfl rfl ?_
  refine ok_aload_n dL_law_308 rfl rfl ?_
  refine ok_iload_n dL_law_309 rfl ?_
  refine ok_iconst (v := nI 1) dL_law_310 (by decide) ?_
  refine okN_iadd dL_law_311 ?_
  refine okN_sald dL_law_312 (by omega) (by omega) ?_
  refine call_X5_tear dL_law_313 lk_L_34 ⟨by decide, by show 64 + 8 * t + 0 ≤ 600000; omega, by show 12374 + 2706 * t + 0 ≤ 7302250; omega⟩ e46 (Nat.le_of_ble_eq_true rfl) ?_
  refine p_X5_tear M1 (fun h2 f2 M2 => ?_)
  have z2 := f2.1
  dsimp only [m_push]
  refine ok_icmp_eq (tgt := 1064) dL_law_316 (by decide) (fun _ => ?_) (fun c => absurd rfl c)
  refine ok_widen (uc' := 64 + 8 * (t + 1)) (us' := 12374 + 2706 * (t + 1)) (by omega) (by omega) ?_
  exact k h2 _ (I1.f f2) M2 (by omega)
theorem law_5 (hi : 5 * t + 5 ≤ Ls) (hL : Ls ≤ 2560) (I : IX h S) (M : IM h S) (h64 : 64 ≤ h.1) (k : ∀ h' S', IX h' S' → IM h' S' → 64 ≤ h'.1 → Ok g ML_law (jL g b Ls xs) 1064 [some (.retAddr b), some (.ref 0), some (.ref 46), some (.int (nI (5 * t)))] [] h' (64 + 8 * (t + 1)) (12374 + 2706 * (t + 1))) : Ok g ML_law (jL g b Ls xs) 321 [some (.retAddr b), some (.ref 0), some (.ref 46), some (.int (nI (5 * t)))] [] h (64 + 8 * t) (12374 + 2706 * t) := by
  refine ok_aload_n dL_law_321 rfl rfl ?_
  refine ok_aload_n dL_law_322 rfl rfl ?_
  refine ok_iload_n dL_law_323 rfl ?_
  refine ok_iconst (v := nI 1) dL_law_324 (by decide) ?_
  refine okN_iadd dL_law_325 ?_
  refine okN_sald dL_law_326 (by omega) (by omega) ?_
  refine ok_aload_n dL_law_327 rfl rfl ?_
  refine ok_iload_n dL_law_328 rfl ?_
  refine ok_iconst (v := nI 2) dL_law_329 (by decide) ?_
  refine okN_iadd dL_law_330 ?_
  refine okN_sald dL_law_331 (by omega) (by omega) ?_
  refine ok_aload_n dL_law_332 rfl rfl ?_
  refine ok_iload_n dL_law_333 rfl ?_
  refine ok_iconst (v := nI 3) dL_law_334 (by decide) ?_
  refine okN_iadd dL_law_335 ?_
  refine okN_sald dL_law_336 (by omega) (by omega) ?_
  refine ok_aload_n dL_law_337 rfl rfl ?_
  refine ok_iload_n dL_law_338 rfl ?_
  refine ok_iconst (v := nI 4) dL_law_339 (by decide) ?_
  refine okN_iadd dL_law_340 ?_
  refine okN_sald dL_law_341 (by omega) (by omega) ?_
  refine call_X4_copy dL_law_342 lk_L_35 ⟨by decide, by show 64 + 8 * t + 0 ≤ 600000; omega, by show 12374 + 2706 * t + 0 ≤ 7302250; omega⟩ I.1 (Nat.le_of_ble_eq_true rfl) ?_
  refine p_X4_copy I (fun h1 f1 I1 => ?_)
  have M1 := M.f f1
  have z1 := f1.1
  dsimp only [m_push]
  obtain ⟨fs, e46⟩ := M1.e46
  refine ok_aload_n dL_law_345 rfl rfl ?_
  refine ok_aload_n dL_law_346 rfl rfl ?_
  refine ok_iload_n dL_law_347 rfl ?_
  refine ok_iconst (v := nI 1) dL_law_348 (by decide) ?_
  refine okN_iadd dL_law_349 ?_
  refine okN_sald dL_law_350 (by omega) (by omega) ?_
  refine ok_aload_n dL_law_351 rfl rfl ?_
  refine ok_iload_n dL_law_352 rfl ?_
  refine ok_iconst (v := nI 2) dL_law_353 (by decide) ?_
  refine okN_iadd dL_law_354 ?_
  refine okN_sald dL_law_355 (by omega) (by omega) ?_
  refine ok_aload_n dL_law_356 rfl rfl ?_
  refine ok_iload_n dL_law_357 rfl ?_
  refine ok_iconst (v := nI 3) dL_law_358 (by decide) ?_
  refine okN_iadd dL_law_359 ?_
  refine okN_sald dL_law_360 (by omega) (by omega) ?_
  refine ok_aload_n dL_law_361 rfl rfl ?_
  refine ok_iload_n dL_law_362 rfl ?_
  refine ok_iconst (v := nI 4) dL_law_363 (by decide) ?_
  refine okN_iadd dL_law_364 ?_
  refine okN_sald dL_law_365 (by omega) (by omega) ?_
  refine call_X5_copy dL_law_366 lk_L_39 ⟨by decide, by show 64 + 8 * t + 0 ≤ 600000; omega, by show 12374 + 2706 * t + 0 ≤ 7302250; omega⟩ e46 (Nat.le_of_ble_eq_true rfl) ?_
  refine p_X5_copy M1 (fun h2 f2 M2 => ?_)
  have z2 := f2.1
  dsimp only [m_push]
  refine ok_icmp_eq (tgt := 1064) dL_law_369 (by decide) (fun _ => ?_) (fun c => absurd rfl c)
  refine ok_widen (uc' := 64 + 8 * (t + 1)) (us' := 12374 + 2706 * (t + 1)) (by omega) (by omega) ?_
  exact k h2 _ (I1.f f2) M2 (by omega)
theorem law_6 (hi : 5 * t + 5 ≤ Ls) (hL : Ls ≤ 2560) (I : IX h S) (M : IM h S) (h64 : 64 ≤ h.1) (k : ∀ h' S', IX h' S' → IM h' S' → 64 ≤ h'.1 → Ok g ML_law (jL g b Ls xs) 1064 [some (.retAddr b), some (.ref 0), some (.ref 46), some (.int (nI (5 * t)))] [] h' (64 + 8 * (t + 1)) (12374 + 2706 * (t + 1))) : Ok g ML_law (jL g b Ls xs) 374 [some (.retAddr b), some (.ref 0), some (.ref 46), some (.int (nI (5 * t)))] [] h (64 + 8 * t) (12374 + 2706 * t) := by
  refine ok_aload_n dL_law_374 rfl rfl ?_
  refine ok_aload_n dL_law_375 rfl rfl ?_
  refine ok_iload_n dL_law_376 rfl ?_
  refine ok_iconst (v := nI 1) dL_law_377 (by decide) ?_
  refine okN_iadd dL_law_378 ?_
  refine okN_sald dL_law_379 (by omega) (by omega) ?_
  refine call_X4_rule dL_law_380 lk_L_40 ⟨by decide, by show 64 + 8 * t + 0 ≤ 600000; omega, by show 12374 + 2706 * t + 0 ≤ 7302250; omega⟩ I.1 (Nat.le_of_ble_eq_true rfl) ?_
  refine p_X4_rule I (fun h1 f1 I1 => ?_)
  have M1 := M.f f1
  have z1 := f1.1
  dsimp only [m_push]
  obtain ⟨fs, e46⟩ := M1.e46
  refine ok_aload_n dL_law_383 rfl rfl ?_
  refine ok_aload_n dL_law_384 rfl rfl ?_
  refine ok_iload_n dL_law_385 rfl ?_
  refine ok_iconst (v := nI 1) dL_law_386 (by decide) ?_
  refine okN_iadd dL_law_387 ?_
  refine okN_sald dL_law_388 (by omega) (by omega) ?_
  refine call_X5_rule dL_law_389 lk_L_43 ⟨by decide, by show 64 + 8 * t + 0 ≤ 600000; omega, by show 12374 + 2706 * t + 0 ≤ 7302250; omega⟩ e46 (Nat.le_of_ble_eq_true rfl) ?_
  refine p_X5_rule M1 (fun h2 f2 M2 => ?_)
  have z2 := f2.1
  dsimp only [m_push]
  refine ok_icmp_eq (tgt := 1064) dL_law_392 (by decide) (fun _ => ?_) (fun c => absurd rfl c)
  refine ok_widen (uc' := 64 + 8 * (t + 1)) (us' := 12374 + 2706 * (t + 1)) (by omega) (by omega) ?_
  exact k h2 _ (I1.f f2) M2 (by omega)
theorem law_7 (hi : 5 * t + 5 ≤ Ls) (hL : Ls ≤ 2560) (I : IX h S) (M : IM h S) (h64 : 64 ≤ h.1) (k : ∀ h' S', IX h' S' → IM h' S' → 64 ≤ h'.1 → Ok g ML_law (jL g b Ls xs) 1064 [some (.retAddr b), some (.ref 0), some (.ref 46), some (.int (nI (5 * t)))] [] h' (64 + 8 * (t + 1)) (12374 + 2706 * (t + 1))) : Ok g ML_law (jL g b Ls xs) 397 [some (.retAddr b), some (.ref 0), some (.ref 46), some (.int (nI (5 * t)))] [] h (64 + 8 * t) (12374 + 2706 * t) := by
  refine ok_aload_n dL_law_397 rfl rfl ?_
  refine ok_aload_n dL_law_398 rfl rfl ?_
  refine ok_iload_n dL_law_399 rfl ?_
  refine ok_iconst (v := nI 1) dL_law_400 (by decide) ?_
  refine okN_iadd dL_law_401 ?_
  refine okN_sald dL_law_402 (by omega) (by omega) ?_
  refine call_X4_kind dL_law_403 lk_L_44 ⟨by decide, by show 64 + 8 * t + 8 ≤ 600000; omega, by show 12374 + 2706 * t + 2706 ≤ 7302250; omega⟩ I.1 (Nat.le_of_ble_eq_true rfl) ?_
  refine p_X4_kind I h64 (fun h1 f1 I1 => ?_)
  have M1 := M.f f1
  have z1 := f1.1
  dsimp only [m_push]
  obtain ⟨fs, e46⟩ := M1.e46
  refine ok_aload_n dL_law_406 rfl rfl ?_
  refine ok_aload_n dL_law_407 rfl rfl ?_
  refine ok_iload_n dL_law_408 rfl ?_
  refine ok_iconst (v := nI 1) dL_law_409 (by decide) ?_
  refine okN_iadd dL_law_410 ?_
  refine okN_sald dL_law_411 (by omega) (by omega) ?_
  refine call_X5_kind dL_law_412 lk_L_47 ⟨by decide, by show 64 + 8 * t + 8 + 0 ≤ 600000; omega, by show 12374 + 2706 * t + 2706 + 0 ≤ 7302250; omega⟩ e46 (Nat.le_of_ble_eq_true rfl) ?_
  refine p_X5_kind M1 (fun h2 f2 M2 => ?_)
  have z2 := f2.1
  dsimp only [m_push]
  refine ok_icmp_eq (tgt := 1064) dL_law_415 (by decide) (fun _ => ?_) (fun c => absurd rfl c)
  refine ok_widen (uc' := 64 + 8 * (t + 1)) (us' := 12374 + 2706 * (t + 1)) (by omega) (by omega) ?_
  exact k h2 _ (I1.f f2) M2 (by omega)
theorem law_8 (hi : 5 * t + 5 ≤ Ls) (hL : Ls ≤ 2560) (I : IX h S) (M : IM h S) (h64 : 64 ≤ h.1) (k : ∀ h' S', IX h' S' → IM h' S' → 64 ≤ h'.1 → Ok g ML_law (jL g b Ls xs) 1064 [some (.retAddr b), some (.ref 0), some (.ref 46), some (.int (nI (5 * t)))] [] h' (64 + 8 * (t + 1)) (12374 + 2706 * (t + 1))) : Ok g ML_law (jL g b Ls xs) 420 [some (.retAddr b), some (.ref 0), some (.ref 46), some (.int (nI (5 * t)))] [] h (64 + 8 * t) (12374 + 2706 * t) := by
  refine ok_aload_n dL_law_420 rfl rfl ?_
  refine ok_aload_n dL_law_421 rfl rfl ?_
  refine ok_iload_n dL_law_422 rfl ?_
  refine ok_iconst (v := nI 1) dL_law_423 (by decide) ?_
  refine okN_iadd dL_law_424 ?_
  refine okN_sald dL_law_425 (by omega) (by omega) ?_
  refine ok_aload_n dL_law_426 rfl rfl ?_
  refine ok_iload_n dL_law_427 rfl ?_
  refine ok_iconst (v := nI 2) dL_law_428 (by decide) ?_
  refine okN_iadd dL_law_429 ?_
  refine okN_sald dL_law_430 (by omega) (by omega) ?_
  refine call_X4_mark dL_law_431 lk_L_48 ⟨by decide, by show 64 + 8 * t + 8 ≤ 600000; omega, by show 12374 + 2706 * t + 2706 ≤ 7302250; omega⟩ I.1 (Nat.le_of_ble_eq_true rfl) ?_
  refine p_X4_mark I h64 (fun h1 f1 I1 => ?_)
  have M1 := M.f f1
  have z1 := f1.1
  dsimp only [m_push]
  obtain ⟨fs, e46⟩ := M1.e46
  refine ok_aload_n dL_law_434 rfl rfl ?_
  refine ok_aload_n dL_law_435 rfl rfl ?_
  refine ok_iload_n dL_law_436 rfl ?_
  refine ok_iconst (v := nI 1) dL_law_437 (by decide) ?_
  refine okN_iadd dL_law_438 ?_
  refine okN_sald dL_law_439 (by omega) (by omega) ?_
  refine ok_aload_n dL_law_440 rfl rfl ?_
  refine ok_iload_n dL_law_441 rfl ?_
  refine ok_iconst (v := nI 2) dL_law_442 (by decide) ?_
  refine okN_iadd dL_law_443 ?_
  refine okN_sald dL_law_444 (by omega) (by omega) ?_
  refine call_X5_mark dL_law_445 lk_L_51 ⟨by decide, by show 64 + 8 * t + 8 + 0 ≤ 600000; omega, by show 12374 + 2706 * t + 2706 + 0 ≤ 7302250; omega⟩ e46 (Nat.le_of_ble_eq_true rfl) ?_
  refine p_X5_mark M1 (fun h2 f2 M2 => ?_)
  have z2 := f2.1
  dsimp only [m_push]
  refine ok_icmp_eq (tgt := 1064) dL_law_448 (by decide) (fun _ => ?_) (fun c => absurd rfl c)
  refine ok_widen (uc' := 64 + 8 * (t + 1)) (us' := 12374 + 2706 * (t + 1)) (by omega) (by omega) ?_
  exact k h2 _ (I1.f f2) M2 (by omega)
theorem law_9 (hi : 5 * t + 5 ≤ Ls) (hL : Ls ≤ 2560) (I : IX h S) (M : IM h S) (h64 : 64 ≤ h.1) (k : ∀ h' S', IX h' S' → IM h' S' → 64 ≤ h'.1 → Ok g ML_law (jL g b Ls xs) 1064 [some (.retAddr b), some (.ref 0), some (.ref 46), some (.int (nI (5 * t)))] [] h' (64 + 8 * (t + 1)) (12374 + 2706 * (t + 1))) : Ok g ML_law (jL g b Ls xs) 453 [some (.retAddr b), some (.ref 0), some (.ref 46), some (.int (nI (5 * t)))] [] h (64 + 8 * t) (12374 + 2706 * t) := by
  refine ok_aload_n dL_law_453 rfl rfl ?_
  refine ok_aload_n dL_law_454 rfl rfl ?_
  refine ok_iload_n dL_law_455 rfl ?_
  refine ok_iconst (v := nI 1) dL_law_456 (by decide) ?_
  refine okN_iadd dL_law_457 ?_
  refine okN_sald dL_law_458 (by omega) (by omega) ?_
  refine call_X4_mean dL_law_459 lk_L_52 ⟨by decide, by show 64 + 8 * t + 0 ≤ 600000; omega, by show 12374 + 2706 * t + 0 ≤ 7302250; omega⟩ I.1 (Nat.le_of_ble_eq_true rfl) ?_
  refine p_X4_mean I h64 (fun h1 f1 I1 => ?_)
  have M1 := M.f f1
  have z1 := f1.1
  dsimp only [m_push]
  obtain ⟨fs, e46⟩ := M1.e46
  refine ok_aload_n dL_law_462 rfl rfl ?_
  refine ok_aload_n dL_law_463 rfl rfl ?_
  refine ok_iload_n dL_law_464 rfl ?_
  refine ok_iconst (v := nI 1) dL_law_465 (by decide) ?_
  refine okN_iadd dL_law_466 ?_
  refine okN_sald dL_law_467 (by omega) (by omega) ?_
  refine call_X5_mean dL_law_468 lk_L_55 ⟨by decide, by show 64 + 8 * t + 0 ≤ 600000; omega, by show 12374 + 2706 * t + 0 ≤ 7302250; omega⟩ e46 (Nat.le_of_ble_eq_true rfl) ?_
  refine p_X5_mean M1 (fun h2 f2 M2 => ?_)
  have z2 := f2.1
  dsimp only [m_push]
  refine ok_icmp_eq (tgt := 1064) dL_law_471 (by decide) (fun _ => ?_) (fun c => absurd rfl c)
  refine ok_widen (uc' := 64 + 8 * (t + 1)) (us' := 12374 + 2706 * (t + 1)) (by omega) (by omega) ?_
  exact k h2 _ (I1.f f2) M2 (by omega)
theorem law_10 (hi : 5 * t + 5 ≤ Ls) (hL : Ls ≤ 2560) (I : IX h S) (M : IM h S) (h64 : 64 ≤ h.1) (k : ∀ h' S', IX h' S' → IM h' S' → 64 ≤ h'.1 → Ok g ML_law (jL g b Ls xs) 1064 [some (.retAddr b), some (.ref 0), some (.ref 46), some (.int (nI (5 * t)))] [] h' (64 + 8 * (t + 1)) (12374 + 2706 * (t + 1))) : Ok g ML_law (jL g b Ls xs) 476 [some (.retAddr b), some (.ref 0), some (.ref 46), some (.int (nI (5 * t)))] [] h (64 + 8 * t) (12374 + 2706 * t) := by
  refine ok_aload_n dL_law_476 rfl rfl ?_
  refine ok_aload_n dL_law_477 rfl rfl ?_
  refine ok_iload_n dL_law_478 rfl ?_
  refine ok_iconst (v := nI 1) dL_law_479 (by decide) ?_
  refine okN_iadd dL_law_480 ?_
  refine okN_sald dL_law_481 (by omega) (by omega) ?_
  refine call_X4_many dL_law_482 lk_L_56 ⟨by decide, by show 64 + 8 * t + 0 ≤ 600000; omega, by show 12374 + 2706 * t + 0 ≤ 7302250; omega⟩ I.1 (Nat.le_of_ble_eq_true rfl) ?_
  refine p_X4_many I (fun h1 f1 I1 => ?_)
  have M1 := M.f f1
  have z1 := f1.1
  dsimp only [m_push]
  obtain ⟨fs, e46⟩ := M1.e46
  refine ok_aload_n dL_law_485 rfl rfl ?_
  refine ok_aload_n dL_law_486 rfl rfl ?_
  refine ok_iload_n dL_law_487 rfl ?_
  refine ok_iconst (v := nI 1) dL_law_488 (by decide) ?_
  refine okN_iadd dL_law_489 ?_
  refine okN_sald dL_law_490 (by omega) (by omega) ?_
  refine call_X5_many dL_law_491 lk_L_59 ⟨by decide, by show 64 + 8 * t + 0 ≤ 600000; omega, by show 12374 + 2706 * t + 0 ≤ 7302250; omega⟩ e46 (Nat.le_of_ble_eq_true rfl) ?_
  refine p_X5_many M1 (fun h2 f2 M2 => ?_)
  have z2 := f2.1
  dsimp only [m_push]
  refine ok_icmp_eq (tgt := 1064) dL_law_494 (by decide) (fun _ => ?_) (fun c => absurd rfl c)
  refine ok_widen (uc' := 64 + 8 * (t + 1)) (us' := 12374 + 2706 * (t + 1)) (by omega) (by omega) ?_
  exact k h2 _ (I1.f f2) M2 (by omega)
theorem law_11 (hi : 5 * t + 5 ≤ Ls) (hL : Ls ≤ 2560) (I : IX h S) (M : IM h S) (h64 : 64 ≤ h.1) (k : ∀ h' S', IX h' S' → IM h' S' → 64 ≤ h'.1 → Ok g ML_law (jL g b Ls xs) 1064 [some (.retAddr b), some (.ref 0), some (.ref 46), some (.int (nI (5 * t)))] [] h' (64 + 8 * (t + 1)) (12374 + 2706 * (t + 1))) : Ok g ML_law (jL g b Ls xs) 499 [some (.retAddr b), some (.ref 0), some (.ref 46), some (.int (nI (5 * t)))] [] h (64 + 8 * t) (12374 + 2706 * t) := by
  refine ok_aload_n dL_law_499 rfl rfl ?_
  refine ok_aload_n dL_law_500 rfl rfl ?_
  refine ok_iload_n dL_law_501 rfl ?_
  refine ok_iconst (v := nI 1) dL_law_502 (by decide) ?_
  refine okN_iadd dL_law_503 ?_
  refine okN_sald dL_law_504 (by omega) (by omega) ?_
  refine call_X4_rank dL_law_505 lk_L_60 ⟨by decide, by show 64 + 8 * t + 0 ≤ 600000; omega, by show 12374 + 2706 * t + 0 ≤ 7302250; omega⟩ I.1 (Nat.le_of_ble_eq_true rfl) ?_
  refine p_X4_rank I h64 (fun h1 f1 I1 => ?_)
  have M1 := M.f f1
  have z1 := f1.1
  dsimp only [m_push]
  obtain ⟨fs, e46⟩ := M1.e46
  refine ok_aload_n dL_law_508 rfl rfl ?_
  refine ok_aload_n dL_law_509 rfl rfl ?_
  refine ok_iload_n dL_law_510 rfl ?_
  refine ok_iconst (v := nI 1) dL_law_511 (by decide) ?_
  refine okN_iadd dL_law_512 ?_
  refine okN_sald dL_law_513 (by omega) (by omega) ?_
  refine call_X5_rank dL_law_514 lk_L_63 ⟨by decide, by show 64 + 8 * t + 0 ≤ 600000; omega, by show 12374 + 2706 * t + 0 ≤ 7302250; omega⟩ e46 (Nat.le_of_ble_eq_true rfl) ?_
  refine p_X5_rank M1 (fun h2 f2 M2 => ?_)
  have z2 := f2.1
  dsimp only [m_push]
  refine ok_icmp_eq (tgt := 1064) dL_law_517 (by decide) (fun _ => ?_) (fun c => absurd rfl c)
  refine ok_widen (uc' := 64 + 8 * (t + 1)) (us' := 12374 + 2706 * (t + 1)) (by omega) (by omega) ?_
  exact k h2 _ (I1.f f2) M2 (by omega)
theorem law_12 (hi : 5 * t + 5 ≤ Ls) (hL : Ls ≤ 2560) (I : IX h S) (M : IM h S) (h64 : 64 ≤ h.1) (k : ∀ h' S', IX h' S' → IM h' S' → 64 ≤ h'.1 → Ok g ML_law (jL g b Ls xs) 1064 [some (.retAddr b), some (.ref 0), some (.ref 46), some (.int (nI (5 * t)))] [] h' (64 + 8 * (t + 1)) (12374 + 2706 * (t + 1))) : Ok g ML_law (jL g b Ls xs) 522 [some (.retAddr b), some (.ref 0), some (.ref 46), some (.int (nI (5 * t)))] [] h (64 + 8 * t) (12374 + 2706 * t) := by
  refine ok_aload_n dL_law_522 rfl rfl ?_
  refine ok_aload_n dL_law_523 rfl rfl ?_
  refine ok_iload_n dL_law_524 rfl ?_
  refine ok_iconst (v := nI 1) dL_law_525 (by decide) ?_
  refine okN_iadd dL_law_526 ?_
  refine okN_sald dL_law_527 (by omega) (by omega) ?_
  refine ok_aload_n dL_law_528 rfl rfl ?_
  refine ok_iload_n dL_law_529 rfl ?_
  refine ok_iconst (v := nI 2) dL_law_530 (by decide) ?_
  refine okN_iadd dL_law_531 ?_
  refine okN_sald dL_law_532 (by omega) (by omega) ?_
  refine ok_aload_n dL_law_533 rfl rfl ?_
  refine ok_iload_n dL_law_534 rfl ?_
  refine ok_iconst (v := nI 3) dL_law_535 (by decide) ?_
  refine okN_iadd dL_law_536 ?_
  refine okN_sald dL_law_537 (by omega) (by omega) ?_
  refine call_X4_list dL_law_538 lk_L_64 ⟨by decide, by show 64 + 8 * t + 0 ≤ 600000; omega, by show 12374 + 2706 * t + 0 ≤ 7302250; omega⟩ I.1 (Nat.le_of_ble_eq_true rfl) ?_
  refine p_X4_list I (fun h1 f1 I1 => ?_)
  have M1 := M.f f1
  have z1 := f1.1
  dsimp only [m_push]
  obtain ⟨fs, e46⟩ := M1.e46
  refine ok_aload_n dL_law_541 rfl rfl ?_
  refine ok_aload_n dL_law_542 rfl rfl ?_
  refine ok_iload_n dL_law_543 rfl ?_
  refine ok_iconst (v := nI 1) dL_law_544 (by decide) ?_
  refine okN_iadd dL_law_545 ?_
  refine okN_sald dL_law_546 (by omega) (by omega) ?_
  refine ok_aload_n dL_law_547 rfl rfl ?_
  refine ok_iload_n dL_law_548 rfl ?_
  refine ok_iconst (v := nI 2) dL_law_549 (by decide) ?_
  refine okN_iadd dL_law_550 ?_
  refine okN_sald dL_law_551 (by omega) (by omega) ?_
  refine ok_aload_n dL_law_552 rfl rfl ?_
  refine ok_iload_n dL_law_553 rfl ?_
  refine ok_iconst (v := nI 3) dL_law_554 (by decide) ?_
  refine okN_iadd dL_law_555 ?_
  refine okN_sald dL_law_556 (by omega) (by omega) ?_
  refine call_X5_list dL_law_557 lk_L_68 ⟨by decide, by show 64 + 8 * t + 0 ≤ 600000; omega, by show 12374 + 2706 * t + 0 ≤ 7302250; omega⟩ e46 (Nat.le_of_ble_eq_true rfl) ?_
  refine p_X5_list M1 (fun h2 f2 M2 => ?_)
  have z2 := f2.1
  dsimp only [m_push]
  refine ok_icmp_eq (tgt := 1064) dL_law_560 (by decide) (fun _ => ?_) (fun c => absurd rfl c)
  refine ok_widen (uc' := 64 + 8 * (t + 1)) (us' := 12374 + 2706 * (t + 1)) (by omega) (by omega) ?_
  exact k h2 _ (I1.f f2) M2 (by omega)
theorem law_13 (hi : 5 * t + 5 ≤ Ls) (hL : Ls ≤ 2560) (I : IX h S) (M : IM h S) (h64 : 64 ≤ h.1) (k : ∀ h' S', IX h' S' → IM h' S' → 64 ≤ h'.1 → Ok g ML_law (jL g b Ls xs) 1064 [some (.retAddr b), some (.ref 0), some (.ref 46), some (.int (nI (5 * t)))] [] h' (64 + 8 * (t + 1)) (12374 + 2706 * (t + 1))) : Ok g ML_law (jL g b Ls xs) 565 [some (.retAddr b), some (.ref 0), some (.ref 46), some (.int (nI (5 * t)))] [] h (64 + 8 * t) (12374 + 2706 * t) := by
  refine ok_aload_n dL_law_565 rfl rfl ?_
  refine ok_aload_n dL_law_566 rfl rfl ?_
  refine ok_iload_n dL_law_567 rfl ?_
  refine ok_iconst (v := nI 1) dL_law_568 (by decide) ?_
  refine okN_iadd dL_law_569 ?_
  refine okN_sald dL_law_570 (by omega) (by omega) ?_
  refine call_X4_turn dL_law_571 lk_L_69 ⟨by decide, by show 64 + 8 * t + 0 ≤ 600000; omega, by show 12374 + 2706 * t + 0 ≤ 7302250; omega⟩ I.1 (Nat.le_of_ble_eq_true rfl) ?_
  refine p_X4_turn I (fun h1 f1 I1 => ?_)
  have M1 := M.f f1
  have z1 := f1.1
  dsimp only [m_push]
  obtain ⟨fs, e46⟩ := M1.e46
  refine ok_aload_n dL_law_574 rfl rfl ?_
  refine ok_aload_n dL_law_575 rfl rfl ?_
  refine ok_iload_n dL_law_576 rfl ?_
  refine ok_iconst (v := nI 1) dL_law_577 (by decide) ?_
  refine okN_iadd dL_law_578 ?_
  refine okN_sald dL_law_579 (by omega) (by omega) ?_
  refine call_X5_turn dL_law_580 lk_L_72 ⟨by decide, by show 64 + 8 * t + 0 ≤ 600000; omega, by show 12374 + 2706 * t + 0 ≤ 7302250; omega⟩ e46 (Nat.le_of_ble_eq_true rfl) ?_
  refine p_X5_turn M1 (fun h2 f2 M2 => ?_)
  have z2 := f2.1
  dsimp only [m_push]
  refine ok_icmp_eq (tgt := 1064) dL_law_583 (by decide) (fun _ => ?_) (fun c => absurd rfl c)
  refine ok_widen (uc' := 64 + 8 * (t + 1)) (us' := 12374 + 2706 * (t + 1)) (by omega) (by omega) ?_
  exact k h2 _ (I1.f f2) M2 (by omega)
theorem law_14 (hi : 5 * t + 5 ≤ Ls) (hL : Ls ≤ 2560) (I : IX h S) (M : IM h S) (h64 : 64 ≤ h.1) (k : ∀ h' S', IX h' S' → IM h' S' → 64 ≤ h'.1 → Ok g ML_law (jL g b Ls xs) 1064 [some (.retAddr b), some (.ref 0), some (.ref 46), some (.int (nI (5 * t)))] [] h' (64 + 8 * (t + 1)) (12374 + 2706 * (t + 1))) : Ok g ML_law (jL g b Ls xs) 588 [some (.retAddr b), some (.ref 0), some (.ref 46), some (.int (nI (5 * t)))] [] h (64 + 8 * t) (12374 + 2706 * t) := by
  refine ok_aload_n dL_law_588 rfl rfl ?_
  refine ok_aload_n dL_law_589 rfl rfl ?_
  refine ok_iload_n dL_law_590 rfl ?_
  refine ok_iconst (v := nI 1) dL_law_591 (by decide) ?_
  refine okN_iadd dL_law_592 ?_
  refine okN_sald dL_law_593 (by omega) (by omega) ?_
  refine ok_aload_n dL_law_594 rfl rfl ?_
  refine ok_iload_n dL_law_595 rfl ?_
  refine ok_iconst (v := nI 2) dL_law_596 (by decide) ?_
  refine okN_iadd dL_law_597 ?_
  refine okN_sald dL_law_598 (by omega) (by omega) ?_
  refine call_X4_step dL_law_599 lk_L_73 ⟨by decide, by show 64 + 8 * t + 8 ≤ 600000; omega, by show 12374 + 2706 * t + 2706 ≤ 7302250; omega⟩ I.1 (Nat.le_of_ble_eq_true rfl) ?_
  refine p_X4_step I h64 (fun h1 f1 I1 => ?_)
  have M1 := M.f f1
  have z1 := f1.1
  dsimp only [m_push]
  obtain ⟨fs, e46⟩ := M1.e46
  refine ok_aload_n dL_law_602 rfl rfl ?_
  refine ok_aload_n dL_law_603 rfl rfl ?_
  refine ok_iload_n dL_law_604 rfl ?_
  refine ok_iconst (v := nI 1) dL_law_605 (by decide) ?_
  refine okN_iadd dL_law_606 ?_
  refine okN_sald dL_law_607 (by omega) (by omega) ?_
  refine ok_aload_n dL_law_608 rfl rfl ?_
  refine ok_iload_n dL_law_609 rfl ?_
  refine ok_iconst (v := nI 2) dL_law_610 (by decide) ?_
  refine okN_iadd dL_law_611 ?_
  refine okN_sald dL_law_612 (by omega) (by omega) ?_
  refine call_X5_step dL_law_613 lk_L_76 ⟨by decide, by show 64 + 8 * t + 8 + 0 ≤ 600000; omega, by show 12374 + 2706 * t + 2706 + 0 ≤ 7302250; omega⟩ e46 (Nat.le_of_ble_eq_true rfl) ?_
  refine p_X5_step M1 (fun h2 f2 M2 => ?_)
  have z2 := f2.1
  dsimp only [m_push]
  refine ok_icmp_eq (tgt := 1064) dL_law_616 (by decide) (fun _ => ?_) (fun c => absurd rfl c)
  refine ok_widen (uc' := 64 + 8 * (t + 1)) (us' := 12374 + 2706 * (t + 1)) (by omega) (by omega) ?_
  exact k h2 _ (I1.f f2) M2 (by omega)
theorem law_15 (hi : 5 * t + 5 ≤ Ls) (hL : Ls ≤ 2560) (I : IX h S) (M : IM h S) (h64 : 64 ≤ h.1) (k : ∀ h' S', IX h' S' → IM h' S' → 64 ≤ h'.1 → Ok g ML_law (jL g b Ls xs) 1064 [some (.retAddr b), some (.ref 0), some (.ref 46), some (.int (nI (5 * t)))] [] h' (64 + 8 * (t + 1)) (12374 + 2706 * (t + 1))) : Ok g ML_law (jL g b Ls xs) 621 [some (.retAddr b), some (.ref 0), some (.ref 46), some (.int (nI (5 * t)))] [] h (64 + 8 * t) (12374 + 2706 * t) := by
  refine ok_aload_n dL_law_621 rfl rfl ?_
  refine ok_aload_n dL_law_622 rfl rfl ?_
  refine ok_iload_n dL_law_623 rfl ?_
  refine ok_iconst (v := nI 1) dL_law_624 (by decide) ?_
  refine okN_iadd dL_law_625 ?_
  refine okN_sald dL_law_626 (by omega) (by omega) ?_
  refine call_X4_tail dL_law_627 lk_L_77 ⟨by decide, by show 64 + 8 * t + 8 ≤ 600000; omega, by show 12374 + 2706 * t + 2706 ≤ 7302250; omega⟩ I.1 (Nat.le_of_ble_eq_true rfl) ?_
  refine p_X4_tail I h64 (fun h1 f1 I1 => ?_)
  have M1 := M.f f1
  have z1 := f1.1
  dsimp only [m_push]
  obtain ⟨fs, e46⟩ := M1.e46
  refine ok_aload_n dL_law_630 rfl rfl ?_
  refine ok_aload_n dL_law_631 rfl rfl ?_
  refine ok_iload_n dL_law_632 rfl ?_
  refine ok_iconst (v := nI 1) dL_law_633 (by decide) ?_
  refine okN_iadd dL_law_634 ?_
  refine okN_sald dL_law_635 (by omega) (by omega) ?_
  refine call_X5_tail dL_law_636 lk_L_80 ⟨by decide, by show 64 + 8 * t + 8 + 0 ≤ 600000; omega, by show 12374 + 2706 * t + 2706 + 0 ≤ 7302250; omega⟩ e46 (Nat.le_of_ble_eq_true rfl) ?_
  refine p_X5_tail M1 (fun h2 f2 M2 => ?_)
  have z2 := f2.1
  dsimp only [m_push]
  refine ok_icmp_eq (tgt := 1064) dL_law_639 (by decide) (fun _ => ?_) (fun c => absurd rfl c)
  refine ok_widen (uc' := 64 + 8 * (t + 1)) (us' := 12374 + 2706 * (t + 1)) (by omega) (by omega) ?_
  exact k h2 _ (I1.f f2) M2 (by omega)
theorem law_16 (hi : 5 * t + 5 ≤ Ls) (hL : Ls ≤ 2560) (I : IX h S) (M : IM h S) (h64 : 64 ≤ h.1) (k : ∀ h' S', IX h' S' → IM h' S' → 64 ≤ h'.1 → Ok g ML_law (jL g b Ls xs) 1064 [some (.retAddr b), some (.ref 0), some (.ref 46), some (.int (nI (5 * t)))] [] h' (64 + 8 * (t + 1)) (12374 + 2706 * (t + 1))) : Ok g ML_law (jL g b Ls xs) 644 [some (.retAddr b), some (.ref 0), some (.ref 46), some (.int (nI (5 * t)))] [] h (64 + 8 * t) (12374 + 2706 * t) := by
  refine ok_aload_n dL_law_644 rfl rfl ?_
  refine ok_aload_n dL_law_645 rfl rfl ?_
  refine ok_iload_n dL_law_646 rfl ?_
  refine ok_iconst (v := nI 1) dL_law_647 (by decide) ?_
  refine okN_iadd dL_law_648 ?_
  refine okN_sald dL_law_649 (by omega) (by omega) ?_
  refine call_X4_beat dL_law_650 lk_L_81 ⟨by decide, by show 64 + 8 * t + 8 ≤ 600000; omega, by show 12374 + 2706 * t + 2706 ≤ 7302250; omega⟩ I.1 (Nat.le_of_ble_eq_true rfl) ?_
  refine p_X4_beat I h64 (fun h1 f1 I1 => ?_)
  have M1 := M.f f1
  have z1 := f1.1
  dsimp only [m_push]
  obtain ⟨fs, e46⟩ := M1.e46
  refine ok_aload_n dL_law_653 rfl rfl ?_
  refine ok_aload_n dL_law_654 rfl rfl ?_
  refine ok_iload_n dL_law_655 rfl ?_
  refine ok_iconst (v := nI 1) dL_law_656 (by decide) ?_
  refine okN_iadd dL_law_657 ?_
  refine okN_sald dL_law_658 (by omega) (by omega) ?_
  refine call_X5_beat dL_law_659 lk_L_84 ⟨by decide, by show 64 + 8 * t + 8 + 0 ≤ 600000; omega, by show 12374 + 2706 * t + 2706 + 0 ≤ 7302250; omega⟩ e46 (Nat.le_of_ble_eq_true rfl) ?_
  refine p_X5_beat M1 (fun h2 f2 M2 => ?_)
  have z2 := f2.1
  dsimp only [m_push]
  refine ok_icmp_eq (tgt := 1064) dL_law_662 (by decide) (fun _ => ?_) (fun c => absurd rfl c)
  refine ok_widen (uc' := 64 + 8 * (t + 1)) (us' := 12374 + 2706 * (t + 1)) (by omega) (by omega) ?_
  exact k h2 _ (I1.f f2) M2 (by omega)
theorem law_17 (hi : 5 * t + 5 ≤ Ls) (hL : Ls ≤ 2560) (I : IX h S) (M : IM h S) (h64 : 64 ≤ h.1) (k : ∀ h' S', IX h' S' → IM h' S' → 64 ≤ h'.1 → Ok g ML_law (jL g b Ls xs) 1064 [some (.retAddr b), some (.ref 0), some (.ref 46), some (.int (nI (5 * t)))] [] h' (64 + 8 * (t + 1)) (12374 + 2706 * (t + 1))) : Ok g ML_law (jL g b Ls xs) 667 [some (.retAddr b), some (.ref 0), some (.ref 46), some (.int (nI (5 * t)))] [] h (64 + 8 * t) (12374 + 2706 * t) := by
  refine ok_aload_n dL_law_667 rfl rfl ?_
  refine ok_aload_n dL_law_668 rfl rfl ?_
  refine ok_iload_n dL_law_669 rfl ?_
  refine ok_iconst (v := nI 1) dL_law_670 (by decide) ?_
  refine okN_iadd dL_law_671 ?_
  refine okN_sald dL_law_672 (by omega) (by omega) ?_
  refine call_X4_leader dL_law_673 lk_L_85 ⟨by decide, by show 64 + 8 * t + 8 ≤ 600000; omega, by show 12374 + 2706 * t + 2706 ≤ 7302250; omega⟩ I.1 (Nat.le_of_ble_eq_true rfl) ?_
  refine p_X4_leader I h64 (fun h1 f1 I1 => ?_)
  have M1 := M.f f1
  have z1 := f1.1
  dsimp only [m_push]
  obtain ⟨fs, e46⟩ := M1.e46
  refine ok_aload_n dL_law_676 rfl rfl ?_
  refine ok_aload_n dL_law_677 rfl rfl ?_
  refine ok_iload_n dL_law_678 rfl ?_
  refine ok_iconst (v := nI 1) dL_law_679 (by decide) ?_
  refine okN_iadd dL_law_680 ?_
  refine okN_sald dL_law_681 (by omega) (by omega) ?_
  refine call_X5_leader dL_law_682 lk_L_88 ⟨by decide, by show 64 + 8 * t + 8 + 0 ≤ 600000; omega, by show 12374 + 2706 * t + 2706 + 0 ≤ 7302250; omega⟩ e46 (Nat.le_of_ble_eq_true rfl) ?_
  refine p_X5_leader M1 (fun h2 f2 M2 => ?_)
  have z2 := f2.1
  dsimp only [m_push]
  refine ok_icmp_eq (tgt := 1064) dL_law_685 (by decide) (fun _ => ?_) (fun c => absurd rfl c)
  refine ok_widen (uc' := 64 + 8 * (t + 1)) (us' := 12374 + 2706 * (t + 1)) (by omega) (by omega) ?_
  exact k h2 _ (I1.f f2) M2 (by omega)
theorem law_18 (hi : 5 * t + 5 ≤ Ls) (hL : Ls ≤ 2560) (I : IX h S) (M : IM h S) (h64 : 64 ≤ h.1) (k : ∀ h' S', IX h' S' → IM h' S' → 64 ≤ h'.1 → Ok g ML_law (jL g b Ls xs) 1064 [some (.retAddr b), some (.ref 0), some (.ref 46), some (.int (nI (5 * t)))] [] h' (64 + 8 * (t + 1)) (12374 + 2706 * (t + 1))) : Ok g ML_law (jL g b Ls xs) 690 [some (.retAddr b), some (.ref 0), some (.ref 46), some (.int (nI (5 * t)))] [] h (64 + 8 * t) (12374 + 2706 * t) := by
  refine ok_aload_n dL_law_690 rfl rfl ?_
  refine ok_aload_n dL_law_691 rfl rfl ?_
  refine ok_iload_n dL_law_692 rfl ?_
  refine ok_iconst (v := nI 1) dL_law_693 (by decide) ?_
  refine okN_iadd dL_law_694 ?_
  refine okN_sald dL_law_695 (by omega) (by omega) ?_
  refine ok_aload_n dL_law_696 rfl rfl ?_
  refine ok_iload_n dL_law_697 rfl ?_
  refine ok_iconst (v := nI 2) dL_law_698 (by decide) ?_
  refine okN_iadd dL_law_699 ?_
  refine okN_sald dL_law_700 (by omega) (by omega) ?_
  refine call_X4_rounds dL_law_701 lk_L_89 ⟨by decide, by show 64 + 8 * t + 8 ≤ 600000; omega, by show 12374 + 2706 * t + 2706 ≤ 7302250; omega⟩ I.1 (Nat.le_of_ble_eq_true rfl) ?_
  refine p_X4_rounds I h64 (fun h1 f1 I1 => ?_)
  have M1 := M.f f1
  have z1 := f1.1
  dsimp only [m_push]
  obtain ⟨fs, e46⟩ := M1.e46
  refine ok_aload_n dL_law_704 rfl rfl ?_
  refine ok_aload_n dL_law_705 rfl rfl ?_
  refine ok_iload_n dL_law_706 rfl ?_
  refine ok_iconst (v := nI 1) dL_law_707 (by decide) ?_
  refine okN_iadd dL_law_708 ?_
  refine okN_sald dL_law_709 (by omega) (by omega) ?_
  refine ok_aload_n dL_law_710 rfl rfl ?_
  refine ok_iload_n dL_law_711 rfl ?_
  refine ok_iconst (v := nI 2) dL_law_712 (by decide) ?_
  refine okN_iadd dL_law_713 ?_
  refine okN_sald dL_law_714 (by omega) (by omega) ?_
  refine call_X5_rounds dL_law_715 lk_L_92 ⟨by decide, by show 64 + 8 * t + 8 + 0 ≤ 600000; omega, by show 12374 + 2706 * t + 2706 + 0 ≤ 7302250; omega⟩ e46 (Nat.le_of_ble_eq_true rfl) ?_
  refine p_X5_rounds M1 (fun h2 f2 M2 => ?_)
  have z2 := f2.1
  dsimp only [m_push]
  refine ok_icmp_eq (tgt := 1064) dL_law_718 (by decide) (fun _ => ?_) (fun c => absurd rfl c)
  refine ok_widen (uc' := 64 + 8 * (t + 1)) (us' := 12374 + 2706 * (t + 1)) (by omega) (by omega) ?_
  exact k h2 _ (I1.f f2) M2 (by omega)
theorem law_19 (hi : 5 * t + 5 ≤ Ls) (hL : Ls ≤ 2560) (I : IX h S) (M : IM h S) (h64 : 64 ≤ h.1) (k : ∀ h' S', IX h' S' → IM h' S' → 64 ≤ h'.1 → Ok g ML_law (jL g b Ls xs) 1064 [some (.retAddr b), some (.ref 0), some (.ref 46), some (.int (nI (5 * t)))] [] h' (64 + 8 * (t + 1)) (12374 + 2706 * (t + 1))) : Ok g ML_law (jL g b Ls xs) 723 [some (.retAddr b), some (.ref 0), some (.ref 46), some (.int (nI (5 * t)))] [] h (64 + 8 * t) (12374 + 2706 * t) := by
  refine ok_aload_n dL_law_723 rfl rfl ?_
  refine ok_aload_n dL_law_724 rfl rfl ?_
  refine ok_iload_n dL_law_725 rfl ?_
  refine ok_iconst (v := nI 1) dL_law_726 (by decide) ?_
  refine okN_iadd dL_law_727 ?_
  refine okN_sald dL_law_728 (by omega) (by omega) ?_
  refine ok_aload_n dL_law_729 rfl rfl ?_
  refine ok_iload_n dL_law_730 rfl ?_
  refine ok_iconst (v := nI 2) dL_law_731 (by decide) ?_
  refine okN_iadd dL_law_732 ?_
  refine okN_sald dL_law_733 (by omega) (by omega) ?_
  refine call_X4_ring dL_law_734 lk_L_93 ⟨by decide, by show 64 + 8 * t + 8 ≤ 600000; omega, by show 12374 + 2706 * t + 2706 ≤ 7302250; omega⟩ I.1 (Nat.le_of_ble_eq_true rfl) ?_
  refine p_X4_ring I h64 (fun h1 f1 I1 => ?_)
  have M1 := M.f f1
  have z1 := f1.1
  dsimp only [m_push]
  obtain ⟨fs, e46⟩ := M1.e46
  refine ok_aload_n dL_law_737 rfl rfl ?_
  refine ok_aload_n dL_law_738 rfl rfl ?_
  refine ok_iload_n dL_law_739 rfl ?_
  refine ok_iconst (v := nI 1) dL_law_740 (by decide) ?_
  refine okN_iadd dL_law_741 ?_
  refine okN_sald dL_law_742 (by omega) (by omega) ?_
  refine ok_aload_n dL_law_743 rfl rfl ?_
  refine ok_iload_n dL_law_744 rfl ?_
  refine ok_iconst (v := nI 2) dL_law_745 (by decide) ?_
  refine okN_iadd dL_law_746 ?_
  refine okN_sald dL_law_747 (by omega) (by omega) ?_
  refine call_X5_ring dL_law_748 lk_L_96 ⟨by decide, by show 64 + 8 * t + 8 + 0 ≤ 600000; omega, by show 12374 + 2706 * t + 2706 + 0 ≤ 7302250; omega⟩ e46 (Nat.le_of_ble_eq_true rfl) ?_
  refine p_X5_ring M1 (fun h2 f2 M2 => ?_)
  have z2 := f2.1
  dsimp only [m_push]
  refine ok_icmp_eq (tgt := 1064) dL_law_751 (by decide) (fun _ => ?_) (fun c => absurd rfl c)
  refine ok_widen (uc' := 64 + 8 * (t + 1)) (us' := 12374 + 2706 * (t + 1)) (by omega) (by omega) ?_
  exact k h2 _ (I1.f f2) M2 (by omega)
theorem law_20 (hi : 5 * t + 5 ≤ Ls) (hL : Ls ≤ 2560) (I : IX h S) (M : IM h S) (h64 : 64 ≤ h.1) (k : ∀ h' S', IX h' S' → IM h' S' → 64 ≤ h'.1 → Ok g ML_law (jL g b Ls xs) 1064 [some (.retAddr b), some (.ref 0), some (.ref 46), some (.int (nI (5 * t)))] [] h' (64 + 8 * (t + 1)) (12374 + 2706 * (t + 1))) : Ok g ML_law (jL g b Ls xs) 756 [some (.retAddr b), some (.ref 0), some (.ref 46), some (.int (nI (5 * t)))] [] h (64 + 8 * t) (12374 + 2706 * t) := by
  refine ok_aload_n dL_law_756 rfl rfl ?_
  refine ok_aload_n dL_law_757 rfl rfl ?_
  refine ok_iload_n dL_law_758 rfl ?_
  refine ok_iconst (v := nI 1) dL_law_759 (by decide) ?_
  refine okN_iadd dL_law_760 ?_
  refine okN_sald dL_law_761 (by omega) (by omega) ?_
  refine call_X4_from dL_law_762 lk_L_97 ⟨by decide, by show 64 + 8 * t + 8 ≤ 600000; omega, by show 12374 + 2706 * t + 2706 ≤ 7302250; omega⟩ I.1 (Nat.le_of_ble_eq_true rfl) ?_
  refine p_X4_from I h64 (fun h1 f1 I1 => ?_)
  have M1 := M.f f1
  have z1 := f1.1
  dsimp only [m_push]
  obtain ⟨fs, e46⟩ := M1.e46
  refine ok_aload_n dL_law_765 rfl rfl ?_
  refine ok_aload_n dL_law_766 rfl rfl ?_
  refine ok_iload_n dL_law_767 rfl ?_
  refine ok_iconst (v := nI 1) dL_law_768 (by decide) ?_
  refine okN_iadd dL_law_769 ?_
  refine okN_sald dL_law_770 (by omega) (by omega) ?_
  refine call_X5_from dL_law_771 lk_L_100 ⟨by decide, by show 64 + 8 * t + 8 + 0 ≤ 600000; omega, by show 12374 + 2706 * t + 2706 + 0 ≤ 7302250; omega⟩ e46 (Nat.le_of_ble_eq_true rfl) ?_
  refine p_X5_from M1 (fun h2 f2 M2 => ?_)
  have z2 := f2.1
  dsimp only [m_push]
  refine ok_icmp_eq (tgt := 1064) dL_law_774 (by decide) (fun _ => ?_) (fun c => absurd rfl c)
  refine ok_widen (uc' := 64 + 8 * (t + 1)) (us' := 12374 + 2706 * (t + 1)) (by omega) (by omega) ?_
  exact k h2 _ (I1.f f2) M2 (by omega)
theorem law_21 (hi : 5 * t + 5 ≤ Ls) (hL : Ls ≤ 2560) (I : IX h S) (M : IM h S) (h64 : 64 ≤ h.1) (k : ∀ h' S', IX h' S' → IM h' S' → 64 ≤ h'.1 → Ok g ML_law (jL g b Ls xs) 1064 [some (.retAddr b), some (.ref 0), some (.ref 46), some (.int (nI (5 * t)))] [] h' (64 + 8 * (t + 1)) (12374 + 2706 * (t + 1))) : Ok g ML_law (jL g b Ls xs) 779 [some (.retAddr b), some (.ref 0), some (.ref 46), some (.int (nI (5 * t)))] [] h (64 + 8 * t) (12374 + 2706 * t) := by
  refine ok_aload_n dL_law_779 rfl rfl ?_
  refine ok_aload_n dL_law_780 rfl rfl ?_
  refine ok_iload_n dL_law_781 rfl ?_
  refine ok_iconst (v := nI 1) dL_law_782 (by decide) ?_
  refine okN_iadd dL_law_783 ?_
  refine okN_sald dL_law_784 (by omega) (by omega) ?_
  refine ok_aload_n dL_law_785 rfl rfl ?_
  refine ok_iload_n dL_law_786 rfl ?_
  refine ok_iconst (v := nI 2) dL_law_787 (by decide) ?_
  refine okN_iadd dL_law_788 ?_
  refine okN_sald dL_law_789 (by omega) (by omega) ?_
  refine call_X4_fromAt dL_law_790 lk_L_101 ⟨by decide, by show 64 + 8 * t + 8 ≤ 600000; omega, by show 12374 + 2706 * t + 2706 ≤ 7302250; omega⟩ I.1 (Nat.le_of_ble_eq_true rfl) ?_
  refine p_X4_fromAt I h64 (fun h1 f1 I1 => ?_)
  have M1 := M.f f1
  have z1 := f1.1
  dsimp only [m_push]
  obtain ⟨fs, e46⟩ := M1.e46
  refine ok_aload_n dL_law_793 rfl rfl ?_
  refine ok_aload_n dL_law_794 rfl rfl ?_
  refine ok_iload_n dL_law_795 rfl ?_
  refine ok_iconst (v := nI 1) dL_law_796 (by decide) ?_
  refine okN_iadd dL_law_797 ?_
  refine okN_sald dL_law_798 (by omega) (by omega) ?_
  refine ok_aload_n dL_law_799 rfl rfl ?_
  refine ok_iload_n dL_law_800 rfl ?_
  refine ok_iconst (v := nI 2) dL_law_801 (by decide) ?_
  refine okN_iadd dL_law_802 ?_
  refine okN_sald dL_law_803 (by omega) (by omega) ?_
  refine call_X5_fromAt dL_law_804 lk_L_104 ⟨by decide, by show 64 + 8 * t + 8 + 0 ≤ 600000; omega, by show 12374 + 2706 * t + 2706 + 0 ≤ 7302250; omega⟩ e46 (Nat.le_of_ble_eq_true rfl) ?_
  refine p_X5_fromAt M1 (fun h2 f2 M2 => ?_)
  have z2 := f2.1
  dsimp only [m_push]
  refine ok_icmp_eq (tgt := 1064) dL_law_807 (by decide) (fun _ => ?_) (fun c => absurd rfl c)
  refine ok_widen (uc' := 64 + 8 * (t + 1)) (us' := 12374 + 2706 * (t + 1)) (by omega) (by omega) ?_
  exact k h2 _ (I1.f f2) M2 (by omega)
theorem law_22 (hi : 5 * t + 5 ≤ Ls) (hL : Ls ≤ 2560) (I : IX h S) (M : IM h S) (h64 : 64 ≤ h.1) (k : ∀ h' S', IX h' S' → IM h' S' → 64 ≤ h'.1 → Ok g ML_law (jL g b Ls xs) 1064 [some (.retAddr b), some (.ref 0), some (.ref 46), some (.int (nI (5 * t)))] [] h' (64 + 8 * (t + 1)) (12374 + 2706 * (t + 1))) : Ok g ML_law (jL g b Ls xs) 812 [some (.retAddr b), some (.ref 0), some (.ref 46), some (.int (nI (5 * t)))] [] h (64 + 8 * t) (12374 + 2706 * t) := by
  refine ok_aload_n dL_law_812 rfl rfl ?_
  refine ok_aload_n dL_law_813 rfl rfl ?_
  refine ok_iload_n dL_law_814 rfl ?_
  refine ok_iconst (v := nI 1) dL_law_815 (by decide) ?_
  refine okN_iadd dL_law_816 ?_
  refine okN_sald dL_law_817 (by omega) (by omega) ?_
  refine ok_aload_n dL_law_818 rfl rfl ?_
  refine ok_iload_n dL_law_819 rfl ?_
  refine ok_iconst (v := nI 2) dL_law_820 (by decide) ?_
  refine okN_iadd dL_law_821 ?_
  refine okN_sald dL_law_822 (by omega) (by omega) ?_
  refine call_X4_steps dL_law_823 lk_L_105 ⟨by decide, by show 64 + 8 * t + 8 ≤ 600000; omega, by show 12374 + 2706 * t + 2706 ≤ 7302250; omega⟩ I.1 (Nat.le_of_ble_eq_true rfl) ?_
  refine p_X4_steps I h64 (fun h1 f1 I1 => ?_)
  have M1 := M.f f1
  have z1 := f1.1
  dsimp only [m_push]
  obtain ⟨fs, e46⟩ := M1.e46
  refine ok_aload_n dL_law_826 rfl rfl ?_
  refine ok_aload_n dL_law_827 rfl rfl ?_
  refine ok_iload_n dL_law_828 rfl ?_
  refine ok_iconst (v := nI 1) dL_law_829 (by decide) ?_
  refine okN_iadd dL_law_830 ?_
  refine okN_sald dL_law_831 (by omega) (by omega) ?_
  refine ok_aload_n dL_law_832 rfl rfl ?_
  refine ok_iload_n dL_law_833 rfl ?_
  refine ok_iconst (v := nI 2) dL_law_834 (by decide) ?_
  refine okN_iadd dL_law_835 ?_
  refine okN_sald dL_law_836 (by omega) (by omega) ?_
  refine call_X5_steps dL_law_837 lk_L_108 ⟨by decide, by show 64 + 8 * t + 8 + 0 ≤ 600000; omega, by show 12374 + 2706 * t + 2706 + 0 ≤ 7302250; omega⟩ e46 (Nat.le_of_ble_eq_true rfl) ?_
  refine p_X5_steps M1 (fun h2 f2 M2 => ?_)
  have z2 := f2.1
  dsimp only [m_push]
  refine ok_icmp_eq (tgt := 1064) dL_law_840 (by decide) (fun _ => ?_) (fun c => absurd rfl c)
  refine ok_widen (uc' := 64 + 8 * (t + 1)) (us' := 12374 + 2706 * (t + 1)) (by omega) (by omega) ?_
  exact k h2 _ (I1.f f2) M2 (by omega)
theorem law_23 (hi : 5 * t + 5 ≤ Ls) (hL : Ls ≤ 2560) (I : IX h S) (M : IM h S) (h64 : 64 ≤ h.1) (k : ∀ h' S', IX h' S' → IM h' S' → 64 ≤ h'.1 → Ok g ML_law (jL g b Ls xs) 1064 [some (.retAddr b), some (.ref 0), some (.ref 46), some (.int (nI (5 * t)))] [] h' (64 + 8 * (t + 1)) (12374 + 2706 * (t + 1))) : Ok g ML_law (jL g b Ls xs) 845 [some (.retAddr b), some (.ref 0), some (.ref 46), some (.int (nI (5 * t)))] [] h (64 + 8 * t) (12374 + 2706 * t) := by
  refine ok_aload_n dL_law_845 rfl rfl ?_
  refine ok_aload_n dL_law_846 rfl rfl ?_
  refine ok_iload_n dL_law_847 rfl ?_
  refine ok_iconst (v := nI 1) dL_law_848 (by decide) ?_
  refine okN_iadd dL_law_849 ?_
  refine okN_sald dL_law_850 (by omega) (by omega) ?_
  refine ok_aload_n dL_law_851 rfl rfl ?_
  refine ok_iload_n dL_law_852 rfl ?_
  refine ok_iconst (v := nI 2) dL_law_853 (by decide) ?_
  refine okN_iadd dL_law_854 ?_
  refine okN_sald dL_law_855 (by omega) (by omega) ?_
  refine call_X4_ways dL_law_856 lk_L_109 ⟨by decide, by show 64 + 8 * t + 0 ≤ 600000; omega, by show 12374 + 2706 * t + 0 ≤ 7302250; omega⟩ I.1 (Nat.le_of_ble_eq_true rfl) ?_
  refine p_X4_ways I (fun h1 f1 I1 => ?_)
  have M1 := M.f f1
  have z1 := f1.1
  dsimp only [m_push]
  obtain ⟨fs, e46⟩ := M1.e46
  refine ok_aload_n dL_law_859 rfl rfl ?_
  refine ok_aload_n dL_law_860 rfl rfl ?_
  refine ok_iload_n dL_law_861 rfl ?_
  refine ok_iconst (v := nI 1) dL_law_862 (by decide) ?_
  refine okN_iadd dL_law_863 ?_
  refine okN_sald dL_law_864 (by omega) (by omega) ?_
  refine ok_aload_n dL_law_865 rfl rfl ?_
  refine ok_iload_n dL_law_866 rfl ?_
  refine ok_iconst (v := nI 2) dL_law_867 (by decide) ?_
  refine okN_iadd dL_law_868 ?_
  refine okN_sald dL_law_869 (by omega) (by omega) ?_
  refine call_X5_ways dL_law_870 lk_L_112 ⟨by decide, by show 64 + 8 * t + 0 ≤ 600000; omega, by show 12374 + 2706 * t + 0 ≤ 7302250; omega⟩ e46 (Nat.le_of_ble_eq_true rfl) ?_
  refine p_X5_ways M1 (fun h2 f2 M2 => ?_)
  have z2 := f2.1
  dsimp only [m_push]
  refine ok_icmp_eq (tgt := 1064) dL_law_873 (by decide) (fun _ => ?_) (fun c => absurd rfl c)
  refine ok_widen (uc' := 64 + 8 * (t + 1)) (us' := 12374 + 2706 * (t + 1)) (by omega) (by omega) ?_
  exact k h2 _ (I1.f f2) M2 (by omega)
theorem law_24 (hi : 5 * t + 5 ≤ Ls) (hL : Ls ≤ 2560) (I : IX h S) (M : IM h S) (h64 : 64 ≤ h.1) (k : ∀ h' S', IX h' S' → IM h' S' → 64 ≤ h'.1 → Ok g ML_law (jL g b Ls xs) 1064 [some (.retAddr b), some (.ref 0), some (.ref 46), some (.int (nI (5 * t)))] [] h' (64 + 8 * (t + 1)) (12374 + 2706 * (t + 1))) : Ok g ML_law (jL g b Ls xs) 878 [some (.retAddr b), some (.ref 0), some (.ref 46), some (.int (nI (5 * t)))] [] h (64 + 8 * t) (12374 + 2706 * t) := by
  refine ok_aload_n dL_law_878 rfl rfl ?_
  refine ok_aload_n dL_law_879 rfl rfl ?_
  refine ok_iload_n dL_law_880 rfl ?_
  refine ok_iconst (v := nI 1) dL_law_881 (by decide) ?_
  refine okN_iadd dL_law_882 ?_
  refine okN_sald dL_law_883 (by omega) (by omega) ?_
  refine call_X4_reach dL_law_884 lk_L_113 ⟨by decide, by show 64 + 8 * t + 0 ≤ 600000; omega, by show 12374 + 2706 * t + 0 ≤ 7302250; omega⟩ I.1 (Nat.le_of_ble_eq_true rfl) ?_
  refine p_X4_reach I (fun h1 f1 I1 => ?_)
  have M1 := M.f f1
  have z1 := f1.1
  dsimp only [m_push]
  obtain ⟨fs, e46⟩ := M1.e46
  refine ok_aload_n dL_law_887 rfl rfl ?_
  refine ok_aload_n dL_law_888 rfl rfl ?_
  refine ok_iload_n dL_law_889 rfl ?_
  refine ok_iconst (v := nI 1) dL_law_890 (by decide) ?_
  refine okN_iadd dL_law_891 ?_
  refine okN_sald dL_law_892 (by omega) (by omega) ?_
  refine call_X5_reach dL_law_893 lk_L_116 ⟨by decide, by show 64 + 8 * t + 0 ≤ 600000; omega, by show 12374 + 2706 * t + 0 ≤ 7302250; omega⟩ e46 (Nat.le_of_ble_eq_true rfl) ?_
  refine p_X5_reach M1 (fun h2 f2 M2 => ?_)
  have z2 := f2.1
  dsimp only [m_push]
  refine ok_icmp_eq (tgt := 1064) dL_law_896 (by decide) (fun _ => ?_) (fun c => absurd rfl c)
  refine ok_widen (uc' := 64 + 8 * (t + 1)) (us' := 12374 + 2706 * (t + 1)) (by omega) (by omega) ?_
  exact k h2 _ (I1.f f2) M2 (by omega)
theorem law_25 (hi : 5 * t + 5 ≤ Ls) (hL : Ls ≤ 2560) (I : IX h S) (M : IM h S) (h64 : 64 ≤ h.1) (k : ∀ h' S', IX h' S' → IM h' S' → 64 ≤ h'.1 → Ok g ML_law (jL g b Ls xs) 1064 [some (.retAddr b), some (.ref 0), some (.ref 46), some (.int (nI (5 * t)))] [] h' (64 + 8 * (t + 1)) (12374 + 2706 * (t + 1))) : Ok g ML_law (jL g b Ls xs) 901 [some (.retAddr b), some (.ref 0), some (.ref 46), some (.int (nI (5 * t)))] [] h (64 + 8 * t) (12374 + 2706 * t) := by
  refine ok_aload_n dL_law_901 rfl rfl ?_
  refine ok_aload_n dL_law_902 rfl rfl ?_
  refine ok_iload_n dL_law_903 rfl ?_
  refine ok_iconst (v := nI 1) dL_law_904 (by decide) ?_
  refine okN_iadd dL_law_905 ?_
  refine okN_sald dL_law_906 (by omega) (by omega) ?_
  refine ok_aload_n dL_law_907 rfl rfl ?_
  refine ok_iload_n dL_law_908 rfl ?_
  refine ok_iconst (v := nI 2) dL_law_909 (by decide) ?_
  refine okN_iadd dL_law_910 ?_
  refine okN_sald dL_law_911 (by omega) (by omega) ?_
  refine ok_aload_n dL_law_912 rfl rfl ?_
  refine ok_iload_n dL_law_913 rfl ?_
  refine ok_iconst (v := nI 3) dL_law_914 (by decide) ?_
  refine okN_iadd dL_law_915 ?_
  refine okN_sald dL_law_916 (by omega) (by omega) ?_
  refine call_X4_walks dL_law_917 lk_L_117 ⟨by decide, by show 64 + 8 * t + 0 ≤ 600000; omega, by show 12374 + 2706 * t + 0 ≤ 7302250; omega⟩ I.1 (Nat.le_of_ble_eq_true rfl) ?_
  refine p_X4_walks I (fun h1 f1 I1 => ?_)
  have M1 := M.f f1
  have z1 := f1.1
  dsimp only [m_push]
  obtain ⟨fs, e46⟩ := M1.e46
  refine ok_aload_n dL_law_920 rfl rfl ?_
  refine ok_aload_n dL_law_921 rfl rfl ?_
  refine ok_iload_n dL_law_922 rfl ?_
  refine ok_iconst (v := nI 1) dL_law_923 (by decide) ?_
  refine okN_iadd dL_law_924 ?_
  refine okN_sald dL_law_925 (by omega) (by omega) ?_
  refine ok_aload_n dL_law_926 rfl rfl ?_
  refine ok_iload_n dL_law_927 rfl ?_
  refine ok_iconst (v := nI 2) dL_law_928 (by decide) ?_
  refine okN_iadd dL_law_929 ?_
  refine okN_sald dL_law_930 (by omega) (by omega) ?_
  refine ok_aload_n dL_law_931 rfl rfl ?_
  refine ok_iload_n dL_law_932 rfl ?_
  refine ok_iconst (v := nI 3) dL_law_933 (by decide) ?_
  refine okN_iadd dL_law_934 ?_
  refine okN_sald dL_law_935 (by omega) (by omega) ?_
  refine call_X5_walks dL_law_936 lk_L_120 ⟨by decide, by show 64 + 8 * t + 0 ≤ 600000; omega, by show 12374 + 2706 * t + 0 ≤ 7302250; omega⟩ e46 (Nat.le_of_ble_eq_true rfl) ?_
  refine p_X5_walks M1 (fun h2 f2 M2 => ?_)
  have z2 := f2.1
  dsimp only [m_push]
  refine ok_icmp_eq (tgt := 1064) dL_law_939 (by decide) (fun _ => ?_) (fun c => absurd rfl c)
  refine ok_widen (uc' := 64 + 8 * (t + 1)) (us' := 12374 + 2706 * (t + 1)) (by omega) (by omega) ?_
  exact k h2 _ (I1.f f2) M2 (by omega)
theorem law_26 (hi : 5 * t + 5 ≤ Ls) (hL : Ls ≤ 2560) (I : IX h S) (M : IM h S) (h64 : 64 ≤ h.1) (k : ∀ h' S', IX h' S' → IM h' S' → 64 ≤ h'.1 → Ok g ML_law (jL g b Ls xs) 1064 [some (.retAddr b), some (.ref 0), some (.ref 46), some (.int (nI (5 * t)))] [] h' (64 + 8 * (t + 1)) (12374 + 2706 * (t + 1))) : Ok g ML_law (jL g b Ls xs) 944 [some (.retAddr b), some (.ref 0), some (.ref 46), some (.int (nI (5 * t)))] [] h (64 + 8 * t) (12374 + 2706 * t) := by
  refine ok_aload_n dL_law_944 rfl rfl ?_
  refine call_X4_asked dL_law_945 lk_L_121 ⟨by decide, by show 64 + 8 * t + 0 ≤ 600000; omega, by show 12374 + 2706 * t + 0 ≤ 7302250; omega⟩ I.1 (Nat.le_of_ble_eq_true rfl) ?_
  refine p_X4_asked I ?_
  dsimp only [m_push]
  obtain ⟨fs, e46⟩ := M.e46
  refine ok_aload_n dL_law_948 rfl rfl ?_
  refine call_X5_asked dL_law_949 lk_L_125 ⟨by decide, by show 64 + 8 * t + 0 ≤ 600000; omega, by show 12374 + 2706 * t + 0 ≤ 7302250; omega⟩ e46 (Nat.le_of_ble_eq_true rfl) ?_
  refine p_X5_asked M ?_
  dsimp only [m_push]
  refine ok_lcmp dL_law_952 ?_
  refine ok_if_eq (tgt := 1064) dL_law_953 (by decide) (fun _ => ?_) (fun c => absurd ((lg_cmp_eq _ _).mpr rfl) c)
  refine ok_widen (uc' := 64 + 8 * (t + 1)) (us' := 12374 + 2706 * (t + 1)) (by omega) (by omega) ?_
  exact k h S I M h64
theorem law_27 (hi : 5 * t + 5 ≤ Ls) (hL : Ls ≤ 2560) (I : IX h S) (M : IM h S) (h64 : 64 ≤ h.1) (k : ∀ h' S', IX h' S' → IM h' S' → 64 ≤ h'.1 → Ok g ML_law (jL g b Ls xs) 1064 [some (.retAddr b), some (.ref 0), some (.ref 46), some (.int (nI (5 * t)))] [] h' (64 + 8 * (t + 1)) (12374 + 2706 * (t + 1))) : Ok g ML_law (jL g b Ls xs) 958 [some (.retAddr b), some (.ref 0), some (.ref 46), some (.int (nI (5 * t)))] [] h (64 + 8 * t) (12374 + 2706 * t) := by
  refine ok_aload_n dL_law_958 rfl rfl ?_
  refine ok_aload_n dL_law_959 rfl rfl ?_
  refine ok_iload_n dL_law_960 rfl ?_
  refine ok_iconst (v := nI 1) dL_law_961 (by decide) ?_
  refine okN_iadd dL_law_962 ?_
  refine okN_sald dL_law_963 (by omega) (by omega) ?_
  refine ok_aload_n dL_law_964 rfl rfl ?_
  refine ok_iload_n dL_law_965 rfl ?_
  refine ok_iconst (v := nI 2) dL_law_966 (by decide) ?_
  refine okN_iadd dL_law_967 ?_
  refine okN_sald dL_law_968 (by omega) (by omega) ?_
  refine call_X4_told dL_law_969 lk_L_126 ⟨by decide, by show 64 + 8 * t + 0 ≤ 600000; omega, by show 12374 + 2706 * t + 0 ≤ 7302250; omega⟩ I.1 (Nat.le_of_ble_eq_true rfl) ?_
  refine p_X4_told I (fun h1 f1 I1 => ?_)
  have M1 := M.f f1
  have z1 := f1.1
  dsimp only [m_push]
  obtain ⟨fs, e46⟩ := M1.e46
  refine ok_aload_n dL_law_972 rfl rfl ?_
  refine ok_aload_n dL_law_973 rfl rfl ?_
  refine ok_iload_n dL_law_974 rfl ?_
  refine ok_iconst (v := nI 1) dL_law_975 (by decide) ?_
  refine okN_iadd dL_law_976 ?_
  refine okN_sald dL_law_977 (by omega) (by omega) ?_
  refine ok_aload_n dL_law_978 rfl rfl ?_
  refine ok_iload_n dL_law_979 rfl ?_
  refine ok_iconst (v := nI 2) dL_law_980 (by decide) ?_
  refine okN_iadd dL_law_981 ?_
  refine okN_sald dL_law_982 (by omega) (by omega) ?_
  refine call_X5_told dL_law_983 lk_L_129 ⟨by decide, by show 64 + 8 * t + 0 ≤ 600000; omega, by show 12374 + 2706 * t + 0 ≤ 7302250; omega⟩ e46 (Nat.le_of_ble_eq_true rfl) ?_
  refine p_X5_told M1 (fun h2 f2 M2 => ?_)
  have z2 := f2.1
  dsimp only [m_push]
  refine ok_icmp_eq (tgt := 1064) dL_law_986 (by decide) (fun _ => ?_) (fun c => absurd rfl c)
  refine ok_widen (uc' := 64 + 8 * (t + 1)) (us' := 12374 + 2706 * (t + 1)) (by omega) (by omega) ?_
  exact k h2 _ (I1.f f2) M2 (by omega)
theorem law_28 (hi : 5 * t + 5 ≤ Ls) (hL : Ls ≤ 2560) (I : IX h S) (M : IM h S) (h64 : 64 ≤ h.1) (k : ∀ h' S', IX h' S' → IM h' S' → 64 ≤ h'.1 → Ok g ML_law (jL g b Ls xs) 1064 [some (.retAddr b), some (.ref 0), some (.ref 46), some (.int (nI (5 * t)))] [] h' (64 + 8 * (t + 1)) (12374 + 2706 * (t + 1))) : Ok g ML_law (jL g b Ls xs) 991 [some (.retAddr b), some (.ref 0), some (.ref 46), some (.int (nI (5 * t)))] [] h (64 + 8 * t) (12374 + 2706 * t) := by
  refine ok_aload_n dL_law_991 rfl rfl ?_
  refine ok_aload_n dL_law_992 rfl rfl ?_
  refine ok_iload_n dL_law_993 rfl ?_
  refine ok_iconst (v := nI 1) dL_law_994 (by decide) ?_
  refine okN_iadd dL_law_995 ?_
  refine okN_sald dL_law_996 (by omega) (by omega) ?_
  refine call_X4_count dL_law_997 lk_L_130 ⟨by decide, by show 64 + 8 * t + 0 ≤ 600000; omega, by show 12374 + 2706 * t + 0 ≤ 7302250; omega⟩ I.1 (Nat.le_of_ble_eq_true rfl) ?_
  refine p_X4_count I (fun h1 f1 I1 => ?_)
  have M1 := M.f f1
  have z1 := f1.1
  dsimp only [m_push]
  obtain ⟨fs, e46⟩ := M1.e46
  refine ok_aload_n dL_law_1000 rfl rfl ?_
  refine ok_aload_n dL_law_1001 rfl rfl ?_
  refine ok_iload_n dL_law_1002 rfl ?_
  refine ok_iconst (v := nI 1) dL_law_1003 (by decide) ?_
  refine okN_iadd dL_law_1004 ?_
  refine okN_sald dL_law_1005 (by omega) (by omega) ?_
  refine call_X5_count dL_law_1006 lk_L_133 ⟨by decide, by show 64 + 8 * t + 0 ≤ 600000; omega, by show 12374 + 2706 * t + 0 ≤ 7302250; omega⟩ e46 (Nat.le_of_ble_eq_true rfl) ?_
  refine p_X5_count M1 (fun h2 f2 M2 => ?_)
  have z2 := f2.1
  dsimp only [m_push]
  refine ok_icmp_eq (tgt := 1064) dL_law_1009 (by decide) (fun _ => ?_) (fun c => absurd rfl c)
  refine ok_widen (uc' := 64 + 8 * (t + 1)) (us' := 12374 + 2706 * (t + 1)) (by omega) (by omega) ?_
  exact k h2 _ (I1.f f2) M2 (by omega)
theorem law_29 (hi : 5 * t + 5 ≤ Ls) (hL : Ls ≤ 2560) (I : IX h S) (M : IM h S) (h64 : 64 ≤ h.1) (k : ∀ h' S', IX h' S' → IM h' S' → 64 ≤ h'.1 → Ok g ML_law (jL g b Ls xs) 1064 [some (.retAddr b), some (.ref 0), some (.ref 46), some (.int (nI (5 * t)))] [] h' (64 + 8 * (t + 1)) (12374 + 2706 * (t + 1))) : Ok g ML_law (jL g b Ls xs) 1014 [some (.retAddr b), some (.ref 0), some (.ref 46), some (.int (nI (5 * t)))] [] h (64 + 8 * t) (12374 + 2706 * t) := by
  refine ok_aload_n dL_law_1014 rfl rfl ?_
  refine call_X4_finding dL_law_1015 lk_L_134 ⟨by decide, by show 64 + 8 * t + 0 ≤ 600000; omega, by show 12374 + 2706 * t + 0 ≤ 7302250; omega⟩ I.1 (Nat.le_of_ble_eq_true rfl) ?_
  refine p_X4_finding I ?_
  dsimp only [m_push]
  obtain ⟨fs, e46⟩ := M.e46
  refine ok_aload_n dL_law_1018 rfl rfl ?_
  refine call_X5_finding dL_law_1019 lk_L_138 ⟨by decide, by show 64 + 8 * t + 0 ≤ 600000; omega, by show 12374 + 2706 * t + 0 ≤ 7302250; omega⟩ e46 (Nat.le_of_ble_eq_true rfl) ?_
  refine p_X5_finding M ?_
  dsimp only [m_push]
  refine ok_icmp_eq (tgt := 1064) dL_law_1022 (by decide) (fun _ => ?_) (fun c => absurd rfl c)
  refine ok_widen (uc' := 64 + 8 * (t + 1)) (us' := 12374 + 2706 * (t + 1)) (by omega) (by omega) ?_
  exact k h S I M h64
theorem law_30 (hi : 5 * t + 5 ≤ Ls) (hL : Ls ≤ 2560) (I : IX h S) (M : IM h S) (h64 : 64 ≤ h.1) (k : ∀ h' S', IX h' S' → IM h' S' → 64 ≤ h'.1 → Ok g ML_law (jL g b Ls xs) 1064 [some (.retAddr b), some (.ref 0), some (.ref 46), some (.int (nI (5 * t)))] [] h' (64 + 8 * (t + 1)) (12374 + 2706 * (t + 1))) : Ok g ML_law (jL g b Ls xs) 1027 [some (.retAddr b), some (.ref 0), some (.ref 46), some (.int (nI (5 * t)))] [] h (64 + 8 * t) (12374 + 2706 * t) := by
  refine ok_aload_n dL_law_1027 rfl rfl ?_
  refine ok_aload_n dL_law_1028 rfl rfl ?_
  refine ok_iload_n dL_law_1029 rfl ?_
  refine ok_iconst (v := nI 1) dL_law_1030 (by decide) ?_
  refine okN_iadd dL_law_1031 ?_
  refine okN_sald dL_law_1032 (by omega) (by omega) ?_
  refine call_X4_findings dL_law_1033 lk_L_139 ⟨by decide, by show 64 + 8 * t + 0 ≤ 600000; omega, by show 12374 + 2706 * t + 0 ≤ 7302250; omega⟩ I.1 (Nat.le_of_ble_eq_true rfl) ?_
  refine p_X4_findings I (fun h1 f1 I1 => ?_)
  have M1 := M.f f1
  have z1 := f1.1
  dsimp only [m_push]
  obtain ⟨fs, e46⟩ := M1.e46
  refine ok_aload_n dL_law_1036 rfl rfl ?_
  refine ok_aload_n dL_law_1037 rfl rfl ?_
  refine ok_iload_n dL_law_1038 rfl ?_
  refine ok_iconst (v := nI 1) dL_law_1039 (by decide) ?_
  refine okN_iadd dL_law_1040 ?_
  refine okN_sald dL_law_1041 (by omega) (by omega) ?_
  refine call_X5_findings dL_law_1042 lk_L_142 ⟨by decide, by show 64 + 8 * t + 0 ≤ 600000; omega, by show 12374 + 2706 * t + 0 ≤ 7302250; omega⟩ e46 (Nat.le_of_ble_eq_true rfl) ?_
  refine p_X5_findings M1 ?_
  dsimp only [m_push]
  refine ok_icmp_eq (tgt := 1064) dL_law_1045 (by decide) (fun _ => ?_) (fun c => absurd rfl c)
  refine ok_widen (uc' := 64 + 8 * (t + 1)) (us' := 12374 + 2706 * (t + 1)) (by omega) (by omega) ?_
  exact k h1 S (by rw [findings_2] at I1; exact I1) M1 (by omega)
theorem law_31 (hi : 5 * t + 5 ≤ Ls) (hL : Ls ≤ 2560) (I : IX h S) (M : IM h S) (h64 : 64 ≤ h.1) (k : ∀ h' S', IX h' S' → IM h' S' → 64 ≤ h'.1 → Ok g ML_law (jL g b Ls xs) 1064 [some (.retAddr b), some (.ref 0), some (.ref 46), some (.int (nI (5 * t)))] [] h' (64 + 8 * (t + 1)) (12374 + 2706 * (t + 1))) : Ok g ML_law (jL g b Ls xs) 1050 [some (.retAddr b), some (.ref 0), some (.ref 46), some (.int (nI (5 * t)))] [] h (64 + 8 * t) (12374 + 2706 * t) := by
  refine ok_aload_n dL_law_1050 rfl rfl ?_
  refine call_X4_digest dL_law_1051 lk_L_143 ⟨by decide, by show 64 + 8 * t + 0 ≤ 600000; omega, by show 12374 + 2706 * t + 0 ≤ 7302250; omega⟩ I.1 (Nat.le_of_ble_eq_true rfl) ?_
  refine p_X4_digest I ?_
  dsimp only [m_push]
  obtain ⟨fs, e46⟩ := M.e46
  refine ok_aload_n dL_law_1054 rfl rfl ?_
  refine call_X5_digest dL_law_1055 lk_L_146 ⟨by decide, by show 64 + 8 * t + 0 ≤ 600000; omega, by show 12374 + 2706 * t + 0 ≤ 7302250; omega⟩ e46 (Nat.le_of_ble_eq_true rfl) ?_
  refine p_X5_digest M ?_
  dsimp only [m_push]
  refine ok_lcmp dL_law_1058 ?_
  refine ok_if_eq (tgt := 1064) dL_law_1059 (by decide) (fun _ => ?_) (fun c => absurd ((lg_cmp_eq _ _).mpr rfl) c)
  refine ok_widen (uc' := 64 + 8 * (t + 1)) (us' := 12374 + 2706 * (t + 1)) (by omega) (by omega) ?_
  exact k h S I M h64
end LAWB
