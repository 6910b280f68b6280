/-! ===== the law: its loop ===== -/
theorem law_case_0 {g : ad_G} {d : Nat} {b n0 : Nat} {xs : Nat → Int32} {ZL : Nat → List Value → ad_Mem → Prop} {σ : ad_Mem} {C : ad_C7} {i : Nat} (hn : n0 ≤ 2048) (hi : (i : Int) + 4 ≤ (n0 : Int)) (h80d : 80 ≤ d) (h7 : ad_c7 σ C) (h8 : ad_c8 σ C) (hnext : ∀ (C1 : ad_C7) (s1 : ad_Mem), ad_c7 s1 C1 → ad_c8 s1 C1 → ad_RL g mL_law d (al_X g b n0 xs) ZL 1145 [some (.ref b), some (ad_rf g 7 0), some (ad_rf g 8 0), some (ad_iv (i : Int))] [] s1) : ad_RL g mL_law d (al_X g b n0 xs) ZL 188 [some (.ref b), some (ad_rf g 7 0), some (ad_rf g 8 0), some (ad_iv (i : Int))] [] σ := by
  refine al_aload_n dL_law_188 rfl ?_
  refine al_aload_n dL_law_189 rfl ?_
  refine al_iload_n dL_law_190 rfl ?_
  refine al_iconst dL_law_191 ?_
  refine al_iadd dL_law_192 ?_
  refine al_sld dL_law_193 (by omega) (by omega) hn ?_
  refine al_cv1q rfl cl_L_13 dL_law_194 (c_X7_letter h7 (al_rng _) (by omega)) (by omega) (by show _ < 1; omega) (Nat.le_of_ble_eq_true rfl) (fun x1 s1 q1 => ?_)
  obtain ⟨rfl, c1, f1⟩ := q1
  refine al_aload_n dL_law_197 rfl ?_
  refine al_aload_n dL_law_198 rfl ?_
  refine al_iload_n dL_law_199 rfl ?_
  refine al_iconst dL_law_200 ?_
  refine al_iadd dL_law_201 ?_
  refine al_sld dL_law_202 (by omega) (by omega) hn ?_
  refine al_cv1q rfl cl_L_17 dL_law_203 (c_X8_letter (al_rng _) (ad_c8_f7 h8 f1) (by omega)) (by omega) (by show _ < 1; omega) (Nat.le_of_ble_eq_true rfl) (fun x2 s2 q2 => ?_)
  obtain ⟨rfl, c2, f2⟩ := q2
  refine al_icmp_same 1145 dL_law_206 (by decide) ?_
  exact hnext _ _ (ad_c7_f8 c1 f2) c2
theorem law_case_1 {g : ad_G} {d : Nat} {b n0 : Nat} {xs : Nat → Int32} {ZL : Nat → List Value → ad_Mem → Prop} {σ : ad_Mem} {C : ad_C7} {i : Nat} (hn : n0 ≤ 2048) (hi : (i : Int) + 4 ≤ (n0 : Int)) (h80d : 80 ≤ d) (h7 : ad_c7 σ C) (h8 : ad_c8 σ C) (hnext : ∀ (C1 : ad_C7) (s1 : ad_Mem), ad_c7 s1 C1 → ad_c8 s1 C1 → ad_RL g mL_law d (al_X g b n0 xs) ZL 1145 [some (.ref b), some (ad_rf g 7 0), some (ad_rf g 8 0), some (ad_iv (i : Int))] [] s1) : ad_RL g mL_law d (al_X g b n0 xs) ZL 211 [some (.ref b), some (ad_rf g 7 0), some (ad_rf g 8 0), some (ad_iv (i : Int))] [] σ := by
  refine al_aload_n dL_law_211 rfl ?_
  refine al_cv0q rfl cl_L_18 dL_law_212 (c_X7_archive h7 (by omega)) (by omega) (by show _ < 1; omega) (Nat.le_of_ble_eq_true rfl) (fun x1 s1 q1 => ?_)
  obtain ⟨rfl, c1, f1⟩ := q1
  refine al_aload_n dL_law_215 rfl ?_
  refine al_cv0q rfl cl_L_22 dL_law_216 (c_X8_archive (ad_c8_f7 h8 f1) (by omega)) (by omega) (by show _ < 1; omega) (Nat.le_of_ble_eq_true rfl) (fun x2 s2 q2 => ?_)
  obtain ⟨rfl, c2, f2⟩ := q2
  refine al_icmp_same 1145 dL_law_219 (by decide) ?_
  exact hnext _ _ (ad_c7_f8 c1 f2) c2
theorem law_case_2 {g : ad_G} {d : Nat} {b n0 : Nat} {xs : Nat → Int32} {ZL : Nat → List Value → ad_Mem → Prop} {σ : ad_Mem} {C : ad_C7} {i : Nat} (hn : n0 ≤ 2048) (hi : (i : Int) + 4 ≤ (n0 : Int)) (h80d : 80 ≤ d) (h7 : ad_c7 σ C) (h8 : ad_c8 σ C) (hnext : ∀ (C1 : ad_C7) (s1 : ad_Mem), ad_c7 s1 C1 → ad_c8 s1 C1 → ad_RL g mL_law d (al_X g b n0 xs) ZL 1145 [some (.ref b), some (ad_rf g 7 0), some (ad_rf g 8 0), some (ad_iv (i : Int))] [] s1) : ad_RL g mL_law d (al_X g b n0 xs) ZL 224 [some (.ref b), some (ad_rf g 7 0), some (ad_rf g 8 0), some (ad_iv (i : Int))] [] σ := by
  refine al_aload_n dL_law_224 rfl ?_
  refine al_aload_n dL_law_225 rfl ?_
  refine al_iload_n dL_law_226 rfl ?_
  refine al_iconst dL_law_227 ?_
  refine al_iadd dL_law_228 ?_
  refine al_sld dL_law_229 (by omega) (by omega) hn ?_
  refine al_aload_n dL_law_230 rfl ?_
  refine al_iload_n dL_law_231 rfl ?_
  refine al_iconst dL_law_232 ?_
  refine al_iadd dL_law_233 ?_
  refine al_sld dL_law_234 (by omega) (by omega) hn ?_
  refine al_aload_n dL_law_235 rfl ?_
  refine al_iload_n dL_law_236 rfl ?_
  refine al_iconst dL_law_237 ?_
  refine al_iadd dL_law_238 ?_
  refine al_sld dL_law_239 (by omega) (by omega) hn ?_
  refine al_cv3q rfl cl_L_23 dL_law_240 (c_X7_edits h7 (al_rng _) (al_rng _) (al_rng _) (by omega)) (by omega) (by show _ < 1; omega) (Nat.le_of_ble_eq_true rfl) (fun x1 s1 q1 => ?_)
  obtain ⟨rfl, c1, f1⟩ := q1
  refine al_aload_n dL_law_243 rfl ?_
  refine al_aload_n dL_law_244 rfl ?_
  refine al_iload_n dL_law_245 rfl ?_
  refine al_iconst dL_law_246 ?_
  refine al_iadd dL_law_247 ?_
  refine al_sld dL_law_248 (by omega) (by omega) hn ?_
  refine al_aload_n dL_law_249 rfl ?_
  refine al_iload_n dL_law_250 rfl ?_
  refine al_iconst dL_law_251 ?_
  refine al_iadd dL_law_252 ?_
  refine al_sld dL_law_253 (by omega) (by omega) hn ?_
  refine al_aload_n dL_law_254 rfl ?_
  refine al_iload_n dL_law_255 rfl ?_
  refine al_iconst dL_law_256 ?_
  refine al_iadd dL_law_257 ?_
  refine al_sld dL_law_258 (by omega) (by omega) hn ?_
  refine al_cv3q rfl cl_L_27 dL_law_259 (c_X8_edits (al_rng _) (al_rng _) (al_rng _) (ad_c8_f7 h8 f1) (by omega)) (by omega) (by show _ < 1; omega) (Nat.le_of_ble_eq_true rfl) (fun x2 s2 q2 => ?_)
  obtain ⟨rfl, c2, f2⟩ := q2
  refine al_icmp_same 1145 dL_law_262 (by decide) ?_
  exact hnext _ _ (ad_c7_f8 c1 f2) c2
theorem law_case_3 {g : ad_G} {d : Nat} {b n0 : Nat} {xs : Nat → Int32} {ZL : Nat → List Value → ad_Mem → Prop} {σ : ad_Mem} {C : ad_C7} {i : Nat} (hn : n0 ≤ 2048) (hi : (i : Int) + 4 ≤ (n0 : Int)) (h80d : 80 ≤ d) (h7 : ad_c7 σ C) (h8 : ad_c8 σ C) (hnext : ∀ (C1 : ad_C7) (s1 : ad_Mem), ad_c7 s1 C1 → ad_c8 s1 C1 → ad_RL g mL_law d (al_X g b n0 xs) ZL 1145 [some (.ref b), some (ad_rf g 7 0), some (ad_rf g 8 0), some (ad_iv (i : Int))] [] s1) : ad_RL g mL_law d (al_X g b n0 xs) ZL 267 [some (.ref b), some (ad_rf g 7 0), some (ad_rf g 8 0), some (ad_iv (i : Int))] [] σ := by
  refine al_aload_n dL_law_267 rfl ?_
  refine al_aload_n dL_law_268 rfl ?_
  refine al_iload_n dL_law_269 rfl ?_
  refine al_iconst dL_law_270 ?_
  refine al_iadd dL_law_271 ?_
  refine al_sld dL_law_272 (by omega) (by omega) hn ?_
  refine al_aload_n dL_law_273 rfl ?_
  refine al_iload_n dL_law_274 rfl ?_
  refine al_iconst dL_law_275 ?_
  refine al_iadd dL_law_276 ?_
  refine al_sld dL_law_277 (by omega) (by omega) hn ?_
  refine al_cv2q rfl cl_L_28 dL_law_278 (c_X7_merges h7 (al_rng _) (al_rng _) (by omega)) (by omega) (by show _ < 1; omega) (Nat.le_of_ble_eq_true rfl) (fun x1 s1 q1 => ?_)
  obtain ⟨rfl, c1, f1⟩ := q1
  refine al_aload_n dL_law_281 rfl ?_
  refine al_aload_n dL_law_282 rfl ?_
  refine al_iload_n dL_law_283 rfl ?_
  refine al_iconst dL_law_284 ?_
  refine al_iadd dL_law_285 ?_
  refine al_sld dL_law_286 (by omega) (by omega) hn ?_
  refine al_aload_n dL_law_287 rfl ?_
  refine al_iload_n dL_law_288 rfl ?_
  refine al_iconst dL_law_289 ?_
  refine al_iadd dL_law_290 ?_
  refine al_sld dL_law_291 (by omega) (by omega) hn ?_
  refine al_cv2q rfl cl_L_32 dL_law_292 (c_X8_merges (al_rng _) (al_rng _) (ad_c8_f7 h8 f1) (by omega)) (by omega) (by show _ < 1; omega) (Nat.le_of_ble_eq_true rfl) (fun x2 s2 q2 => ?_)
  obtain ⟨rfl, c2, f2⟩ := q2
  refine al_icmp_same 1145 dL_law_295 (by decide) ?_
  exact hnext _ _ (ad_c7_f8 c1 f2) c2
theorem law_case_4 {g : ad_G} {d : Nat} {b n0 : Nat} {xs : Nat → Int32} {ZL : Nat → List Value → ad_Mem → Prop} {σ : ad_Mem} {C : ad_C7} {i : Nat} (hn : n0 ≤ 2048) (hi : (i : Int) + 4 ≤ (n0 : Int)) (h80d : 80 ≤ d) (h7 : ad_c7 σ C) (h8 : ad_c8 σ C) (hnext : ∀ (C1 : ad_C7) (s1 : ad_Mem), ad_c7 s1 C1 → ad_c8 s1 C1 → ad_RL g mL_law d (al_X g b n0 xs) ZL 1145 [some (.ref b), some (ad_rf g 7 0), some (ad_rf g 8 0), some (ad_iv (i : Int))] [] s1) : ad_RL g mL_law d (al_X g b n0 xs) ZL 300 [some (.ref b), some (ad_rf g 7 0), some (ad_rf g 8 0), some (ad_iv (i : Int))] [] σ := by
  refine al_aload_n dL_law_300 rfl ?_
  refine al_aload_n dL_law_301 rfl ?_
  refine al_iload_n dL_law_302 rfl ?_
  refine al_iconst dL_law_303 ?_
  refine al_iadd dL_law_304 ?_
  refine al_sld dL_law_305 (by omega) (by omega) hn ?_
  refine al_aload_n dL_law_306 rfl ?_
  refine al_iload_n dL_law_307 rfl ?_
  refine al_iconst dL_law_308 ?_
  refine al_iadd dL_law_309 ?_
  refine al_sld dL_law_310 (by omega) (by omega) hn ?_
  refine al_cv2q rfl cl_L_33 dL_law_311 (c_X7_heads h7 (al_rng _) (al_rng _) (by omega)) (by omega) (by show _ < 1; omega) (Nat.le_of_ble_eq_true rfl) (fun x1 s1 q1 => ?_)
  obtain ⟨rfl, c1, f1⟩ := q1
  refine al_aload_n dL_law_314 rfl ?_
  refine al_aload_n dL_law_315 rfl ?_
  refine al_iload_n dL_law_316 rfl ?_
  refine al_iconst dL_law_317 ?_
  refine al_iadd dL_law_318 ?_
  refine al_sld dL_law_319 (by omega) (by omega) hn ?_
  refine al_aload_n dL_law_320 rfl ?_
  refine al_iload_n dL_law_321 rfl ?_
  refine al_iconst dL_law_322 ?_
  refine al_iadd dL_law_323 ?_
  refine al_sld dL_law_324 (by omega) (by omega) hn ?_
  refine al_cv2q rfl cl_L_36 dL_law_325 (c_X8_heads (al_rng _) (al_rng _) (ad_c8_f7 h8 f1) (by omega)) (by omega) (by show _ < 1; omega) (Nat.le_of_ble_eq_true rfl) (fun x2 s2 q2 => ?_)
  obtain ⟨rfl, c2, f2⟩ := q2
  refine al_icmp_same 1145 dL_law_328 (by decide) ?_
  exact hnext _ _ (ad_c7_f8 c1 f2) c2
theorem law_case_5 {g : ad_G} {d : Nat} {b n0 : Nat} {xs : Nat → Int32} {ZL : Nat → List Value → ad_Mem → Prop} {σ : ad_Mem} {C : ad_C7} {i : Nat} (hn : n0 ≤ 2048) (hi : (i : Int) + 4 ≤ (n0 : Int)) (h80d : 80 ≤ d) (h7 : ad_c7 σ C) (h8 : ad_c8 σ C) (hnext : ∀ (C1 : ad_C7) (s1 : ad_Mem), ad_c7 s1 C1 → ad_c8 s1 C1 → ad_RL g mL_law d (al_X g b n0 xs) ZL 1145 [some (.ref b), some (ad_rf g 7 0), some (ad_rf g 8 0), some (ad_iv (i : Int))] [] s1) : ad_RL g mL_law d (al_X g b n0 xs) ZL 333 [some (.ref b), some (ad_rf g 7 0), some (ad_rf g 8 0), some (ad_iv (i : Int))] [] σ := by
  refine al_aload_n dL_law_333 rfl ?_
  refine al_aload_n dL_law_334 rfl ?_
  refine al_iload_n dL_law_335 rfl ?_
  refine al_iconst dL_law_336 ?_
  refine al_iadd dL_law_337 ?_
  refine al_sld dL_law_338 (by omega) (by omega) hn ?_
  refine al_aload_n dL_law_339 rfl ?_
  refine al_iload_n dL_law_340 rfl ?_
  refine al_iconst dL_law_341 ?_
  refine al_iadd dL_law_342 ?_
  refine al_sld dL_law_343 (by omega) (by omega) hn ?_
  refine al_cv2q rfl cl_L_37 dL_law_344 (c_X7_kind h7 (al_rng _) (al_rng _) (by omega)) (by omega) (by show _ < 1; omega) (Nat.le_of_ble_eq_true rfl) (fun x1 s1 q1 => ?_)
  obtain ⟨rfl, c1, f1⟩ := q1
  refine al_aload_n dL_law_347 rfl ?_
  refine al_aload_n dL_law_348 rfl ?_
  refine al_iload_n dL_law_349 rfl ?_
  refine al_iconst dL_law_350 ?_
  refine al_iadd dL_law_351 ?_
  refine al_sld dL_law_352 (by omega) (by omega) hn ?_
  refine al_aload_n dL_law_353 rfl ?_
  refine al_iload_n dL_law_354 rfl ?_
  refine al_iconst dL_law_355 ?_
  refine al_iadd dL_law_356 ?_
  refine al_sld dL_law_357 (by omega) (by omega) hn ?_
  refine al_cv2q rfl cl_L_40 dL_law_358 (c_X8_kind (al_rng _) (al_rng _) (ad_c8_f7 h8 f1) (by omega)) (by omega) (by show _ < 1; omega) (Nat.le_of_ble_eq_true rfl) (fun x2 s2 q2 => ?_)
  obtain ⟨rfl, c2, f2⟩ := q2
  refine al_icmp_same 1145 dL_law_361 (by decide) ?_
  exact hnext _ _ (ad_c7_f8 c1 f2) c2
theorem law_case_6 {g : ad_G} {d : Nat} {b n0 : Nat} {xs : Nat → Int32} {ZL : Nat → List Value → ad_Mem → Prop} {σ : ad_Mem} {C : ad_C7} {i : Nat} (hn : n0 ≤ 2048) (hi : (i : Int) + 4 ≤ (n0 : Int)) (h80d : 80 ≤ d) (h7 : ad_c7 σ C) (h8 : ad_c8 σ C) (hnext : ∀ (C1 : ad_C7) (s1 : ad_Mem), ad_c7 s1 C1 → ad_c8 s1 C1 → ad_RL g mL_law d (al_X g b n0 xs) ZL 1145 [some (.ref b), some (ad_rf g 7 0), some (ad_rf g 8 0), some (ad_iv (i : Int))] [] s1) : ad_RL g mL_law d (al_X g b n0 xs) ZL 366 [some (.ref b), some (ad_rf g 7 0), some (ad_rf g 8 0), some (ad_iv (i : Int))] [] σ := by
  refine al_aload_n dL_law_366 rfl ?_
  refine al_aload_n dL_law_367 rfl ?_
  refine al_iload_n dL_law_368 rfl ?_
  refine al_iconst dL_law_369 ?_
  refine al_iadd dL_law_370 ?_
  refine al_sld dL_law_371 (by omega) (by omega) hn ?_
  refine al_cv1q rfl cl_L_41 dL_law_372 (c_X7_bound h7 (al_rng _) (by omega)) (by omega) (by show _ < 1; omega) (Nat.le_of_ble_eq_true rfl) (fun x1 s1 q1 => ?_)
  obtain ⟨rfl, c1, f1⟩ := q1
  refine al_aload_n dL_law_375 rfl ?_
  refine al_aload_n dL_law_376 rfl ?_
  refine al_iload_n dL_law_377 rfl ?_
  refine al_iconst dL_law_378 ?_
  refine al_iadd dL_law_379 ?_
  refine al_sld dL_law_380 (by omega) (by omega) hn ?_
  refine al_cv1q rfl cl_L_44 dL_law_381 (c_X8_bound (al_rng _) (ad_c8_f7 h8 f1) (by omega)) (by omega) (by show _ < 1; omega) (Nat.le_of_ble_eq_true rfl) (fun x2 s2 q2 => ?_)
  obtain ⟨rfl, c2, f2⟩ := q2
  refine al_icmp_same 1145 dL_law_384 (by decide) ?_
  exact hnext _ _ (ad_c7_f8 c1 f2) c2
theorem law_case_7 {g : ad_G} {d : Nat} {b n0 : Nat} {xs : Nat → Int32} {ZL : Nat → List Value → ad_Mem → Prop} {σ : ad_Mem} {C : ad_C7} {i : Nat} (hn : n0 ≤ 2048) (hi : (i : Int) + 4 ≤ (n0 : Int)) (h80d : 80 ≤ d) (h7 : ad_c7 σ C) (h8 : ad_c8 σ C) (hnext : ∀ (C1 : ad_C7) (s1 : ad_Mem), ad_c7 s1 C1 → ad_c8 s1 C1 → ad_RL g mL_law d (al_X g b n0 xs) ZL 1145 [some (.ref b), some (ad_rf g 7 0), some (ad_rf g 8 0), some (ad_iv (i : Int))] [] s1) : ad_RL g mL_law d (al_X g b n0 xs) ZL 389 [some (.ref b), some (ad_rf g 7 0), some (ad_rf g 8 0), some (ad_iv (i : Int))] [] σ := by
  refine al_aload_n dL_law_389 rfl ?_
  refine al_cv0q rfl cl_L_45 dL_law_390 (c_X7_repack h7 (by omega)) (by omega) (by show _ < 1; omega) (Nat.le_of_ble_eq_true rfl) (fun x1 s1 q1 => ?_)
  obtain ⟨rfl, c1, f1⟩ := q1
  refine al_aload_n dL_law_393 rfl ?_
  refine al_cv0q rfl cl_L_48 dL_law_394 (c_X8_repack (ad_c8_f7 h8 f1) (by omega)) (by omega) (by show _ < 1; omega) (Nat.le_of_ble_eq_true rfl) (fun x2 s2 q2 => ?_)
  obtain ⟨rfl, c2, f2⟩ := q2
  refine al_icmp_same 1145 dL_law_397 (by decide) ?_
  exact hnext _ _ (ad_c7_f8 c1 f2) c2
theorem law_case_8 {g : ad_G} {d : Nat} {b n0 : Nat} {xs : Nat → Int32} {ZL : Nat → List Value → ad_Mem → Prop} {σ : ad_Mem} {C : ad_C7} {i : Nat} (hn : n0 ≤ 2048) (hi : (i : Int) + 4 ≤ (n0 : Int)) (h80d : 80 ≤ d) (h7 : ad_c7 σ C) (h8 : ad_c8 σ C) (hnext : ∀ (C1 : ad_C7) (s1 : ad_Mem), ad_c7 s1 C1 → ad_c8 s1 C1 → ad_RL g mL_law d (al_X g b n0 xs) ZL 1145 [some (.ref b), some (ad_rf g 7 0), some (ad_rf g 8 0), some (ad_iv (i : Int))] [] s1) : ad_RL g mL_law d (al_X g b n0 xs) ZL 402 [some (.ref b), some (ad_rf g 7 0), some (ad_rf g 8 0), some (ad_iv (i : Int))] [] σ := by
  refine al_aload_n dL_law_402 rfl ?_
  refine al_cv0q rfl cl_L_49 dL_law_403 (c_X7_collect h7 (by omega)) (by omega) (by show _ < 1; omega) (Nat.le_of_ble_eq_true rfl) (fun x1 s1 q1 => ?_)
  obtain ⟨rfl, c1, f1⟩ := q1
  refine al_aload_n dL_law_406 rfl ?_
  refine al_cv0q rfl cl_L_52 dL_law_407 (c_X8_collect (ad_c8_f7 h8 f1) (by omega)) (by omega) (by show _ < 1; omega) (Nat.le_of_ble_eq_true rfl) (fun x2 s2 q2 => ?_)
  obtain ⟨rfl, c2, f2⟩ := q2
  refine al_icmp_same 1145 dL_law_410 (by decide) ?_
  exact hnext _ _ (ad_c7_f8 c1 f2) c2
theorem law_case_9 {g : ad_G} {d : Nat} {b n0 : Nat} {xs : Nat → Int32} {ZL : Nat → List Value → ad_Mem → Prop} {σ : ad_Mem} {C : ad_C7} {i : Nat} (hn : n0 ≤ 2048) (hi : (i : Int) + 4 ≤ (n0 : Int)) (h80d : 80 ≤ d) (h7 : ad_c7 σ C) (h8 : ad_c8 σ C) (hnext : ∀ (C1 : ad_C7) (s1 : ad_Mem), ad_c7 s1 C1 → ad_c8 s1 C1 → ad_RL g mL_law d (al_X g b n0 xs) ZL 1145 [some (.ref b), some (ad_rf g 7 0), some (ad_rf g 8 0), some (ad_iv (i : Int))] [] s1) : ad_RL g mL_law d (al_X g b n0 xs) ZL 415 [some (.ref b), some (ad_rf g 7 0), some (ad_rf g 8 0), some (ad_iv (i : Int))] [] σ := by
  refine al_aload_n dL_law_415 rfl ?_
  refine al_aload_n dL_law_416 rfl ?_
  refine al_iload_n dL_law_417 rfl ?_
  refine al_iconst dL_law_418 ?_
  refine al_iadd dL_law_419 ?_
  refine al_sld dL_law_420 (by omega) (by omega) hn ?_
  refine al_aload_n dL_law_421 rfl ?_
  refine al_iload_n dL_law_422 rfl ?_
  refine al_iconst dL_law_423 ?_
  refine al_iadd dL_law_424 ?_
  refine al_sld dL_law_425 (by omega) (by omega) hn ?_
  refine al_aload_n dL_law_426 rfl ?_
  refine al_iload_n dL_law_427 rfl ?_
  refine al_iconst dL_law_428 ?_
  refine al_iadd dL_law_429 ?_
  refine al_sld dL_law_430 (by omega) (by omega) hn ?_
  refine al_cv3q rfl cl_L_53 dL_law_431 (c_X7_damages h7 (al_rng _) (al_rng _) (al_rng _) (by omega)) (by omega) (by show _ < 1; omega) (Nat.le_of_ble_eq_true rfl) (fun x1 s1 q1 => ?_)
  obtain ⟨rfl, c1, f1⟩ := q1
  refine al_aload_n dL_law_434 rfl ?_
  refine al_aload_n dL_law_435 rfl ?_
  refine al_iload_n dL_law_436 rfl ?_
  refine al_iconst dL_law_437 ?_
  refine al_iadd dL_law_438 ?_
  refine al_sld dL_law_439 (by omega) (by omega) hn ?_
  refine al_aload_n dL_law_440 rfl ?_
  refine al_iload_n dL_law_441 rfl ?_
  refine al_iconst dL_law_442 ?_
  refine al_iadd dL_law_443 ?_
  refine al_sld dL_law_444 (by omega) (by omega) hn ?_
  refine al_aload_n dL_law_445 rfl ?_
  refine al_iload_n dL_law_446 rfl ?_
  refine al_iconst dL_law_447 ?_
  refine al_iadd dL_law_448 ?_
  refine al_sld dL_law_449 (by omega) (by omega) hn ?_
  refine al_cv3q rfl cl_L_56 dL_law_450 (c_X8_damages (al_rng _) (al_rng _) (al_rng _) (ad_c8_f7 h8 f1) (by omega)) (by omega) (by show _ < 1; omega) (Nat.le_of_ble_eq_true rfl) (fun x2 s2 q2 => ?_)
  obtain ⟨rfl, c2, f2⟩ := q2
  refine al_icmp_same 1145 dL_law_453 (by decide) ?_
  exact hnext _ _ (ad_c7_f8 c1 f2) c2
theorem law_case_10 {g : ad_G} {d : Nat} {b n0 : Nat} {xs : Nat → Int32} {ZL : Nat → List Value → ad_Mem → Prop} {σ : ad_Mem} {C : ad_C7} {i : Nat} (hn : n0 ≤ 2048) (hi : (i : Int) + 4 ≤ (n0 : Int)) (h80d : 80 ≤ d) (h7 : ad_c7 σ C) (h8 : ad_c8 σ C) (hnext : ∀ (C1 : ad_C7) (s1 : ad_Mem), ad_c7 s1 C1 → ad_c8 s1 C1 → ad_RL g mL_law d (al_X g b n0 xs) ZL 1145 [some (.ref b), some (ad_rf g 7 0), some (ad_rf g 8 0), some (ad_iv (i : Int))] [] s1) : ad_RL g mL_law d (al_X g b n0 xs) ZL 458 [some (.ref b), some (ad_rf g 7 0), some (ad_rf g 8 0), some (ad_iv (i : Int))] [] σ := by
  refine al_aload_n dL_law_458 rfl ?_
  refine al_aload_n dL_law_459 rfl ?_
  refine al_iload_n dL_law_460 rfl ?_
  refine al_iconst dL_law_461 ?_
  refine al_iadd dL_law_462 ?_
  refine al_sld dL_law_463 (by omega) (by omega) hn ?_
  refine al_aload_n dL_law_464 rfl ?_
  refine al_iload_n dL_law_465 rfl ?_
  refine al_iconst dL_law_466 ?_
  refine al_iadd dL_law_467 ?_
  refine al_sld dL_law_468 (by omega) (by omega) hn ?_
  refine al_cv2q rfl cl_L_57 dL_law_469 (c_X7_version h7 (al_rng _) (al_rng _) (by omega)) (by omega) (by show _ < 1; omega) (Nat.le_of_ble_eq_true rfl) (fun x1 s1 q1 => ?_)
  obtain ⟨rfl, c1, f1⟩ := q1
  refine al_aload_n dL_law_472 rfl ?_
  refine al_aload_n dL_law_473 rfl ?_
  refine al_iload_n dL_law_474 rfl ?_
  refine al_iconst dL_law_475 ?_
  refine al_iadd dL_law_476 ?_
  refine al_sld dL_law_477 (by omega) (by omega) hn ?_
  refine al_aload_n dL_law_478 rfl ?_
  refine al_iload_n dL_law_479 rfl ?_
  refine al_iconst dL_law_480 ?_
  refine al_iadd dL_law_481 ?_
  refine al_sld dL_law_482 (by omega) (by omega) hn ?_
  refine al_cv2q rfl cl_L_60 dL_law_483 (c_X8_version (al_rng _) (al_rng _) (ad_c8_f7 h8 f1) (by omega)) (by omega) (by show _ < 1; omega) (Nat.le_of_ble_eq_true rfl) (fun x2 s2 q2 => ?_)
  obtain ⟨rfl, c2, f2⟩ := q2
  refine al_icmp_same 1145 dL_law_486 (by decide) ?_
  exact hnext _ _ (ad_c7_f8 c1 f2) c2
theorem law_case_11 {g : ad_G} {d : Nat} {b n0 : Nat} {xs : Nat → Int32} {ZL : Nat → List Value → ad_Mem → Prop} {σ : ad_Mem} {C : ad_C7} {i : Nat} (hn : n0 ≤ 2048) (hi : (i : Int) + 4 ≤ (n0 : Int)) (h80d : 80 ≤ d) (h7 : ad_c7 σ C) (h8 : ad_c8 σ C) (hnext : ∀ (C1 : ad_C7) (s1 : ad_Mem), ad_c7 s1 C1 → ad_c8 s1 C1 → ad_RL g mL_law d (al_X g b n0 xs) ZL 1145 [some (.ref b), some (ad_rf g 7 0), some (ad_rf g 8 0), some (ad_iv (i : Int))] [] s1) : ad_RL g mL_law d (al_X g b n0 xs) ZL 491 [some (.ref b), some (ad_rf g 7 0), some (ad_rf g 8 0), some (ad_iv (i : Int))] [] σ := by
  refine al_aload_n dL_law_491 rfl ?_
  refine al_aload_n dL_law_492 rfl ?_
  refine al_iload_n dL_law_493 rfl ?_
  refine al_iconst dL_law_494 ?_
  refine al_iadd dL_law_495 ?_
  refine al_sld dL_law_496 (by omega) (by omega) hn ?_
  refine al_aload_n dL_law_497 rfl ?_
  refine al_iload_n dL_law_498 rfl ?_
  refine al_iconst dL_law_499 ?_
  refine al_iadd dL_law_500 ?_
  refine al_sld dL_law_501 (by omega) (by omega) hn ?_
  refine al_cv2q rfl cl_L_61 dL_law_502 (c_X7_spelt h7 (al_rng _) (al_rng _) (by omega)) (by omega) (by show _ < 1; omega) (Nat.le_of_ble_eq_true rfl) (fun x1 s1 q1 => ?_)
  obtain ⟨rfl, c1, f1⟩ := q1
  refine al_aload_n dL_law_505 rfl ?_
  refine al_aload_n dL_law_506 rfl ?_
  refine al_iload_n dL_law_507 rfl ?_
  refine al_iconst dL_law_508 ?_
  refine al_iadd dL_law_509 ?_
  refine al_sld dL_law_510 (by omega) (by omega) hn ?_
  refine al_aload_n dL_law_511 rfl ?_
  refine al_iload_n dL_law_512 rfl ?_
  refine al_iconst dL_law_513 ?_
  refine al_iadd dL_law_514 ?_
  refine al_sld dL_law_515 (by omega) (by omega) hn ?_
  refine al_cv2q rfl cl_L_64 dL_law_516 (c_X8_spelt (al_rng _) (al_rng _) (ad_c8_f7 h8 f1) (by omega)) (by omega) (by show _ < 1; omega) (Nat.le_of_ble_eq_true rfl) (fun x2 s2 q2 => ?_)
  obtain ⟨rfl, c2, f2⟩ := q2
  refine al_icmp_same 1145 dL_law_519 (by decide) ?_
  exact hnext _ _ (ad_c7_f8 c1 f2) c2
theorem law_case_12 {g : ad_G} {d : Nat} {b n0 : Nat} {xs : Nat → Int32} {ZL : Nat → List Value → ad_Mem → Prop} {σ : ad_Mem} {C : ad_C7} {i : Nat} (hn : n0 ≤ 2048) (hi : (i : Int) + 4 ≤ (n0 : Int)) (h80d : 80 ≤ d) (h7 : ad_c7 σ C) (h8 : ad_c8 σ C) (hnext : ∀ (C1 : ad_C7) (s1 : ad_Mem), ad_c7 s1 C1 → ad_c8 s1 C1 → ad_RL g mL_law d (al_X g b n0 xs) ZL 1145 [some (.ref b), some (ad_rf g 7 0), some (ad_rf g 8 0), some (ad_iv (i : Int))] [] s1) : ad_RL g mL_law d (al_X g b n0 xs) ZL 524 [some (.ref b), some (ad_rf g 7 0), some (ad_rf g 8 0), some (ad_iv (i : Int))] [] σ := by
  refine al_aload_n dL_law_524 rfl ?_
  refine al_aload_n dL_law_525 rfl ?_
  refine al_iload_n dL_law_526 rfl ?_
  refine al_iconst dL_law_527 ?_
  refine al_iadd dL_law_528 ?_
  refine al_sld dL_law_529 (by omega) (by omega) hn ?_
  refine al_aload_n dL_law_530 rfl ?_
  refine al_iload_n dL_law_531 rfl ?_
  refine al_iconst dL_law_532 ?_
  refine al_iadd dL_law_533 ?_
  refine al_sld dL_law_534 (by omega) (by omega) hn ?_
  refine al_aload_n dL_law_535 rfl ?_
  refine al_iload_n dL_law_536 rfl ?_
  refine al_iconst dL_law_537 ?_
  refine al_iadd dL_law_538 ?_
  refine al_sld dL_law_539 (by omega) (by omega) hn ?_
  refine al_cv3q rfl cl_L_65 dL_law_540 (c_X7_step h7 (al_rng _) (al_rng _) (al_rng _) (by omega)) (by omega) (by show _ < 1; omega) (Nat.le_of_ble_eq_true rfl) (fun x1 s1 q1 => ?_)
  obtain ⟨rfl, c1, f1⟩ := q1
  refine al_aload_n dL_law_543 rfl ?_
  refine al_aload_n dL_law_544 rfl ?_
  refine al_iload_n dL_law_545 rfl ?_
  refine al_iconst dL_law_546 ?_
  refine al_iadd dL_law_547 ?_
  refine al_sld dL_law_548 (by omega) (by omega) hn ?_
  refine al_aload_n dL_law_549 rfl ?_
  refine al_iload_n dL_law_550 rfl ?_
  refine al_iconst dL_law_551 ?_
  refine al_iadd dL_law_552 ?_
  refine al_sld dL_law_553 (by omega) (by omega) hn ?_
  refine al_aload_n dL_law_554 rfl ?_
  refine al_iload_n dL_law_555 rfl ?_
  refine al_iconst dL_law_556 ?_
  refine al_iadd dL_law_557 ?_
  refine al_sld dL_law_558 (by omega) (by omega) hn ?_
  refine al_cv3q rfl cl_L_68 dL_law_559 (c_X8_step (al_rng _) (al_rng _) (al_rng _) (ad_c8_f7 h8 f1) (by omega)) (by omega) (by show _ < 1; omega) (Nat.le_of_ble_eq_true rfl) (fun x2 s2 q2 => ?_)
  obtain ⟨rfl, c2, f2⟩ := q2
  refine al_icmp_same 1145 dL_law_562 (by decide) ?_
  exact hnext _ _ (ad_c7_f8 c1 f2) c2
theorem law_case_13 {g : ad_G} {d : Nat} {b n0 : Nat} {xs : Nat → Int32} {ZL : Nat → List Value → ad_Mem → Prop} {σ : ad_Mem} {C : ad_C7} {i : Nat} (hn : n0 ≤ 2048) (hi : (i : Int) + 4 ≤ (n0 : Int)) (h80d : 80 ≤ d) (h7 : ad_c7 σ C) (h8 : ad_c8 σ C) (hnext : ∀ (C1 : ad_C7) (s1 : ad_Mem), ad_c7 s1 C1 → ad_c8 s1 C1 → ad_RL g mL_law d (al_X g b n0 xs) ZL 1145 [some (.ref b), some (ad_rf g 7 0), some (ad_rf g 8 0), some (ad_iv (i : Int))] [] s1) : ad_RL g mL_law d (al_X g b n0 xs) ZL 567 [some (.ref b), some (ad_rf g 7 0), some (ad_rf g 8 0), some (ad_iv (i : Int))] [] σ := by
  refine al_aload_n dL_law_567 rfl ?_
  refine al_aload_n dL_law_568 rfl ?_
  refine al_iload_n dL_law_569 rfl ?_
  refine al_iconst dL_law_570 ?_
  refine al_iadd dL_law_571 ?_
  refine al_sld dL_law_572 (by omega) (by omega) hn ?_
  refine al_aload_n dL_law_573 rfl ?_
  refine al_iload_n dL_law_574 rfl ?_
  refine al_iconst dL_law_575 ?_
  refine al_iadd dL_law_576 ?_
  refine al_sld dL_law_577 (by omega) (by omega) hn ?_
  refine al_aload_n dL_law_578 rfl ?_
  refine al_iload_n dL_law_579 rfl ?_
  refine al_iconst dL_law_580 ?_
  refine al_iadd dL_law_581 ?_
  refine al_sld dL_law_582 (by omega) (by omega) hn ?_
  refine al_cv3q rfl cl_L_69 dL_law_583 (c_X7_delta h7 (al_rng _) (al_rng _) (al_rng _) (by omega)) (by omega) (by show _ < 1; omega) (Nat.le_of_ble_eq_true rfl) (fun x1 s1 q1 => ?_)
  obtain ⟨rfl, c1, f1⟩ := q1
  refine al_aload_n dL_law_586 rfl ?_
  refine al_aload_n dL_law_587 rfl ?_
  refine al_iload_n dL_law_588 rfl ?_
  refine al_iconst dL_law_589 ?_
  refine al_iadd dL_law_590 ?_
  refine al_sld dL_law_591 (by omega) (by omega) hn ?_
  refine al_aload_n dL_law_592 rfl ?_
  refine al_iload_n dL_law_593 rfl ?_
  refine al_iconst dL_law_594 ?_
  refine al_iadd dL_law_595 ?_
  refine al_sld dL_law_596 (by omega) (by omega) hn ?_
  refine al_aload_n dL_law_597 rfl ?_
  refine al_iload_n dL_law_598 rfl ?_
  refine al_iconst dL_law_599 ?_
  refine al_iadd dL_law_600 ?_
  refine al_sld dL_law_601 (by omega) (by omega) hn ?_
  refine al_cv3q rfl cl_L_72 dL_law_602 (c_X8_deltaF (al_rng _) (al_rng _) (al_rng _) (ad_c8_f7 h8 f1) (by omega)) (by omega) (by show _ < 1; omega) (Nat.le_of_ble_eq_true rfl) (fun x2 s2 q2 => ?_)
  obtain ⟨rfl, c2, f2⟩ := q2
  refine al_icmp_same 1145 dL_law_605 (by decide) ?_
  exact hnext _ _ (ad_c7_f8 c1 f2) c2
theorem law_case_14 {g : ad_G} {d : Nat} {b n0 : Nat} {xs : Nat → Int32} {ZL : Nat → List Value → ad_Mem → Prop} {σ : ad_Mem} {C : ad_C7} {i : Nat} (hn : n0 ≤ 2048) (hi : (i : Int) + 4 ≤ (n0 : Int)) (h80d : 80 ≤ d) (h7 : ad_c7 σ C) (h8 : ad_c8 σ C) (hnext : ∀ (C1 : ad_C7) (s1 : ad_Mem), ad_c7 s1 C1 → ad_c8 s1 C1 → ad_RL g mL_law d (al_X g b n0 xs) ZL 1145 [some (.ref b), some (ad_rf g 7 0), some (ad_rf g 8 0), some (ad_iv (i : Int))] [] s1) : ad_RL g mL_law d (al_X g b n0 xs) ZL 610 [some (.ref b), some (ad_rf g 7 0), some (ad_rf g 8 0), some (ad_iv (i : Int))] [] σ := by
  refine al_aload_n dL_law_610 rfl ?_
  refine al_aload_n dL_law_611 rfl ?_
  refine al_iload_n dL_law_612 rfl ?_
  refine al_iconst dL_law_613 ?_
  refine al_iadd dL_law_614 ?_
  refine al_sld dL_law_615 (by omega) (by omega) hn ?_
  refine al_cv1q rfl cl_L_73 dL_law_616 (c_X7_repacked h7 (al_rng _) (by omega)) (by omega) (by show _ < 1; omega) (Nat.le_of_ble_eq_true rfl) (fun x1 s1 q1 => ?_)
  obtain ⟨rfl, c1, f1⟩ := q1
  refine al_aload_n dL_law_619 rfl ?_
  refine al_aload_n dL_law_620 rfl ?_
  refine al_iload_n dL_law_621 rfl ?_
  refine al_iconst dL_law_622 ?_
  refine al_iadd dL_law_623 ?_
  refine al_sld dL_law_624 (by omega) (by omega) hn ?_
  refine al_cv1q rfl cl_L_76 dL_law_625 (c_X8_repacked (al_rng _) (ad_c8_f7 h8 f1) (by omega)) (by omega) (by show _ < 1; omega) (Nat.le_of_ble_eq_true rfl) (fun x2 s2 q2 => ?_)
  obtain ⟨rfl, c2, f2⟩ := q2
  refine al_icmp_same 1145 dL_law_628 (by decide) ?_
  exact hnext _ _ (ad_c7_f8 c1 f2) c2
theorem law_case_15 {g : ad_G} {d : Nat} {b n0 : Nat} {xs : Nat → Int32} {ZL : Nat → List Value → ad_Mem → Prop} {σ : ad_Mem} {C : ad_C7} {i : Nat} (hn : n0 ≤ 2048) (hi : (i : Int) + 4 ≤ (n0 : Int)) (h80d : 80 ≤ d) (h7 : ad_c7 σ C) (h8 : ad_c8 σ C) (hnext : ∀ (C1 : ad_C7) (s1 : ad_Mem), ad_c7 s1 C1 → ad_c8 s1 C1 → ad_RL g mL_law d (al_X g b n0 xs) ZL 1145 [some (.ref b), some (ad_rf g 7 0), some (ad_rf g 8 0), some (ad_iv (i : Int))] [] s1) : ad_RL g mL_law d (al_X g b n0 xs) ZL 633 [some (.ref b), some (ad_rf g 7 0), some (ad_rf g 8 0), some (ad_iv (i : Int))] [] σ := by
  refine al_aload_n dL_law_633 rfl ?_
  refine al_aload_n dL_law_634 rfl ?_
  refine al_iload_n dL_law_635 rfl ?_
  refine al_iconst dL_law_636 ?_
  refine al_iadd dL_law_637 ?_
  refine al_sld dL_law_638 (by omega) (by omega) hn ?_
  refine al_cv1q rfl cl_L_77 dL_law_639 (c_X7_best h7 (al_rng _) (by omega)) (by omega) (by show _ < 1; omega) (Nat.le_of_ble_eq_true rfl) (fun x1 s1 q1 => ?_)
  obtain ⟨rfl, c1, f1⟩ := q1
  refine al_aload_n dL_law_642 rfl ?_
  refine al_aload_n dL_law_643 rfl ?_
  refine al_iload_n dL_law_644 rfl ?_
  refine al_iconst dL_law_645 ?_
  refine al_iadd dL_law_646 ?_
  refine al_sld dL_law_647 (by omega) (by omega) hn ?_
  refine al_cv1q rfl cl_L_80 dL_law_648 (c_X8_best (al_rng _) (ad_c8_f7 h8 f1) (by omega)) (by omega) (by show _ < 1; omega) (Nat.le_of_ble_eq_true rfl) (fun x2 s2 q2 => ?_)
  obtain ⟨rfl, c2, f2⟩ := q2
  refine al_icmp_same 1145 dL_law_651 (by decide) ?_
  exact hnext _ _ (ad_c7_f8 c1 f2) c2
theorem law_case_16 {g : ad_G} {d : Nat} {b n0 : Nat} {xs : Nat → Int32} {ZL : Nat → List Value → ad_Mem → Prop} {σ : ad_Mem} {C : ad_C7} {i : Nat} (hn : n0 ≤ 2048) (hi : (i : Int) + 4 ≤ (n0 : Int)) (h80d : 80 ≤ d) (h7 : ad_c7 σ C) (h8 : ad_c8 σ C) (hnext : ∀ (C1 : ad_C7) (s1 : ad_Mem), ad_c7 s1 C1 → ad_c8 s1 C1 → ad_RL g mL_law d (al_X g b n0 xs) ZL 1145 [some (.ref b), some (ad_rf g 7 0), some (ad_rf g 8 0), some (ad_iv (i : Int))] [] s1) : ad_RL g mL_law d (al_X g b n0 xs) ZL 656 [some (.ref b), some (ad_rf g 7 0), some (ad_rf g 8 0), some (ad_iv (i : Int))] [] σ := by
  refine al_aload_n dL_law_656 rfl ?_
  refine al_aload_n dL_law_657 rfl ?_
  refine al_iload_n dL_law_658 rfl ?_
  refine al_iconst dL_law_659 ?_
  refine al_iadd dL_law_660 ?_
  refine al_sld dL_law_661 (by omega) (by omega) hn ?_
  refine al_aload_n dL_law_662 rfl ?_
  refine al_iload_n dL_law_663 rfl ?_
  refine al_iconst dL_law_664 ?_
  refine al_iadd dL_law_665 ?_
  refine al_sld dL_law_666 (by omega) (by omega) hn ?_
  refine al_cv2q rfl cl_L_81 dL_law_667 (c_X7_bestBase h7 (al_rng _) (al_rng _) (by omega)) (by omega) (by show _ < 1; omega) (Nat.le_of_ble_eq_true rfl) (fun x1 s1 q1 => ?_)
  obtain ⟨rfl, c1, f1⟩ := q1
  refine al_aload_n dL_law_670 rfl ?_
  refine al_aload_n dL_law_671 rfl ?_
  refine al_iload_n dL_law_672 rfl ?_
  refine al_iconst dL_law_673 ?_
  refine al_iadd dL_law_674 ?_
  refine al_sld dL_law_675 (by omega) (by omega) hn ?_
  refine al_aload_n dL_law_676 rfl ?_
  refine al_iload_n dL_law_677 rfl ?_
  refine al_iconst dL_law_678 ?_
  refine al_iadd dL_law_679 ?_
  refine al_sld dL_law_680 (by omega) (by omega) hn ?_
  refine al_cv2q rfl cl_L_84 dL_law_681 (c_X8_bestBase (al_rng _) (al_rng _) (ad_c8_f7 h8 f1) (by omega)) (by omega) (by show _ < 1; omega) (Nat.le_of_ble_eq_true rfl) (fun x2 s2 q2 => ?_)
  obtain ⟨rfl, c2, f2⟩ := q2
  refine al_icmp_same 1145 dL_law_684 (by decide) ?_
  exact hnext _ _ (ad_c7_f8 c1 f2) c2
theorem law_case_17 {g : ad_G} {d : Nat} {b n0 : Nat} {xs : Nat → Int32} {ZL : Nat → List Value → ad_Mem → Prop} {σ : ad_Mem} {C : ad_C7} {i : Nat} (hn : n0 ≤ 2048) (hi : (i : Int) + 4 ≤ (n0 : Int)) (h80d : 80 ≤ d) (h7 : ad_c7 σ C) (h8 : ad_c8 σ C) (hnext : ∀ (C1 : ad_C7) (s1 : ad_Mem), ad_c7 s1 C1 → ad_c8 s1 C1 → ad_RL g mL_law d (al_X g b n0 xs) ZL 1145 [some (.ref b), some (ad_rf g 7 0), some (ad_rf g 8 0), some (ad_iv (i : Int))] [] s1) : ad_RL g mL_law d (al_X g b n0 xs) ZL 689 [some (.ref b), some (ad_rf g 7 0), some (ad_rf g 8 0), some (ad_iv (i : Int))] [] σ := by
  refine al_aload_n dL_law_689 rfl ?_
  refine al_aload_n dL_law_690 rfl ?_
  refine al_iload_n dL_law_691 rfl ?_
  refine al_iconst dL_law_692 ?_
  refine al_iadd dL_law_693 ?_
  refine al_sld dL_law_694 (by omega) (by omega) hn ?_
  refine al_cv1q rfl cl_L_85 dL_law_695 (c_X7_reached h7 (al_rng _) (by omega)) (by omega) (by show _ < 1; omega) (Nat.le_of_ble_eq_true rfl) (fun x1 s1 q1 => ?_)
  obtain ⟨rfl, c1, f1⟩ := q1
  refine al_aload_n dL_law_698 rfl ?_
  refine al_aload_n dL_law_699 rfl ?_
  refine al_iload_n dL_law_700 rfl ?_
  refine al_iconst dL_law_701 ?_
  refine al_iadd dL_law_702 ?_
  refine al_sld dL_law_703 (by omega) (by omega) hn ?_
  refine al_cv1q rfl cl_L_88 dL_law_704 (c_X8_reached (al_rng _) (ad_c8_f7 h8 f1) (by omega)) (by omega) (by show _ < 1; omega) (Nat.le_of_ble_eq_true rfl) (fun x2 s2 q2 => ?_)
  obtain ⟨rfl, c2, f2⟩ := q2
  refine al_icmp_same 1145 dL_law_707 (by decide) ?_
  exact hnext _ _ (ad_c7_f8 c1 f2) c2
theorem law_case_18 {g : ad_G} {d : Nat} {b n0 : Nat} {xs : Nat → Int32} {ZL : Nat → List Value → ad_Mem → Prop} {σ : ad_Mem} {C : ad_C7} {i : Nat} (hn : n0 ≤ 2048) (hi : (i : Int) + 4 ≤ (n0 : Int)) (h80d : 80 ≤ d) (h7 : ad_c7 σ C) (h8 : ad_c8 σ C) (hnext : ∀ (C1 : ad_C7) (s1 : ad_Mem), ad_c7 s1 C1 → ad_c8 s1 C1 → ad_RL g mL_law d (al_X g b n0 xs) ZL 1145 [some (.ref b), some (ad_rf g 7 0), some (ad_rf g 8 0), some (ad_iv (i : Int))] [] s1) : ad_RL g mL_law d (al_X g b n0 xs) ZL 712 [some (.ref b), some (ad_rf g 7 0), some (ad_rf g 8 0), some (ad_iv (i : Int))] [] σ := by
  refine al_aload_n dL_law_712 rfl ?_
  refine al_aload_n dL_law_713 rfl ?_
  refine al_iload_n dL_law_714 rfl ?_
  refine al_iconst dL_law_715 ?_
  refine al_iadd dL_law_716 ?_
  refine al_sld dL_law_717 (by omega) (by omega) hn ?_
  refine al_cv1q rfl cl_L_89 dL_law_718 (c_X7_ancestors h7 (al_rng _) (by omega)) (by omega) (by show _ < 1; omega) (Nat.le_of_ble_eq_true rfl) (fun x1 s1 q1 => ?_)
  obtain ⟨rfl, c1, f1⟩ := q1
  refine al_aload_n dL_law_721 rfl ?_
  refine al_aload_n dL_law_722 rfl ?_
  refine al_iload_n dL_law_723 rfl ?_
  refine al_iconst dL_law_724 ?_
  refine al_iadd dL_law_725 ?_
  refine al_sld dL_law_726 (by omega) (by omega) hn ?_
  refine al_cv1q rfl cl_L_92 dL_law_727 (c_X8_ancestors (al_rng _) (ad_c8_f7 h8 f1) (by omega)) (by omega) (by show _ < 1; omega) (Nat.le_of_ble_eq_true rfl) (fun x2 s2 q2 => ?_)
  obtain ⟨rfl, c2, f2⟩ := q2
  refine al_icmp_same 1145 dL_law_730 (by decide) ?_
  exact hnext _ _ (ad_c7_f8 c1 f2) c2
theorem law_case_19 {g : ad_G} {d : Nat} {b n0 : Nat} {xs : Nat → Int32} {ZL : Nat → List Value → ad_Mem → Prop} {σ : ad_Mem} {C : ad_C7} {i : Nat} (hn : n0 ≤ 2048) (hi : (i : Int) + 4 ≤ (n0 : Int)) (h80d : 80 ≤ d) (h7 : ad_c7 σ C) (h8 : ad_c8 σ C) (hnext : ∀ (C1 : ad_C7) (s1 : ad_Mem), ad_c7 s1 C1 → ad_c8 s1 C1 → ad_RL g mL_law d (al_X g b n0 xs) ZL 1145 [some (.ref b), some (ad_rf g 7 0), some (ad_rf g 8 0), some (ad_iv (i : Int))] [] s1) : ad_RL g mL_law d (al_X g b n0 xs) ZL 735 [some (.ref b), some (ad_rf g 7 0), some (ad_rf g 8 0), some (ad_iv (i : Int))] [] σ := by
  refine al_aload_n dL_law_735 rfl ?_
  refine al_aload_n dL_law_736 rfl ?_
  refine al_iload_n dL_law_737 rfl ?_
  refine al_iconst dL_law_738 ?_
  refine al_iadd dL_law_739 ?_
  refine al_sld dL_law_740 (by omega) (by omega) hn ?_
  refine al_aload_n dL_law_741 rfl ?_
  refine al_iload_n dL_law_742 rfl ?_
  refine al_iconst dL_law_743 ?_
  refine al_iadd dL_law_744 ?_
  refine al_sld dL_law_745 (by omega) (by omega) hn ?_
  refine al_cv2q rfl cl_L_93 dL_law_746 (c_X7_common h7 (al_rng _) (al_rng _) (by omega)) (by omega) (by show _ < 1; omega) (Nat.le_of_ble_eq_true rfl) (fun x1 s1 q1 => ?_)
  obtain ⟨rfl, c1, f1⟩ := q1
  refine al_aload_n dL_law_749 rfl ?_
  refine al_aload_n dL_law_750 rfl ?_
  refine al_iload_n dL_law_751 rfl ?_
  refine al_iconst dL_law_752 ?_
  refine al_iadd dL_law_753 ?_
  refine al_sld dL_law_754 (by omega) (by omega) hn ?_
  refine al_aload_n dL_law_755 rfl ?_
  refine al_iload_n dL_law_756 rfl ?_
  refine al_iconst dL_law_757 ?_
  refine al_iadd dL_law_758 ?_
  refine al_sld dL_law_759 (by omega) (by omega) hn ?_
  refine al_cv2q rfl cl_L_96 dL_law_760 (c_X8_common (al_rng _) (al_rng _) (ad_c8_f7 h8 f1) (by omega)) (by omega) (by show _ < 1; omega) (Nat.le_of_ble_eq_true rfl) (fun x2 s2 q2 => ?_)
  obtain ⟨rfl, c2, f2⟩ := q2
  refine al_icmp_same 1145 dL_law_763 (by decide) ?_
  exact hnext _ _ (ad_c7_f8 c1 f2) c2
theorem law_case_20 {g : ad_G} {d : Nat} {b n0 : Nat} {xs : Nat → Int32} {ZL : Nat → List Value → ad_Mem → Prop} {σ : ad_Mem} {C : ad_C7} {i : Nat} (hn : n0 ≤ 2048) (hi : (i : Int) + 4 ≤ (n0 : Int)) (h80d : 80 ≤ d) (h7 : ad_c7 σ C) (h8 : ad_c8 σ C) (hnext : ∀ (C1 : ad_C7) (s1 : ad_Mem), ad_c7 s1 C1 → ad_c8 s1 C1 → ad_RL g mL_law d (al_X g b n0 xs) ZL 1145 [some (.ref b), some (ad_rf g 7 0), some (ad_rf g 8 0), some (ad_iv (i : Int))] [] s1) : ad_RL g mL_law d (al_X g b n0 xs) ZL 768 [some (.ref b), some (ad_rf g 7 0), some (ad_rf g 8 0), some (ad_iv (i : Int))] [] σ := by
  refine al_aload_n dL_law_768 rfl ?_
  refine al_aload_n dL_law_769 rfl ?_
  refine al_iload_n dL_law_770 rfl ?_
  refine al_iconst dL_law_771 ?_
  refine al_iadd dL_law_772 ?_
  refine al_sld dL_law_773 (by omega) (by omega) hn ?_
  refine al_aload_n dL_law_774 rfl ?_
  refine al_iload_n dL_law_775 rfl ?_
  refine al_iconst dL_law_776 ?_
  refine al_iadd dL_law_777 ?_
  refine al_sld dL_law_778 (by omega) (by omega) hn ?_
  refine al_cv2q rfl cl_L_97 dL_law_779 (c_X7_generations h7 (al_rng _) (al_rng _) (by omega)) (by omega) (by show _ < 1; omega) (Nat.le_of_ble_eq_true rfl) (fun x1 s1 q1 => ?_)
  obtain ⟨rfl, c1, f1⟩ := q1
  refine al_aload_n dL_law_782 rfl ?_
  refine al_aload_n dL_law_783 rfl ?_
  refine al_iload_n dL_law_784 rfl ?_
  refine al_iconst dL_law_785 ?_
  refine al_iadd dL_law_786 ?_
  refine al_sld dL_law_787 (by omega) (by omega) hn ?_
  refine al_aload_n dL_law_788 rfl ?_
  refine al_iload_n dL_law_789 rfl ?_
  refine al_iconst dL_law_790 ?_
  refine al_iadd dL_law_791 ?_
  refine al_sld dL_law_792 (by omega) (by omega) hn ?_
  refine al_cv2q rfl cl_L_100 dL_law_793 (c_X8_generations (al_rng _) (al_rng _) (ad_c8_f7 h8 f1) (by omega)) (by omega) (by show _ < 1; omega) (Nat.le_of_ble_eq_true rfl) (fun x2 s2 q2 => ?_)
  obtain ⟨rfl, c2, f2⟩ := q2
  refine al_icmp_same 1145 dL_law_796 (by decide) ?_
  exact hnext _ _ (ad_c7_f8 c1 f2) c2
theorem law_case_21 {g : ad_G} {d : Nat} {b n0 : Nat} {xs : Nat → Int32} {ZL : Nat → List Value → ad_Mem → Prop} {σ : ad_Mem} {C : ad_C7} {i : Nat} (hn : n0 ≤ 2048) (hi : (i : Int) + 4 ≤ (n0 : Int)) (h80d : 80 ≤ d) (h7 : ad_c7 σ C) (h8 : ad_c8 σ C) (hnext : ∀ (C1 : ad_C7) (s1 : ad_Mem), ad_c7 s1 C1 → ad_c8 s1 C1 → ad_RL g mL_law d (al_X g b n0 xs) ZL 1145 [some (.ref b), some (ad_rf g 7 0), some (ad_rf g 8 0), some (ad_iv (i : Int))] [] s1) : ad_RL g mL_law d (al_X g b n0 xs) ZL 801 [some (.ref b), some (ad_rf g 7 0), some (ad_rf g 8 0), some (ad_iv (i : Int))] [] σ := by
  refine al_aload_n dL_law_801 rfl ?_
  refine al_aload_n dL_law_802 rfl ?_
  refine al_iload_n dL_law_803 rfl ?_
  refine al_iconst dL_law_804 ?_
  refine al_iadd dL_law_805 ?_
  refine al_sld dL_law_806 (by omega) (by omega) hn ?_
  refine al_cv1q rfl cl_L_101 dL_law_807 (c_X7_twin h7 (al_rng _) (by omega)) (by omega) (by show _ < 1; omega) (Nat.le_of_ble_eq_true rfl) (fun x1 s1 q1 => ?_)
  obtain ⟨rfl, c1, f1⟩ := q1
  refine al_aload_n dL_law_810 rfl ?_
  refine al_aload_n dL_law_811 rfl ?_
  refine al_iload_n dL_law_812 rfl ?_
  refine al_iconst dL_law_813 ?_
  refine al_iadd dL_law_814 ?_
  refine al_sld dL_law_815 (by omega) (by omega) hn ?_
  refine al_cv1q rfl cl_L_104 dL_law_816 (c_X8_twin (al_rng _) (ad_c8_f7 h8 f1) (by omega)) (by omega) (by show _ < 1; omega) (Nat.le_of_ble_eq_true rfl) (fun x2 s2 q2 => ?_)
  obtain ⟨rfl, c2, f2⟩ := q2
  refine al_icmp_same 1145 dL_law_819 (by decide) ?_
  exact hnext _ _ (ad_c7_f8 c1 f2) c2
theorem law_case_22 {g : ad_G} {d : Nat} {b n0 : Nat} {xs : Nat → Int32} {ZL : Nat → List Value → ad_Mem → Prop} {σ : ad_Mem} {C : ad_C7} {i : Nat} (hn : n0 ≤ 2048) (hi : (i : Int) + 4 ≤ (n0 : Int)) (h80d : 80 ≤ d) (h7 : ad_c7 σ C) (h8 : ad_c8 σ C) (hnext : ∀ (C1 : ad_C7) (s1 : ad_Mem), ad_c7 s1 C1 → ad_c8 s1 C1 → ad_RL g mL_law d (al_X g b n0 xs) ZL 1145 [some (.ref b), some (ad_rf g 7 0), some (ad_rf g 8 0), some (ad_iv (i : Int))] [] s1) : ad_RL g mL_law d (al_X g b n0 xs) ZL 824 [some (.ref b), some (ad_rf g 7 0), some (ad_rf g 8 0), some (ad_iv (i : Int))] [] σ := by
  refine al_aload_n dL_law_824 rfl ?_
  refine al_aload_n dL_law_825 rfl ?_
  refine al_iload_n dL_law_826 rfl ?_
  refine al_iconst dL_law_827 ?_
  refine al_iadd dL_law_828 ?_
  refine al_sld dL_law_829 (by omega) (by omega) hn ?_
  refine al_aload_n dL_law_830 rfl ?_
  refine al_iload_n dL_law_831 rfl ?_
  refine al_iconst dL_law_832 ?_
  refine al_iadd dL_law_833 ?_
  refine al_sld dL_law_834 (by omega) (by omega) hn ?_
  refine al_aload_n dL_law_835 rfl ?_
  refine al_iload_n dL_law_836 rfl ?_
  refine al_iconst dL_law_837 ?_
  refine al_iadd dL_law_838 ?_
  refine al_sld dL_law_839 (by omega) (by omega) hn ?_
  refine al_cv3q rfl cl_L_105 dL_law_840 (c_X7_fetch h7 (al_rng _) (al_rng _) (al_rng _) (by omega)) (by omega) (by show _ < 1; omega) (Nat.le_of_ble_eq_true rfl) (fun x1 s1 q1 => ?_)
  obtain ⟨rfl, c1, f1⟩ := q1
  refine al_aload_n dL_law_843 rfl ?_
  refine al_aload_n dL_law_844 rfl ?_
  refine al_iload_n dL_law_845 rfl ?_
  refine al_iconst dL_law_846 ?_
  refine al_iadd dL_law_847 ?_
  refine al_sld dL_law_848 (by omega) (by omega) hn ?_
  refine al_aload_n dL_law_849 rfl ?_
  refine al_iload_n dL_law_850 rfl ?_
  refine al_iconst dL_law_851 ?_
  refine al_iadd dL_law_852 ?_
  refine al_sld dL_law_853 (by omega) (by omega) hn ?_
  refine al_aload_n dL_law_854 rfl ?_
  refine al_iload_n dL_law_855 rfl ?_
  refine al_iconst dL_law_856 ?_
  refine al_iadd dL_law_857 ?_
  refine al_sld dL_law_858 (by omega) (by omega) hn ?_
  refine al_cv3q rfl cl_L_108 dL_law_859 (c_X8_fetch (al_rng _) (al_rng _) (al_rng _) (ad_c8_f7 h8 f1) (by omega)) (by omega) (by show _ < 1; omega) (Nat.le_of_ble_eq_true rfl) (fun x2 s2 q2 => ?_)
  obtain ⟨rfl, c2, f2⟩ := q2
  refine al_icmp_same 1145 dL_law_862 (by decide) ?_
  exact hnext _ _ (ad_c7_f8 c1 f2) c2
theorem law_case_23 {g : ad_G} {d : Nat} {b n0 : Nat} {xs : Nat → Int32} {ZL : Nat → List Value → ad_Mem → Prop} {σ : ad_Mem} {C : ad_C7} {i : Nat} (hn : n0 ≤ 2048) (hi : (i : Int) + 4 ≤ (n0 : Int)) (h80d : 80 ≤ d) (h7 : ad_c7 σ C) (h8 : ad_c8 σ C) (hnext : ∀ (C1 : ad_C7) (s1 : ad_Mem), ad_c7 s1 C1 → ad_c8 s1 C1 → ad_RL g mL_law d (al_X g b n0 xs) ZL 1145 [some (.ref b), some (ad_rf g 7 0), some (ad_rf g 8 0), some (ad_iv (i : Int))] [] s1) : ad_RL g mL_law d (al_X g b n0 xs) ZL 867 [some (.ref b), some (ad_rf g 7 0), some (ad_rf g 8 0), some (ad_iv (i : Int))] [] σ := by
  refine al_aload_n dL_law_867 rfl ?_
  refine al_cv0q rfl cl_L_109 dL_law_868 (c_X7_wrong h7 (by omega)) (by omega) (by show _ < 1; omega) (Nat.le_of_ble_eq_true rfl) (fun x1 s1 q1 => ?_)
  obtain ⟨rfl, c1, f1⟩ := q1
  refine al_aload_n dL_law_871 rfl ?_
  refine al_cv0q rfl cl_L_112 dL_law_872 (c_X8_wrong (ad_c8_f7 h8 f1) (by omega)) (by omega) (by show _ < 1; omega) (Nat.le_of_ble_eq_true rfl) (fun x2 s2 q2 => ?_)
  obtain ⟨rfl, c2, f2⟩ := q2
  refine al_icmp_same 1145 dL_law_875 (by decide) ?_
  exact hnext _ _ (ad_c7_f8 c1 f2) c2
theorem law_case_24 {g : ad_G} {d : Nat} {b n0 : Nat} {xs : Nat → Int32} {ZL : Nat → List Value → ad_Mem → Prop} {σ : ad_Mem} {C : ad_C7} {i : Nat} (hn : n0 ≤ 2048) (hi : (i : Int) + 4 ≤ (n0 : Int)) (h80d : 80 ≤ d) (h7 : ad_c7 σ C) (h8 : ad_c8 σ C) (hnext : ∀ (C1 : ad_C7) (s1 : ad_Mem), ad_c7 s1 C1 → ad_c8 s1 C1 → ad_RL g mL_law d (al_X g b n0 xs) ZL 1145 [some (.ref b), some (ad_rf g 7 0), some (ad_rf g 8 0), some (ad_iv (i : Int))] [] s1) : ad_RL g mL_law d (al_X g b n0 xs) ZL 880 [some (.ref b), some (ad_rf g 7 0), some (ad_rf g 8 0), some (ad_iv (i : Int))] [] σ := by
  refine al_aload_n dL_law_880 rfl ?_
  refine al_aload_n dL_law_881 rfl ?_
  refine al_iload_n dL_law_882 rfl ?_
  refine al_iconst dL_law_883 ?_
  refine al_iadd dL_law_884 ?_
  refine al_sld dL_law_885 (by omega) (by omega) hn ?_
  refine al_cv1q rfl cl_L_113 dL_law_886 (c_X7_hurt h7 (al_rng _) (by omega)) (by omega) (by show _ < 1; omega) (Nat.le_of_ble_eq_true rfl) (fun x1 s1 q1 => ?_)
  obtain ⟨rfl, c1, f1⟩ := q1
  refine al_aload_n dL_law_889 rfl ?_
  refine al_aload_n dL_law_890 rfl ?_
  refine al_iload_n dL_law_891 rfl ?_
  refine al_iconst dL_law_892 ?_
  refine al_iadd dL_law_893 ?_
  refine al_sld dL_law_894 (by omega) (by omega) hn ?_
  refine al_cv1q rfl cl_L_116 dL_law_895 (c_X8_hurt (al_rng _) (ad_c8_f7 h8 f1) (by omega)) (by omega) (by show _ < 1; omega) (Nat.le_of_ble_eq_true rfl) (fun x2 s2 q2 => ?_)
  obtain ⟨rfl, c2, f2⟩ := q2
  refine al_icmp_same 1145 dL_law_898 (by decide) ?_
  exact hnext _ _ (ad_c7_f8 c1 f2) c2
theorem law_case_25 {g : ad_G} {d : Nat} {b n0 : Nat} {xs : Nat → Int32} {ZL : Nat → List Value → ad_Mem → Prop} {σ : ad_Mem} {C : ad_C7} {i : Nat} (hn : n0 ≤ 2048) (hi : (i : Int) + 4 ≤ (n0 : Int)) (h80d : 80 ≤ d) (h7 : ad_c7 σ C) (h8 : ad_c8 σ C) (hnext : ∀ (C1 : ad_C7) (s1 : ad_Mem), ad_c7 s1 C1 → ad_c8 s1 C1 → ad_RL g mL_law d (al_X g b n0 xs) ZL 1145 [some (.ref b), some (ad_rf g 7 0), some (ad_rf g 8 0), some (ad_iv (i : Int))] [] s1) : ad_RL g mL_law d (al_X g b n0 xs) ZL 903 [some (.ref b), some (ad_rf g 7 0), some (ad_rf g 8 0), some (ad_iv (i : Int))] [] σ := by
  refine al_aload_n dL_law_903 rfl ?_
  refine al_aload_n dL_law_904 rfl ?_
  refine al_iload_n dL_law_905 rfl ?_
  refine al_iconst dL_law_906 ?_
  refine al_iadd dL_law_907 ?_
  refine al_sld dL_law_908 (by omega) (by omega) hn ?_
  refine al_aload_n dL_law_909 rfl ?_
  refine al_iload_n dL_law_910 rfl ?_
  refine al_iconst dL_law_911 ?_
  refine al_iadd dL_law_912 ?_
  refine al_sld dL_law_913 (by omega) (by omega) hn ?_
  refine al_aload_n dL_law_914 rfl ?_
  refine al_iload_n dL_law_915 rfl ?_
  refine al_iconst dL_law_916 ?_
  refine al_iadd dL_law_917 ?_
  refine al_sld dL_law_918 (by omega) (by omega) hn ?_
  refine al_cv3q rfl cl_L_117 dL_law_919 (c_X7_lost h7 (al_rng _) (al_rng _) (al_rng _) (by omega)) (by omega) (by show _ < 1; omega) (Nat.le_of_ble_eq_true rfl) (fun x1 s1 q1 => ?_)
  obtain ⟨rfl, c1, f1⟩ := q1
  refine al_aload_n dL_law_922 rfl ?_
  refine al_aload_n dL_law_923 rfl ?_
  refine al_iload_n dL_law_924 rfl ?_
  refine al_iconst dL_law_925 ?_
  refine al_iadd dL_law_926 ?_
  refine al_sld dL_law_927 (by omega) (by omega) hn ?_
  refine al_aload_n dL_law_928 rfl ?_
  refine al_iload_n dL_law_929 rfl ?_
  refine al_iconst dL_law_930 ?_
  refine al_iadd dL_law_931 ?_
  refine al_sld dL_law_932 (by omega) (by omega) hn ?_
  refine al_aload_n dL_law_933 rfl ?_
  refine al_iload_n dL_law_934 rfl ?_
  refine al_iconst dL_law_935 ?_
  refine al_iadd dL_law_936 ?_
  refine al_sld dL_law_937 (by omega) (by omega) hn ?_
  refine al_cv3q rfl cl_L_121 dL_law_938 (c_X8_lost (al_rng _) (al_rng _) (al_rng _) (by omega) (ad_c8_f7 h8 f1) (by omega)) (by omega) (by show _ < 1; omega) (Nat.le_of_ble_eq_true rfl) (fun x2 s2 q2 => ?_)
  obtain ⟨rfl, c2, f2⟩ := q2
  refine al_lcmp_same dL_law_941 ?_
  refine al_if_eq 1145 dL_law_942 (by decide) (by decide) (fun _ => ?_) (fun h => absurd rfl h)
  exact hnext _ _ (ad_c7_f8 c1 f2) c2
theorem law_case_26 {g : ad_G} {d : Nat} {b n0 : Nat} {xs : Nat → Int32} {ZL : Nat → List Value → ad_Mem → Prop} {σ : ad_Mem} {C : ad_C7} {i : Nat} (hn : n0 ≤ 2048) (hi : (i : Int) + 4 ≤ (n0 : Int)) (h80d : 80 ≤ d) (h7 : ad_c7 σ C) (h8 : ad_c8 σ C) (hnext : ∀ (C1 : ad_C7) (s1 : ad_Mem), ad_c7 s1 C1 → ad_c8 s1 C1 → ad_RL g mL_law d (al_X g b n0 xs) ZL 1145 [some (.ref b), some (ad_rf g 7 0), some (ad_rf g 8 0), some (ad_iv (i : Int))] [] s1) : ad_RL g mL_law d (al_X g b n0 xs) ZL 947 [some (.ref b), some (ad_rf g 7 0), some (ad_rf g 8 0), some (ad_iv (i : Int))] [] σ := by
  refine al_aload_n dL_law_947 rfl ?_
  refine al_aload_n dL_law_948 rfl ?_
  refine al_iload_n dL_law_949 rfl ?_
  refine al_iconst dL_law_950 ?_
  refine al_iadd dL_law_951 ?_
  refine al_sld dL_law_952 (by omega) (by omega) hn ?_
  refine al_cv1q rfl cl_L_122 dL_law_953 (c_X7_mean h7 (al_rng _) (by omega)) (by omega) (by show _ < 1; omega) (Nat.le_of_ble_eq_true rfl) (fun x1 s1 q1 => ?_)
  obtain ⟨rfl, c1, f1⟩ := q1
  refine al_aload_n dL_law_956 rfl ?_
  refine al_aload_n dL_law_957 rfl ?_
  refine al_iload_n dL_law_958 rfl ?_
  refine al_iconst dL_law_959 ?_
  refine al_iadd dL_law_960 ?_
  refine al_sld dL_law_961 (by omega) (by omega) hn ?_
  refine al_cv1q rfl cl_L_126 dL_law_962 (c_X8_mean (al_rng _) (by omega) (ad_c8_f7 h8 f1) (by omega)) (by omega) (by show _ < 1; omega) (Nat.le_of_ble_eq_true rfl) (fun x2 s2 q2 => ?_)
  obtain ⟨rfl, c2, f2⟩ := q2
  refine al_lcmp_same dL_law_965 ?_
  refine al_if_eq 1145 dL_law_966 (by decide) (by decide) (fun _ => ?_) (fun h => absurd rfl h)
  exact hnext _ _ (ad_c7_f8 c1 f2) c2
theorem law_case_27 {g : ad_G} {d : Nat} {b n0 : Nat} {xs : Nat → Int32} {ZL : Nat → List Value → ad_Mem → Prop} {σ : ad_Mem} {C : ad_C7} {i : Nat} (hn : n0 ≤ 2048) (hi : (i : Int) + 4 ≤ (n0 : Int)) (h80d : 80 ≤ d) (h7 : ad_c7 σ C) (h8 : ad_c8 σ C) (hnext : ∀ (C1 : ad_C7) (s1 : ad_Mem), ad_c7 s1 C1 → ad_c8 s1 C1 → ad_RL g mL_law d (al_X g b n0 xs) ZL 1145 [some (.ref b), some (ad_rf g 7 0), some (ad_rf g 8 0), some (ad_iv (i : Int))] [] s1) : ad_RL g mL_law d (al_X g b n0 xs) ZL 971 [some (.ref b), some (ad_rf g 7 0), some (ad_rf g 8 0), some (ad_iv (i : Int))] [] σ := by
  refine al_aload_n dL_law_971 rfl ?_
  refine al_aload_n dL_law_972 rfl ?_
  refine al_iload_n dL_law_973 rfl ?_
  refine al_iconst dL_law_974 ?_
  refine al_iadd dL_law_975 ?_
  refine al_sld dL_law_976 (by omega) (by omega) hn ?_
  refine al_cv1q rfl cl_L_127 dL_law_977 (c_X7_whatIs h7 (al_rng _) (by omega)) (by omega) (by show _ < 1; omega) (Nat.le_of_ble_eq_true rfl) (fun x1 s1 q1 => ?_)
  obtain ⟨rfl, c1, f1⟩ := q1
  refine al_aload_n dL_law_980 rfl ?_
  refine al_aload_n dL_law_981 rfl ?_
  refine al_iload_n dL_law_982 rfl ?_
  refine al_iconst dL_law_983 ?_
  refine al_iadd dL_law_984 ?_
  refine al_sld dL_law_985 (by omega) (by omega) hn ?_
  refine al_cv1q rfl cl_L_130 dL_law_986 (c_X8_whatIs (al_rng _) (ad_c8_f7 h8 f1) (by omega)) (by omega) (by show _ < 1; omega) (Nat.le_of_ble_eq_true rfl) (fun x2 s2 q2 => ?_)
  obtain ⟨rfl, c2, f2⟩ := q2
  refine al_icmp_same 1145 dL_law_989 (by decide) ?_
  exact hnext _ _ (ad_c7_f8 c1 f2) c2
theorem law_case_28 {g : ad_G} {d : Nat} {b n0 : Nat} {xs : Nat → Int32} {ZL : Nat → List Value → ad_Mem → Prop} {σ : ad_Mem} {C : ad_C7} {i : Nat} (hn : n0 ≤ 2048) (hi : (i : Int) + 4 ≤ (n0 : Int)) (h80d : 80 ≤ d) (h7 : ad_c7 σ C) (h8 : ad_c8 σ C) (hnext : ∀ (C1 : ad_C7) (s1 : ad_Mem), ad_c7 s1 C1 → ad_c8 s1 C1 → ad_RL g mL_law d (al_X g b n0 xs) ZL 1145 [some (.ref b), some (ad_rf g 7 0), some (ad_rf g 8 0), some (ad_iv (i : Int))] [] s1) : ad_RL g mL_law d (al_X g b n0 xs) ZL 994 [some (.ref b), some (ad_rf g 7 0), some (ad_rf g 8 0), some (ad_iv (i : Int))] [] σ := by
  refine al_aload_n dL_law_994 rfl ?_
  refine al_aload_n dL_law_995 rfl ?_
  refine al_iload_n dL_law_996 rfl ?_
  refine al_iconst dL_law_997 ?_
  refine al_iadd dL_law_998 ?_
  refine al_sld dL_law_999 (by omega) (by omega) hn ?_
  refine al_cv1q rfl cl_L_131 dL_law_1000 (c_X7_row h7 (al_rng _) (by omega)) (by omega) (by show _ < 1; omega) (Nat.le_of_ble_eq_true rfl) (fun x1 s1 q1 => ?_)
  obtain ⟨rfl, c1, f1⟩ := q1
  refine al_aload_n dL_law_1003 rfl ?_
  refine al_aload_n dL_law_1004 rfl ?_
  refine al_iload_n dL_law_1005 rfl ?_
  refine al_iconst dL_law_1006 ?_
  refine al_iadd dL_law_1007 ?_
  refine al_sld dL_law_1008 (by omega) (by omega) hn ?_
  refine al_cv1q rfl cl_L_134 dL_law_1009 (c_X8_row (al_rng _) (ad_c8_f7 h8 f1) (by omega)) (by omega) (by show _ < 1; omega) (Nat.le_of_ble_eq_true rfl) (fun x2 s2 q2 => ?_)
  obtain ⟨rfl, c2, f2⟩ := q2
  refine al_icmp_same 1145 dL_law_1012 (by decide) ?_
  exact hnext _ _ (ad_c7_f8 c1 f2) c2
theorem law_case_29 {g : ad_G} {d : Nat} {b n0 : Nat} {xs : Nat → Int32} {ZL : Nat → List Value → ad_Mem → Prop} {σ : ad_Mem} {C : ad_C7} {i : Nat} (hn : n0 ≤ 2048) (hi : (i : Int) + 4 ≤ (n0 : Int)) (h80d : 80 ≤ d) (h7 : ad_c7 σ C) (h8 : ad_c8 σ C) (hnext : ∀ (C1 : ad_C7) (s1 : ad_Mem), ad_c7 s1 C1 → ad_c8 s1 C1 → ad_RL g mL_law d (al_X g b n0 xs) ZL 1145 [some (.ref b), some (ad_rf g 7 0), some (ad_rf g 8 0), some (ad_iv (i : Int))] [] s1) : ad_RL g mL_law d (al_X g b n0 xs) ZL 1017 [some (.ref b), some (ad_rf g 7 0), some (ad_rf g 8 0), some (ad_iv (i : Int))] [] σ := by
  refine al_aload_n dL_law_1017 rfl ?_
  refine al_aload_n dL_law_1018 rfl ?_
  refine al_iload_n dL_law_1019 rfl ?_
  refine al_iconst dL_law_1020 ?_
  refine al_iadd dL_law_1021 ?_
  refine al_sld dL_law_1022 (by omega) (by omega) hn ?_
  refine al_cv1q rfl cl_L_135 dL_law_1023 (c_X7_judge h7 (al_rng _) (by omega)) (by omega) (by show _ < 1; omega) (Nat.le_of_ble_eq_true rfl) (fun x1 s1 q1 => ?_)
  obtain ⟨rfl, c1, f1⟩ := q1
  refine al_aload_n dL_law_1026 rfl ?_
  refine al_aload_n dL_law_1027 rfl ?_
  refine al_iload_n dL_law_1028 rfl ?_
  refine al_iconst dL_law_1029 ?_
  refine al_iadd dL_law_1030 ?_
  refine al_sld dL_law_1031 (by omega) (by omega) hn ?_
  refine al_cv1q rfl cl_L_138 dL_law_1032 (c_X8_judge (al_rng _) (ad_c8_f7 h8 f1) (by omega)) (by omega) (by show _ < 1; omega) (Nat.le_of_ble_eq_true rfl) (fun x2 s2 q2 => ?_)
  obtain ⟨rfl, c2, f2⟩ := q2
  refine al_icmp_same 1145 dL_law_1035 (by decide) ?_
  exact hnext _ _ (ad_c7_f8 c1 f2) c2
theorem law_case_30 {g : ad_G} {d : Nat} {b n0 : Nat} {xs : Nat → Int32} {ZL : Nat → List Value → ad_Mem → Prop} {σ : ad_Mem} {C : ad_C7} {i : Nat} (hn : n0 ≤ 2048) (hi : (i : Int) + 4 ≤ (n0 : Int)) (h80d : 80 ≤ d) (h7 : ad_c7 σ C) (h8 : ad_c8 σ C) (hnext : ∀ (C1 : ad_C7) (s1 : ad_Mem), ad_c7 s1 C1 → ad_c8 s1 C1 → ad_RL g mL_law d (al_X g b n0 xs) ZL 1145 [some (.ref b), some (ad_rf g 7 0), some (ad_rf g 8 0), some (ad_iv (i : Int))] [] s1) : ad_RL g mL_law d (al_X g b n0 xs) ZL 1040 [some (.ref b), some (ad_rf g 7 0), some (ad_rf g 8 0), some (ad_iv (i : Int))] [] σ := by
  refine al_aload_n dL_law_1040 rfl ?_
  refine al_cv0q rfl cl_L_139 dL_law_1041 (c_X7_clear h7 (by omega)) (by omega) (by show _ < 1; omega) (Nat.le_of_ble_eq_true rfl) (fun x1 s1 q1 => ?_)
  obtain ⟨rfl, c1, f1⟩ := q1
  refine al_aload_n dL_law_1044 rfl ?_
  refine al_cv0q rfl cl_L_142 dL_law_1045 (c_X8_clear (ad_c8_f7 h8 f1) (by omega)) (by omega) (by show _ < 1; omega) (Nat.le_of_ble_eq_true rfl) (fun x2 s2 q2 => ?_)
  obtain ⟨rfl, c2, f2⟩ := q2
  refine al_icmp_same 1145 dL_law_1048 (by decide) ?_
  exact hnext _ _ (ad_c7_f8 c1 f2) c2
theorem law_case_31 {g : ad_G} {d : Nat} {b n0 : Nat} {xs : Nat → Int32} {ZL : Nat → List Value → ad_Mem → Prop} {σ : ad_Mem} {C : ad_C7} {i : Nat} (hn : n0 ≤ 2048) (hi : (i : Int) + 4 ≤ (n0 : Int)) (h80d : 80 ≤ d) (h7 : ad_c7 σ C) (h8 : ad_c8 σ C) (hnext : ∀ (C1 : ad_C7) (s1 : ad_Mem), ad_c7 s1 C1 → ad_c8 s1 C1 → ad_RL g mL_law d (al_X g b n0 xs) ZL 1145 [some (.ref b), some (ad_rf g 7 0), some (ad_rf g 8 0), some (ad_iv (i : Int))] [] s1) : ad_RL g mL_law d (al_X g b n0 xs) ZL 1053 [some (.ref b), some (ad_rf g 7 0), some (ad_rf g 8 0), some (ad_iv (i : Int))] [] σ := by
  refine al_aload_n dL_law_1053 rfl ?_
  refine al_aload_n dL_law_1054 rfl ?_
  refine al_iload_n dL_law_1055 rfl ?_
  refine al_iconst dL_law_1056 ?_
  refine al_iadd dL_law_1057 ?_
  refine al_sld dL_law_1058 (by omega) (by omega) hn ?_
  refine al_aload_n dL_law_1059 rfl ?_
  refine al_iload_n dL_law_1060 rfl ?_
  refine al_iconst dL_law_1061 ?_
  refine al_iadd dL_law_1062 ?_
  refine al_sld dL_law_1063 (by omega) (by omega) hn ?_
  refine al_aload_n dL_law_1064 rfl ?_
  refine al_iload_n dL_law_1065 rfl ?_
  refine al_iconst dL_law_1066 ?_
  refine al_iadd dL_law_1067 ?_
  refine al_sld dL_law_1068 (by omega) (by omega) hn ?_
  refine al_cv3q rfl cl_L_143 dL_law_1069 (c_X7_lots h7 (al_rng _) (al_rng _) (by omega)) (by omega) (by show _ < 1; omega) (Nat.le_of_ble_eq_true rfl) (fun x1 s1 q1 => ?_)
  obtain ⟨rfl, c1, f1⟩ := q1
  refine al_aload_n dL_law_1072 rfl ?_
  refine al_aload_n dL_law_1073 rfl ?_
  refine al_iload_n dL_law_1074 rfl ?_
  refine al_iconst dL_law_1075 ?_
  refine al_iadd dL_law_1076 ?_
  refine al_sld dL_law_1077 (by omega) (by omega) hn ?_
  refine al_aload_n dL_law_1078 rfl ?_
  refine al_iload_n dL_law_1079 rfl ?_
  refine al_iconst dL_law_1080 ?_
  refine al_iadd dL_law_1081 ?_
  refine al_sld dL_law_1082 (by omega) (by omega) hn ?_
  refine al_aload_n dL_law_1083 rfl ?_
  refine al_iload_n dL_law_1084 rfl ?_
  refine al_iconst dL_law_1085 ?_
  refine al_iadd dL_law_1086 ?_
  refine al_sld dL_law_1087 (by omega) (by omega) hn ?_
  refine al_cv3q rfl cl_L_146 dL_law_1088 (c_X8_lots (al_rng _) (al_rng _) (ad_c8_f7 h8 f1) (by omega)) (by omega) (by show _ < 1; omega) (Nat.le_of_ble_eq_true rfl) (fun x2 s2 q2 => ?_)
  obtain ⟨rfl, c2, f2⟩ := q2
  refine al_icmp_same 1145 dL_law_1091 (by decide) ?_
  exact hnext _ _ (ad_c7_f8 c1 f2) c2
theorem law_case_32 {g : ad_G} {d : Nat} {b n0 : Nat} {xs : Nat → Int32} {ZL : Nat → List Value → ad_Mem → Prop} {σ : ad_Mem} {C : ad_C7} {i : Nat} (hn : n0 ≤ 2048) (hi : (i : Int) + 4 ≤ (n0 : Int)) (h80d : 80 ≤ d) (h7 : ad_c7 σ C) (h8 : ad_c8 σ C) (hnext : ∀ (C1 : ad_C7) (s1 : ad_Mem), ad_c7 s1 C1 → ad_c8 s1 C1 → ad_RL g mL_law d (al_X g b n0 xs) ZL 1145 [some (.ref b), some (ad_rf g 7 0), some (ad_rf g 8 0), some (ad_iv (i : Int))] [] s1) : ad_RL g mL_law d (al_X g b n0 xs) ZL 1096 [some (.ref b), some (ad_rf g 7 0), some (ad_rf g 8 0), some (ad_iv (i : Int))] [] σ := by
  refine al_aload_n dL_law_1096 rfl ?_
  refine al_cv0q rfl cl_L_147 dL_law_1097 (c_X7_image h7 (by omega)) (by omega) (by show _ < 1; omega) (Nat.le_of_ble_eq_true rfl) (fun x1 s1 q1 => ?_)
  obtain ⟨rfl, c1, f1⟩ := q1
  refine al_aload_n dL_law_1100 rfl ?_
  refine al_cv0q rfl cl_L_150 dL_law_1101 (c_X8_image (ad_c8_f7 h8 f1) (by omega)) (by omega) (by show _ < 1; omega) (Nat.le_of_ble_eq_true rfl) (fun x2 s2 q2 => ?_)
  obtain ⟨rfl, c2, f2⟩ := q2
  refine al_icmp_same 1145 dL_law_1104 (by decide) ?_
  exact hnext _ _ (ad_c7_f8 c1 f2) c2
theorem law_case_33 {g : ad_G} {d : Nat} {b n0 : Nat} {xs : Nat → Int32} {ZL : Nat → List Value → ad_Mem → Prop} {σ : ad_Mem} {C : ad_C7} {i : Nat} (hn : n0 ≤ 2048) (hi : (i : Int) + 4 ≤ (n0 : Int)) (h80d : 80 ≤ d) (h7 : ad_c7 σ C) (h8 : ad_c8 σ C) (hnext : ∀ (C1 : ad_C7) (s1 : ad_Mem), ad_c7 s1 C1 → ad_c8 s1 C1 → ad_RL g mL_law d (al_X g b n0 xs) ZL 1145 [some (.ref b), some (ad_rf g 7 0), some (ad_rf g 8 0), some (ad_iv (i : Int))] [] s1) : ad_RL g mL_law d (al_X g b n0 xs) ZL 1109 [some (.ref b), some (ad_rf g 7 0), some (ad_rf g 8 0), some (ad_iv (i : Int))] [] σ := by
  refine al_aload_n dL_law_1109 rfl ?_
  refine al_cv0q rfl cl_L_151 dL_law_1110 (c_X7_on h7 (by omega)) (by omega) (by show _ < 1; omega) (Nat.le_of_ble_eq_true rfl) (fun x1 s1 q1 => ?_)
  obtain ⟨rfl, c1, f1⟩ := q1
  refine al_aload_n dL_law_1113 rfl ?_
  refine al_cv0q rfl cl_L_154 dL_law_1114 (c_X8_on (ad_c8_f7 h8 f1) (by omega)) (by omega) (by show _ < 1; omega) (Nat.le_of_ble_eq_true rfl) (fun x2 s2 q2 => ?_)
  obtain ⟨rfl, c2, f2⟩ := q2
  refine al_icmp_same 1145 dL_law_1117 (by decide) ?_
  exact hnext _ _ (ad_c7_f8 c1 f2) c2
theorem law_case_34 {g : ad_G} {d : Nat} {b n0 : Nat} {xs : Nat → Int32} {ZL : Nat → List Value → ad_Mem → Prop} {σ : ad_Mem} {C : ad_C7} {i : Nat} (hn : n0 ≤ 2048) (hi : (i : Int) + 4 ≤ (n0 : Int)) (h80d : 80 ≤ d) (h7 : ad_c7 σ C) (h8 : ad_c8 σ C) (hnext : ∀ (C1 : ad_C7) (s1 : ad_Mem), ad_c7 s1 C1 → ad_c8 s1 C1 → ad_RL g mL_law d (al_X g b n0 xs) ZL 1145 [some (.ref b), some (ad_rf g 7 0), some (ad_rf g 8 0), some (ad_iv (i : Int))] [] s1) : ad_RL g mL_law d (al_X g b n0 xs) ZL 1122 [some (.ref b), some (ad_rf g 7 0), some (ad_rf g 8 0), some (ad_iv (i : Int))] [] σ := by
  refine al_aload_n dL_law_1122 rfl ?_
  refine al_aload_n dL_law_1123 rfl ?_
  refine al_iload_n dL_law_1124 rfl ?_
  refine al_iconst dL_law_1125 ?_
  refine al_iadd dL_law_1126 ?_
  refine al_sld dL_law_1127 (by omega) (by omega) hn ?_
  refine al_cv1q rfl cl_L_155 dL_law_1128 (c_X7_count h7 (al_rng _) (by omega)) (by omega) (by show _ < 1; omega) (Nat.le_of_ble_eq_true rfl) (fun x1 s1 q1 => ?_)
  obtain ⟨rfl, c1, f1⟩ := q1
  refine al_aload_n dL_law_1131 rfl ?_
  refine al_aload_n dL_law_1132 rfl ?_
  refine al_iload_n dL_law_1133 rfl ?_
  refine al_iconst dL_law_1134 ?_
  refine al_iadd dL_law_1135 ?_
  refine al_sld dL_law_1136 (by omega) (by omega) hn ?_
  refine al_cv1q rfl cl_L_158 dL_law_1137 (c_X8_count (al_rng _) (ad_c8_f7 h8 f1) (by omega)) (by omega) (by show _ < 1; omega) (Nat.le_of_ble_eq_true rfl) (fun x2 s2 q2 => ?_)
  obtain ⟨rfl, c2, f2⟩ := q2
  refine al_icmp_same 1145 dL_law_1140 (by decide) ?_
  exact hnext _ _ (ad_c7_f8 c1 f2) c2
theorem law_loop {g : ad_G} {d : Nat} {b n0 : Nat} {xs : Nat → Int32} (hn : n0 ≤ 2048) (h80d : 80 ≤ d) : ∀ (n i : Nat) (σ : ad_Mem) (C : ad_C7), ad_c7 σ C → ad_c8 σ C → i ≤ n0 → n0 + 1 ≤ i + n → ad_RL g mL_law d (al_X g b n0 xs) (fun pc S _ => pc = 1152 ∧ S = [ad_iv 1]) 18 [some (.ref b), some (ad_rf g 7 0), some (ad_rf g 8 0), some (ad_iv (i : Int))] [] σ := by
  intro n
  induction n with
  | zero =>
    intro i σ C h7 h8 hi hin
    exfalso; omega
  | succ n ih =>
    intro i σ C h7 h8 hi hin
    refine al_iload_n dL_law_18 rfl ?_
    refine al_aload_n dL_law_19 rfl ?_
    refine al_slen dL_law_20 ?_
    refine al_iconst dL_law_21 ?_
    refine al_isub dL_law_22 ?_
    refine al_icmp_gt 1151 dL_law_23 (by decide) (by constructor <;> omega) (by constructor <;> omega) (fun h23 => ?_) (fun h23 => ?_)
    · refine al_iconst dL_law_1151 ?_
      exact al_stop ⟨rfl, rfl⟩
    · have hi4 : (i : Int) + 4 ≤ (n0 : Int) := by omega
      refine al_aload_n dL_law_26 rfl ?_
      refine al_iload_n dL_law_27 rfl ?_
      refine al_sld dL_law_28 (by omega) (by omega) hn ?_
      refine al_bipush dL_law_29 rfl ?_
      refine al_iand dL_law_31 ?_
      have ha := al_and_rng (xs (i : Int).toNat).toInt 63
      generalize ad_and (xs (i : Int).toNat).toInt 63 = a at ha ⊢
      have hnext : ∀ (C1 : ad_C7) (s1 : ad_Mem), ad_c7 s1 C1 → ad_c8 s1 C1 → ad_RL g mL_law d (al_X g b n0 xs) (fun pc S _ => pc = 1152 ∧ S = [ad_iv 1]) 1145 [some (.ref b), some (ad_rf g 7 0), some (ad_rf g 8 0), some (ad_iv (i : Int))] [] s1 := by
        intro C1 s1 k7 k8
        refine al_iinc dL_law_1145 rfl (by decide) rfl (by dsimp only [ad_set]) ?_
        refine al_goto 18 dL_law_1148 (by decide) ?_
        exact ih (i + 4) s1 C1 k7 k8 (by omega) (by omega)
      by_cases hs0 : a = 0
      · refine al_table dL_law_32 ha 188 (by rw [hs0]; rfl) ?_
        exact law_case_0 hn hi4 h80d h7 h8 hnext
      by_cases hs1 : a = 1
      · refine al_table dL_law_32 ha 211 (by rw [hs1]; rfl) ?_
        exact law_case_1 hn hi4 h80d h7 h8 hnext
      by_cases hs2 : a = 2
      · refine al_table dL_law_32 ha 224 (by rw [hs2]; rfl) ?_
        exact law_case_2 hn hi4 h80d h7 h8 hnext
      by_cases hs3 : a = 3
      · refine al_table dL_law_32 ha 267 (by rw [hs3]; rfl) ?_
        exact law_case_3 hn hi4 h80d h7 h8 hnext
      by_cases hs4 : a = 4
      · refine al_table dL_law_32 ha 300 (by rw [hs4]; rfl) ?_
        exact law_case_4 hn hi4 h80d h7 h8 hnext
      by_cases hs5 : a = 5
      · refine al_table dL_law_32 ha 333 (by rw [hs5]; rfl) ?_
        exact law_case_5 hn hi4 h80d h7 h8 hnext
      by_cases hs6 : a = 6
      · refine al_table dL_law_32 ha 366 (by rw [hs6]; rfl) ?_
        exact law_case_6 hn hi4 h80d h7 h8 hnext
      by_cases hs7 : a = 7
      · refine al_table dL_law_32 ha 389 (by rw [hs7]; rfl) ?_
        exact law_case_7 hn hi4 h80d h7 h8 hnext
      by_cases hs8 : a = 8
      · refine al_table dL_law_32 ha 402 (by rw [hs8]; rfl) ?_
        exact law_case_8 hn hi4 h80d h7 h8 hnext
      by_cases hs9 : a = 9
      · refine al_table dL_law_32 ha 415 (by rw [hs9]; rfl) ?_
        exact law_case_9 hn hi4 h80d h7 h8 hnext
      by_cases hs10 : a = 10
      · refine al_table dL_law_32 ha 458 (by rw [hs10]; rfl) ?_
        exact law_case_10 hn hi4 h80d h7 h8 hnext
      by_cases hs11 : a = 11
      · refine al_table dL_law_32 ha 491 (by rw [hs11]; rfl) ?_
        exact law_case_11 hn hi4 h80d h7 h8 hnext
      by_cases hs12 : a = 12
      · refine al_table dL_law_32 ha 524 (by rw [hs12]; rfl) ?_
        exact law_case_12 hn hi4 h80d h7 h8 hnext
      by_cases hs13 : a = 13
      · refine al_table dL_law_32 ha 567 (by rw [hs13]; rfl) ?_
        exact law_case_13 hn hi4 h80d h7 h8 hnext
      by_cases hs14 : a = 14
      · refine al_table dL_law_32 ha 610 (by rw [hs14]; rfl) ?_
        exact law_case_14 hn hi4 h80d h7 h8 hnext
      by_cases hs15 : a = 15
      · refine al_table dL_law_32 ha 633 (by rw [hs15]; rfl) ?_
        exact law_case_15 hn hi4 h80d h7 h8 hnext
      by_cases hs16 : a = 16
      · refine al_table dL_law_32 ha 656 (by rw [hs16]; rfl) ?_
        exact law_case_16 hn hi4 h80d h7 h8 hnext
      by_cases hs17 : a = 17
      · refine al_table dL_law_32 ha 689 (by rw [hs17]; rfl) ?_
        exact law_case_17 hn hi4 h80d h7 h8 hnext
      by_cases hs18 : a = 18
      · refine al_table dL_law_32 ha 712 (by rw [hs18]; rfl) ?_
        exact law_case_18 hn hi4 h80d h7 h8 hnext
      by_cases hs19 : a = 19
      · refine al_table dL_law_32 ha 735 (by rw [hs19]; rfl) ?_
        exact law_case_19 hn hi4 h80d h7 h8 hnext
      by_cases hs20 : a = 20
      · refine al_table dL_law_32 ha 768 (by rw [hs20]; rfl) ?_
        exact law_case_20 hn hi4 h80d h7 h8 hnext
      by_cases hs21 : a = 21
      · refine al_table dL_law_32 ha 801 (by rw [hs21]; rfl) ?_
        exact law_case_21 hn hi4 h80d h7 h8 hnext
      by_cases hs22 : a = 22
      · refine al_table dL_law_32 ha 824 (by rw [hs22]; rfl) ?_
        exact law_case_22 hn hi4 h80d h7 h8 hnext
      by_cases hs23 : a = 23
      · refine al_table dL_law_32 ha 867 (by rw [hs23]; rfl) ?_
        exact law_case_23 hn hi4 h80d h7 h8 hnext
      by_cases hs24 : a = 24
      · refine al_table dL_law_32 ha 880 (by rw [hs24]; rfl) ?_
        exact law_case_24 hn hi4 h80d h7 h8 hnext
      by_cases hs25 : a = 25
      · refine al_table dL_law_32 ha 903 (by rw [hs25]; rfl) ?_
        exact law_case_25 hn hi4 h80d h7 h8 hnext
      by_cases hs26 : a = 26
      · refine al_table dL_law_32 ha 947 (by rw [hs26]; rfl) ?_
        exact law_case_26 hn hi4 h80d h7 h8 hnext
      by_cases hs27 : a = 27
      · refine al_table dL_law_32 ha 971 (by rw [hs27]; rfl) ?_
        exact law_case_27 hn hi4 h80d h7 h8 hnext
      by_cases hs28 : a = 28
      · refine al_table dL_law_32 ha 994 (by rw [hs28]; rfl) ?_
        exact law_case_28 hn hi4 h80d h7 h8 hnext
      by_cases hs29 : a = 29
      · refine al_table dL_law_32 ha 1017 (by rw [hs29]; rfl) ?_
        exact law_case_29 hn hi4 h80d h7 h8 hnext
      by_cases hs30 : a = 30
      · refine al_table dL_law_32 ha 1040 (by rw [hs30]; rfl) ?_
        exact law_case_30 hn hi4 h80d h7 h8 hnext
      by_cases hs31 : a = 31
      · refine al_table dL_law_32 ha 1053 (by rw [hs31]; rfl) ?_
        exact law_case_31 hn hi4 h80d h7 h8 hnext
      by_cases hs32 : a = 32
      · refine al_table dL_law_32 ha 1096 (by rw [hs32]; rfl) ?_
        exact law_case_32 hn hi4 h80d h7 h8 hnext
      by_cases hs33 : a = 33
      · refine al_table dL_law_32 ha 1109 (by rw [hs33]; rfl) ?_
        exact law_case_33 hn hi4 h80d h7 h8 hnext
      by_cases hs34 : a = 34
      · refine al_table dL_law_32 ha 1122 (by rw [hs34]; rfl) ?_
        exact law_case_34 hn hi4 h80d h7 h8 hnext
      refine al_table dL_law_32 ha 1145 (by rw [if_pos (by omega)]; rfl) ?_
      exact hnext C σ h7 h8
