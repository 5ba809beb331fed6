set_option maxRecDepth 20000 in
set_option maxHeartbeats 2000000 in
theorem cs_0 {tab : List ExceptionTableEntry} {K : Nat → Nat} {x : Xt Tx} {G : Gt} {cB : ClassId} {b L : Nat} {xs : Nat → Int32} (C0 : Cx x code 9 RL (some .boolean) tab wsL room_1 G.1 (tys9 G cB)) (CV : Cv K x code 9 RL (some .boolean) tab wsL room_1 G.1 (tys9 G cB)) (X : Wt x G.1) (S9 : CS9 x b L xs) {B kc ns p : Nat} {σ : Mem} {T : Tx} (hI : LI K cB B σ T) (hB : B ≤ 600) (hp : p + 5 ≤ L) (hL : L ≤ 2560) (hr : kc + 1000 ≤ 892405 ∧ ns + 10000 ≤ 6351306) (hk : ∀ σ1 T1, LI K cB (B + 1) σ1 T1 → J x (lo5 G b p) [] (wsF G σ1 ++ T1) 2115 (kc + 1000) (ns + 10000)) : J x (lo5 G b p) [] (wsF G σ ++ T) 228 kc ns := by
  obtain ⟨t, σ1, r, σ2, e1, e2, e3, e4, e5, e6⟩ := join_G2 (fun _ _ h => op_addLevel (n := 2000) (n' := 2000) (by decide) (xs (p + 1)) (xs (p + 2)) (xs (p + 3)) (xs (p + 4)) h) hI.1
  show J x [(5, .int (nI p)), (4, .ref (G.2.2 50)), (3, .ref (G.2.2 49)), (2, .ref (G.2.2 41)), (1, .ref (G.2.2 40)), (0, .ref b)] [] (wsF G σ ++ T) 228 (kc + 0) (ns + 0)
  refine j_aload_n C0 dL_law_228 4 rfl ?_
  refine j_aload_n C0 dL_law_229 5 rfl ?_
  refine j_iload C0 dL_law_230 0 rfl ?_
  refine j_iconst C0 dL_law_232 ((1 : Int32)) (by decide) ?_
  refine j_iadd C0 dL_law_233 ?_
  refine jt_eqI (b := nI (p + 1)) (add_nI p 1) ?_
  refine jl_sld S9 dL_law_234 (p := p + 1) (by omega) (by omega) ?_
  refine j_aload_n C0 dL_law_235 5 rfl ?_
  refine j_iload C0 dL_law_236 0 rfl ?_
  refine j_iconst C0 dL_law_238 ((2 : Int32)) (by decide) ?_
  refine j_iadd C0 dL_law_239 ?_
  refine jt_eqI (b := nI (p + 2)) (add_nI p 2) ?_
  refine jl_sld S9 dL_law_240 (p := p + 2) (by omega) (by omega) ?_
  refine j_aload_n C0 dL_law_241 5 rfl ?_
  refine j_iload C0 dL_law_242 0 rfl ?_
  refine j_iconst C0 dL_law_244 ((3 : Int32)) (by decide) ?_
  refine j_iadd C0 dL_law_245 ?_
  refine jt_eqI (b := nI (p + 3)) (add_nI p 3) ?_
  refine jl_sld S9 dL_law_246 (p := p + 3) (by omega) (by omega) ?_
  refine j_aload_n C0 dL_law_247 5 rfl ?_
  refine j_iload C0 dL_law_248 0 rfl ?_
  refine j_iconst C0 dL_law_250 ((4 : Int32)) (by decide) ?_
  refine j_iadd C0 dL_law_251 ?_
  refine jt_eqI (b := nI (p + 4)) (add_nI p 4) ?_
  refine jl_sld S9 dL_law_252 (p := p + 4) (by omega) (by omega) ?_
  refine j_aload_n C0 dL_law_253 2 rfl ?_
  refine jm_callSX CV X (c_L_addLevel 2000 G σ 40 (xs (p + 1)) (xs (p + 2)) (xs (p + 3)) (xs (p + 4)) 49 ok40 ok49 _ _ e1) dL_law_254 (gSm9 v_295 v_296 v_297 v_298) rfl hy_L_addLevel rfl rfl ⟨Nat.le_of_ble_eq_true rfl, Nat.le_of_ble_eq_true rfl⟩ (Nat.le_of_ble_eq_true rfl) (Nat.le_of_ble_eq_true rfl) (Nat.le_of_ble_eq_true rfl) (show kc + 0 + 60 ≤ 892405 ∧ ns + 0 + 2100 ≤ 6351306 by omega) ?_
  show J x [(5, .int (nI p)), (4, .ref (G.2.2 50)), (3, .ref (G.2.2 49)), (2, .ref (G.2.2 41)), (1, .ref (G.2.2 40)), (0, .ref b)] [.int (t)] (wsF G σ1 ++ T) 257 (kc + 60) (ns + 2100)
  refine j_istore C0 dL_law_257 (by decide) [(6, .int (t)), (5, .int (nI p)), (4, .ref (G.2.2 50)), (3, .ref (G.2.2 49)), (2, .ref (G.2.2 41)), (1, .ref (G.2.2 40)), (0, .ref b)] rfl ?_
  refine j_aload_n C0 dL_law_259 4 rfl ?_
  refine j_aload_n C0 dL_law_260 6 rfl ?_
  refine j_iload C0 dL_law_261 1 rfl ?_
  refine j_iconst C0 dL_law_263 ((1 : Int32)) (by decide) ?_
  refine j_iadd C0 dL_law_264 ?_
  refine jt_eqI (b := nI (p + 1)) (add_nI p 1) ?_
  refine jl_sld S9 dL_law_265 (p := p + 1) (by omega) (by omega) ?_
  refine j_aload_n C0 dL_law_266 6 rfl ?_
  refine j_iload C0 dL_law_267 1 rfl ?_
  refine j_iconst C0 dL_law_269 ((2 : Int32)) (by decide) ?_
  refine j_iadd C0 dL_law_270 ?_
  refine jt_eqI (b := nI (p + 2)) (add_nI p 2) ?_
  refine jl_sld S9 dL_law_271 (p := p + 2) (by omega) (by omega) ?_
  refine j_aload_n C0 dL_law_272 6 rfl ?_
  refine j_iload C0 dL_law_273 1 rfl ?_
  refine j_iconst C0 dL_law_275 ((3 : Int32)) (by decide) ?_
  refine j_iadd C0 dL_law_276 ?_
  refine jt_eqI (b := nI (p + 3)) (add_nI p 3) ?_
  refine jl_sld S9 dL_law_277 (p := p + 3) (by omega) (by omega) ?_
  refine j_aload_n C0 dL_law_278 6 rfl ?_
  refine j_iload C0 dL_law_279 1 rfl ?_
  refine j_iconst C0 dL_law_281 ((4 : Int32)) (by decide) ?_
  refine j_iadd C0 dL_law_282 ?_
  refine jt_eqI (b := nI (p + 4)) (add_nI p 4) ?_
  refine jl_sld S9 dL_law_283 (p := p + 4) (by omega) (by omega) ?_
  refine jm_callV CV X (c_X6_addLevel 2000 G σ1 41 (xs (p + 1)) (xs (p + 2)) (xs (p + 3)) (xs (p + 4)) ok41 _ _ e2) dL_law_284 (gVm9 v_299 v_300 v_301 v_219 v_302) rfl hy_X6_addLevel rfl ok41 rfl (ci := 10) rfl rfl rfl ⟨Nat.le_of_ble_eq_true rfl, Nat.le_of_ble_eq_true rfl⟩ (Nat.le_of_ble_eq_true rfl) (Nat.le_of_ble_eq_true rfl) (Nat.le_of_ble_eq_true rfl) (show kc + 60 + 60 ≤ 892405 ∧ ns + 2100 + 2100 ≤ 6351306 by omega) ?_
  show J x [(6, .int (t)), (5, .int (nI p)), (4, .ref (G.2.2 50)), (3, .ref (G.2.2 49)), (2, .ref (G.2.2 41)), (1, .ref (G.2.2 40)), (0, .ref b)] [.int (r)] (wsF G σ2 ++ T) 287 (kc + 120) (ns + 4200)
  refine j_istore C0 dL_law_287 (by decide) [(7, .int (r)), (6, .int (t)), (5, .int (nI p)), (4, .ref (G.2.2 50)), (3, .ref (G.2.2 49)), (2, .ref (G.2.2 41)), (1, .ref (G.2.2 40)), (0, .ref b)] rfl ?_
  refine j_aload_n C0 dL_law_289 5 rfl ?_
  refine jm_callV CV X (c_X6_thrown 2000 G σ2 41 ok41 _ _ rfl) dL_law_290 (gVm9 v_303 v_304 v_305 v_219 v_306) rfl hy_X6_thrown rfl ok41 rfl (ci := 10) rfl rfl rfl ⟨Nat.le_of_ble_eq_true rfl, Nat.le_of_ble_eq_true rfl⟩ (Nat.le_of_ble_eq_true rfl) (Nat.le_of_ble_eq_true rfl) (Nat.le_of_ble_eq_true rfl) (show kc + 120 + 60 ≤ 892405 ∧ ns + 4200 + 2100 ≤ 6351306 by omega) ?_
  refine jt_eqI (b := t) e3 ?_
  show J x [(7, .int (r)), (6, .int (t)), (5, .int (nI p)), (4, .ref (G.2.2 50)), (3, .ref (G.2.2 49)), (2, .ref (G.2.2 41)), (1, .ref (G.2.2 40)), (0, .ref b)] [.int (t)] (wsF G σ2 ++ T) 293 (kc + 180) (ns + 6300)
  refine j_iload C0 dL_law_293 1 rfl ?_
  refine j_icmp_eq C0 dL_law_295 300 (by decide) (fun _ => ?_) (fun h => absurd rfl h)
  refine j_iload C0 dL_law_300 1 rfl ?_
  refine j_if_ne C0 dL_law_302 317 (by decide) (fun h0 => ?_) (fun h0 => ?_)
  · refine j_goto C0 dL_law_317 2115 (by decide) ?_
    refine j_sub [2, 3, 4, 5, 6, 7] (lo5 G b p) rfl ?_
    exact j_widen C0 (show kc + 180 ≤ kc + 1000 by omega) (show ns + 6300 ≤ ns + 10000 by omega) (hk σ2 T (hI.to (e5.mono (Nat.le_succ B)) e6))
  · refine j_aload_n C0 dL_law_305 4 rfl ?_
    refine j_iconst C0 dL_law_306 ((0 : Int32)) (by decide) ?_
    refine jl_lald C0 X dL_law_307 ?_
    rw [e4 h0]
    refine j_iload C0 dL_law_308 0 rfl ?_
    refine j_i2l C0 dL_law_310 ?_
    refine j_lcmp C0 dL_law_311 ?_
    refine jt_eqI (b := (0 : Int32)) (lg_cmp_self _) ?_
    refine j_if_eq C0 dL_law_312 317 (by decide) (fun _ => ?_) (fun h => absurd h (by decide))
    refine j_goto C0 dL_law_317 2115 (by decide) ?_
    refine j_sub [2, 3, 4, 5, 6, 7] (lo5 G b p) rfl ?_
    exact j_widen C0 (show kc + 180 ≤ kc + 1000 by omega) (show ns + 6300 ≤ ns + 10000 by omega) (hk σ2 T (hI.to (e5.mono (Nat.le_succ B)) e6))
set_option maxRecDepth 20000 in
set_option maxHeartbeats 2000000 in
theorem cs_1 {tab : List ExceptionTableEntry} {K : Nat → Nat} {x : Xt Tx} {G : Gt} {cB : ClassId} {b L : Nat} {xs : Nat → Int32} (C0 : Cx x code 9 RL (some .boolean) tab wsL room_1 G.1 (tys9 G cB)) (CV : Cv K x code 9 RL (some .boolean) tab wsL room_1 G.1 (tys9 G cB)) (X : Wt x G.1) (S9 : CS9 x b L xs) {B kc ns p : Nat} {σ : Mem} {T : Tx} (hI : LI K cB B σ T) (hB : B ≤ 600) (hp : p + 5 ≤ L) (hL : L ≤ 2560) (hr : kc + 1000 ≤ 892405 ∧ ns + 10000 ≤ 6351306) (hk : ∀ σ1 T1, LI K cB (B + 1) σ1 T1 → J x (lo5 G b p) [] (wsF G σ1 ++ T1) 2115 (kc + 1000) (ns + 10000)) : J x (lo5 G b p) [] (wsF G σ ++ T) 320 kc ns := by
  obtain ⟨r, σ1, σ2, e1, e2, e3, e5, e6⟩ := join_N2 (fun _ _ h => op_levelCount (n := 2000) (n' := 2000) h) hI.1
  show J x [(5, .int (nI p)), (4, .ref (G.2.2 50)), (3, .ref (G.2.2 49)), (2, .ref (G.2.2 41)), (1, .ref (G.2.2 40)), (0, .ref b)] [] (wsF G σ ++ T) 320 (kc + 0) (ns + 0)
  refine j_aload_n C0 dL_law_320 4 rfl ?_
  refine jm_callV CV X (c_X5_levelCount 2000 G σ 40 ok40 _ _ e1) dL_law_321 (gVm9 v_307 v_308 v_309 v_234 v_310) rfl hy_X5_levelCount rfl ok40 rfl (ci := 9) rfl rfl rfl ⟨Nat.le_of_ble_eq_true rfl, Nat.le_of_ble_eq_true rfl⟩ (Nat.le_of_ble_eq_true rfl) (Nat.le_of_ble_eq_true rfl) (Nat.le_of_ble_eq_true rfl) (show kc + 0 + 60 ≤ 892405 ∧ ns + 0 + 2100 ≤ 6351306 by omega) ?_
  show J x [(5, .int (nI p)), (4, .ref (G.2.2 50)), (3, .ref (G.2.2 49)), (2, .ref (G.2.2 41)), (1, .ref (G.2.2 40)), (0, .ref b)] [.int (r)] (wsF G σ1 ++ T) 324 (kc + 60) (ns + 2100)
  refine j_aload_n C0 dL_law_324 3 rfl ?_
  refine jm_callV CV X (c_X6_levelCount 2000 G σ1 41 ok41 _ _ e2) dL_law_325 (gVm9 v_311 v_312 v_313 v_219 v_314) rfl hy_X6_levelCount rfl ok41 rfl (ci := 10) rfl rfl rfl ⟨Nat.le_of_ble_eq_true rfl, Nat.le_of_ble_eq_true rfl⟩ (Nat.le_of_ble_eq_true rfl) (Nat.le_of_ble_eq_true rfl) (Nat.le_of_ble_eq_true rfl) (show kc + 60 + 60 ≤ 892405 ∧ ns + 2100 + 2100 ≤ 6351306 by omega) ?_
  show J x [(5, .int (nI p)), (4, .ref (G.2.2 50)), (3, .ref (G.2.2 49)), (2, .ref (G.2.2 41)), (1, .ref (G.2.2 40)), (0, .ref b)] [.int (r), .int (r)] (wsF G σ2 ++ T) 328 (kc + 120) (ns + 4200)
  refine j_icmp_eq C0 dL_law_328 2115 (by decide) (fun _ => ?_) (fun h => absurd rfl h)
  refine j_sub [0, 1, 2, 3, 4, 5] (lo5 G b p) rfl ?_
  exact j_widen C0 (show kc + 120 ≤ kc + 1000 by omega) (show ns + 4200 ≤ ns + 10000 by omega) (hk σ2 T (hI.to (e5.mono (Nat.le_succ B)) e6))
set_option maxRecDepth 20000 in
set_option maxHeartbeats 2000000 in
theorem cs_2 {tab : List ExceptionTableEntry} {K : Nat → Nat} {x : Xt Tx} {G : Gt} {cB : ClassId} {b L : Nat} {xs : Nat → Int32} (C0 : Cx x code 9 RL (some .boolean) tab wsL room_1 G.1 (tys9 G cB)) (CV : Cv K x code 9 RL (some .boolean) tab wsL room_1 G.1 (tys9 G cB)) (X : Wt x G.1) (S9 : CS9 x b L xs) {B kc ns p : Nat} {σ : Mem} {T : Tx} (hI : LI K cB B σ T) (hB : B ≤ 600) (hp : p + 5 ≤ L) (hL : L ≤ 2560) (hr : kc + 1000 ≤ 892405 ∧ ns + 10000 ≤ 6351306) (hk : ∀ σ1 T1, LI K cB (B + 1) σ1 T1 → J x (lo5 G b p) [] (wsF G σ1 ++ T1) 2115 (kc + 1000) (ns + 10000)) : J x (lo5 G b p) [] (wsF G σ ++ T) 333 kc ns := by
  obtain ⟨t, σ1, r, σ2, e1, e2, e3, e4, e5, e6⟩ := join_G2 (fun _ _ h => op_depthOf (n := 2000) (n' := 2000) (xs (p + 1)) h) hI.1
  show J x [(5, .int (nI p)), (4, .ref (G.2.2 50)), (3, .ref (G.2.2 49)), (2, .ref (G.2.2 41)), (1, .ref (G.2.2 40)), (0, .ref b)] [] (wsF G σ ++ T) 333 (kc + 0) (ns + 0)
  refine j_aload_n C0 dL_law_333 4 rfl ?_
  refine j_aload_n C0 dL_law_334 5 rfl ?_
  refine j_iload C0 dL_law_335 0 rfl ?_
  refine j_iconst C0 dL_law_337 ((1 : Int32)) (by decide) ?_
  refine j_iadd C0 dL_law_338 ?_
  refine jt_eqI (b := nI (p + 1)) (add_nI p 1) ?_
  refine jl_sld S9 dL_law_339 (p := p + 1) (by omega) (by omega) ?_
  refine j_aload_n C0 dL_law_340 2 rfl ?_
  refine jm_callSX CV X (c_L_depthOf 2000 G σ 40 (xs (p + 1)) 49 ok40 ok49 _ _ e1) dL_law_341 (gSm9 v_315 v_316 v_297 v_317) rfl hy_L_depthOf rfl rfl ⟨Nat.le_of_ble_eq_true rfl, Nat.le_of_ble_eq_true rfl⟩ (Nat.le_of_ble_eq_true rfl) (Nat.le_of_ble_eq_true rfl) (Nat.le_of_ble_eq_true rfl) (show kc + 0 + 60 ≤ 892405 ∧ ns + 0 + 2100 ≤ 6351306 by omega) ?_
  show J x [(5, .int (nI p)), (4, .ref (G.2.2 50)), (3, .ref (G.2.2 49)), (2, .ref (G.2.2 41)), (1, .ref (G.2.2 40)), (0, .ref b)] [.int (t)] (wsF G σ1 ++ T) 344 (kc + 60) (ns + 2100)
  refine j_istore C0 dL_law_344 (by decide) [(6, .int (t)), (5, .int (nI p)), (4, .ref (G.2.2 50)), (3, .ref (G.2.2 49)), (2, .ref (G.2.2 41)), (1, .ref (G.2.2 40)), (0, .ref b)] rfl ?_
  refine j_aload_n C0 dL_law_346 4 rfl ?_
  refine j_aload_n C0 dL_law_347 6 rfl ?_
  refine j_iload C0 dL_law_348 1 rfl ?_
  refine j_iconst C0 dL_law_350 ((1 : Int32)) (by decide) ?_
  refine j_iadd C0 dL_law_351 ?_
  refine jt_eqI (b := nI (p + 1)) (add_nI p 1) ?_
  refine jl_sld S9 dL_law_352 (p := p + 1) (by omega) (by omega) ?_
  refine jm_callV CV X (c_X6_depthOf 2000 G σ1 41 (xs (p + 1)) ok41 _ _ e2) dL_law_353 (gVm9 v_318 v_319 v_320 v_219 v_321) rfl hy_X6_depthOf rfl ok41 rfl (ci := 10) rfl rfl rfl ⟨Nat.le_of_ble_eq_true rfl, Nat.le_of_ble_eq_true rfl⟩ (Nat.le_of_ble_eq_true rfl) (Nat.le_of_ble_eq_true rfl) (Nat.le_of_ble_eq_true rfl) (show kc + 60 + 60 ≤ 892405 ∧ ns + 2100 + 2100 ≤ 6351306 by omega) ?_
  show J x [(6, .int (t)), (5, .int (nI p)), (4, .ref (G.2.2 50)), (3, .ref (G.2.2 49)), (2, .ref (G.2.2 41)), (1, .ref (G.2.2 40)), (0, .ref b)] [.int (r)] (wsF G σ2 ++ T) 356 (kc + 120) (ns + 4200)
  refine j_istore C0 dL_law_356 (by decide) [(7, .int (r)), (6, .int (t)), (5, .int (nI p)), (4, .ref (G.2.2 50)), (3, .ref (G.2.2 49)), (2, .ref (G.2.2 41)), (1, .ref (G.2.2 40)), (0, .ref b)] rfl ?_
  refine j_aload_n C0 dL_law_358 5 rfl ?_
  refine jm_callV CV X (c_X6_thrown 2000 G σ2 41 ok41 _ _ rfl) dL_law_359 (gVm9 v_303 v_304 v_305 v_219 v_306) rfl hy_X6_thrown rfl ok41 rfl (ci := 10) rfl rfl rfl ⟨Nat.le_of_ble_eq_true rfl, Nat.le_of_ble_eq_true rfl⟩ (Nat.le_of_ble_eq_true rfl) (Nat.le_of_ble_eq_true rfl) (Nat.le_of_ble_eq_true rfl) (show kc + 120 + 60 ≤ 892405 ∧ ns + 4200 + 2100 ≤ 6351306 by omega) ?_
  refine jt_eqI (b := t) e3 ?_
  show J x [(7, .int (r)), (6, .int (t)), (5, .int (nI p)), (4, .ref (G.2.2 50)), (3, .ref (G.2.2 49)), (2, .ref (G.2.2 41)), (1, .ref (G.2.2 40)), (0, .ref b)] [.int (t)] (wsF G σ2 ++ T) 362 (kc + 180) (ns + 6300)
  refine j_iload C0 dL_law_362 1 rfl ?_
  refine j_icmp_eq C0 dL_law_364 369 (by decide) (fun _ => ?_) (fun h => absurd rfl h)
  refine j_iload C0 dL_law_369 1 rfl ?_
  refine j_if_ne C0 dL_law_371 386 (by decide) (fun h0 => ?_) (fun h0 => ?_)
  · refine j_goto C0 dL_law_386 2115 (by decide) ?_
    refine j_sub [2, 3, 4, 5, 6, 7] (lo5 G b p) rfl ?_
    exact j_widen C0 (show kc + 180 ≤ kc + 1000 by omega) (show ns + 6300 ≤ ns + 10000 by omega) (hk σ2 T (hI.to (e5.mono (Nat.le_succ B)) e6))
  · refine j_aload_n C0 dL_law_374 4 rfl ?_
    refine j_iconst C0 dL_law_375 ((0 : Int32)) (by decide) ?_
    refine jl_lald C0 X dL_law_376 ?_
    rw [e4 h0]
    refine j_iload C0 dL_law_377 0 rfl ?_
    refine j_i2l C0 dL_law_379 ?_
    refine j_lcmp C0 dL_law_380 ?_
    refine jt_eqI (b := (0 : Int32)) (lg_cmp_self _) ?_
    refine j_if_eq C0 dL_law_381 386 (by decide) (fun _ => ?_) (fun h => absurd h (by decide))
    refine j_goto C0 dL_law_386 2115 (by decide) ?_
    refine j_sub [2, 3, 4, 5, 6, 7] (lo5 G b p) rfl ?_
    exact j_widen C0 (show kc + 180 ≤ kc + 1000 by omega) (show ns + 6300 ≤ ns + 10000 by omega) (hk σ2 T (hI.to (e5.mono (Nat.le_succ B)) e6))
set_option maxRecDepth 20000 in
set_option maxHeartbeats 2000000 in
theorem cs_3 {tab : List ExceptionTableEntry} {K : Nat → Nat} {x : Xt Tx} {G : Gt} {cB : ClassId} {b L : Nat} {xs : Nat → Int32} (C0 : Cx x code 9 RL (some .boolean) tab wsL room_1 G.1 (tys9 G cB)) (CV : Cv K x code 9 RL (some .boolean) tab wsL room_1 G.1 (tys9 G cB)) (X : Wt x G.1) (S9 : CS9 x b L xs) {B kc ns p : Nat} {σ : Mem} {T : Tx} (hI : LI K cB B σ T) (hB : B ≤ 600) (hp : p + 5 ≤ L) (hL : L ≤ 2560) (hr : kc + 1000 ≤ 892405 ∧ ns + 10000 ≤ 6351306) (hk : ∀ σ1 T1, LI K cB (B + 1) σ1 T1 → J x (lo5 G b p) [] (wsF G σ1 ++ T1) 2115 (kc + 1000) (ns + 10000)) : J x (lo5 G b p) [] (wsF G σ ++ T) 389 kc ns := by
  obtain ⟨t, σ1, r, σ2, e1, e2, e3, e4, e5, e6⟩ := join_G2 (fun _ _ h => op_setFan (n := 2000) (n' := 2000) (by decide) (xs (p + 1)) h) hI.1
  show J x [(5, .int (nI p)), (4, .ref (G.2.2 50)), (3, .ref (G.2.2 49)), (2, .ref (G.2.2 41)), (1, .ref (G.2.2 40)), (0, .ref b)] [] (wsF G σ ++ T) 389 (kc + 0) (ns + 0)
  refine j_aload_n C0 dL_law_389 4 rfl ?_
  refine j_aload_n C0 dL_law_390 5 rfl ?_
  refine j_iload C0 dL_law_391 0 rfl ?_
  refine j_iconst C0 dL_law_393 ((1 : Int32)) (by decide) ?_
  refine j_iadd C0 dL_law_394 ?_
  refine jt_eqI (b := nI (p + 1)) (add_nI p 1) ?_
  refine jl_sld S9 dL_law_395 (p := p + 1) (by omega) (by omega) ?_
  refine j_aload_n C0 dL_law_396 2 rfl ?_
  refine jm_callSX CV X (c_L_setFan 2000 G σ 40 (xs (p + 1)) 49 ok40 ok49 _ _ e1) dL_law_397 (gSm9 v_322 v_323 v_297 v_324) rfl hy_L_setFan rfl rfl ⟨Nat.le_of_ble_eq_true rfl, Nat.le_of_ble_eq_true rfl⟩ (Nat.le_of_ble_eq_true rfl) (Nat.le_of_ble_eq_true rfl) (Nat.le_of_ble_eq_true rfl) (show kc + 0 + 60 ≤ 892405 ∧ ns + 0 + 2100 ≤ 6351306 by omega) ?_
  show J x [(5, .int (nI p)), (4, .ref (G.2.2 50)), (3, .ref (G.2.2 49)), (2, .ref (G.2.2 41)), (1, .ref (G.2.2 40)), (0, .ref b)] [.int (t)] (wsF G σ1 ++ T) 400 (kc + 60) (ns + 2100)
  refine j_istore C0 dL_law_400 (by decide) [(6, .int (t)), (5, .int (nI p)), (4, .ref (G.2.2 50)), (3, .ref (G.2.2 49)), (2, .ref (G.2.2 41)), (1, .ref (G.2.2 40)), (0, .ref b)] rfl ?_
  refine j_aload_n C0 dL_law_402 4 rfl ?_
  refine j_aload_n C0 dL_law_403 6 rfl ?_
  refine j_iload C0 dL_law_404 1 rfl ?_
  refine j_iconst C0 dL_law_406 ((1 : Int32)) (by decide) ?_
  refine j_iadd C0 dL_law_407 ?_
  refine jt_eqI (b := nI (p + 1)) (add_nI p 1) ?_
  refine jl_sld S9 dL_law_408 (p := p + 1) (by omega) (by omega) ?_
  refine jm_callV CV X (c_X6_setFan 2000 G σ1 41 (xs (p + 1)) ok41 _ _ e2) dL_law_409 (gVm9 v_325 v_326 v_327 v_219 v_328) rfl hy_X6_setFan rfl ok41 rfl (ci := 10) rfl rfl rfl ⟨Nat.le_of_ble_eq_true rfl, Nat.le_of_ble_eq_true rfl⟩ (Nat.le_of_ble_eq_true rfl) (Nat.le_of_ble_eq_true rfl) (Nat.le_of_ble_eq_true rfl) (show kc + 60 + 60 ≤ 892405 ∧ ns + 2100 + 2100 ≤ 6351306 by omega) ?_
  show J x [(6, .int (t)), (5, .int (nI p)), (4, .ref (G.2.2 50)), (3, .ref (G.2.2 49)), (2, .ref (G.2.2 41)), (1, .ref (G.2.2 40)), (0, .ref b)] [.int (r)] (wsF G σ2 ++ T) 412 (kc + 120) (ns + 4200)
  refine j_istore C0 dL_law_412 (by decide) [(7, .int (r)), (6, .int (t)), (5, .int (nI p)), (4, .ref (G.2.2 50)), (3, .ref (G.2.2 49)), (2, .ref (G.2.2 41)), (1, .ref (G.2.2 40)), (0, .ref b)] rfl ?_
  refine j_aload_n C0 dL_law_414 5 rfl ?_
  refine jm_callV CV X (c_X6_thrown 2000 G σ2 41 ok41 _ _ rfl) dL_law_415 (gVm9 v_303 v_304 v_305 v_219 v_306) rfl hy_X6_thrown rfl ok41 rfl (ci := 10) rfl rfl rfl ⟨Nat.le_of_ble_eq_true rfl, Nat.le_of_ble_eq_true rfl⟩ (Nat.le_of_ble_eq_true rfl) (Nat.le_of_ble_eq_true rfl) (Nat.le_of_ble_eq_true rfl) (show kc + 120 + 60 ≤ 892405 ∧ ns + 4200 + 2100 ≤ 6351306 by omega) ?_
  refine jt_eqI (b := t) e3 ?_
  show J x [(7, .int (r)), (6, .int (t)), (5, .int (nI p)), (4, .ref (G.2.2 50)), (3, .ref (G.2.2 49)), (2, .ref (G.2.2 41)), (1, .ref (G.2.2 40)), (0, .ref b)] [.int (t)] (wsF G σ2 ++ T) 418 (kc + 180) (ns + 6300)
  refine j_iload C0 dL_law_418 1 rfl ?_
  refine j_icmp_eq C0 dL_law_420 425 (by decide) (fun _ => ?_) (fun h => absurd rfl h)
  refine j_iload C0 dL_law_425 1 rfl ?_
  refine j_if_ne C0 dL_law_427 442 (by decide) (fun h0 => ?_) (fun h0 => ?_)
  · refine j_goto C0 dL_law_442 2115 (by decide) ?_
    refine j_sub [2, 3, 4, 5, 6, 7] (lo5 G b p) rfl ?_
    exact j_widen C0 (show kc + 180 ≤ kc + 1000 by omega) (show ns + 6300 ≤ ns + 10000 by omega) (hk σ2 T (hI.to (e5.mono (Nat.le_succ B)) e6))
  · refine j_aload_n C0 dL_law_430 4 rfl ?_
    refine j_iconst C0 dL_law_431 ((0 : Int32)) (by decide) ?_
    refine jl_lald C0 X dL_law_432 ?_
    rw [e4 h0]
    refine j_iload C0 dL_law_433 0 rfl ?_
    refine j_i2l C0 dL_law_435 ?_
    refine j_lcmp C0 dL_law_436 ?_
    refine jt_eqI (b := (0 : Int32)) (lg_cmp_self _) ?_
    refine j_if_eq C0 dL_law_437 442 (by decide) (fun _ => ?_) (fun h => absurd h (by decide))
    refine j_goto C0 dL_law_442 2115 (by decide) ?_
    refine j_sub [2, 3, 4, 5, 6, 7] (lo5 G b p) rfl ?_
    exact j_widen C0 (show kc + 180 ≤ kc + 1000 by omega) (show ns + 6300 ≤ ns + 10000 by omega) (hk σ2 T (hI.to (e5.mono (Nat.le_succ B)) e6))
set_option maxRecDepth 20000 in
set_option maxHeartbeats 2000000 in
theorem cs_4 {tab : List ExceptionTableEntry} {K : Nat → Nat} {x : Xt Tx} {G : Gt} {cB : ClassId} {b L : Nat} {xs : Nat → Int32} (C0 : Cx x code 9 RL (some .boolean) tab wsL room_1 G.1 (tys9 G cB)) (CV : Cv K x code 9 RL (some .boolean) tab wsL room_1 G.1 (tys9 G cB)) (X : Wt x G.1) (S9 : CS9 x b L xs) {B kc ns p : Nat} {σ : Mem} {T : Tx} (hI : LI K cB B σ T) (hB : B ≤ 600) (hp : p + 5 ≤ L) (hL : L ≤ 2560) (hr : kc + 1000 ≤ 892405 ∧ ns + 10000 ≤ 6351306) (hk : ∀ σ1 T1, LI K cB (B + 1) σ1 T1 → J x (lo5 G b p) [] (wsF G σ1 ++ T1) 2115 (kc + 1000) (ns + 10000)) : J x (lo5 G b p) [] (wsF G σ ++ T) 445 kc ns := by
  by_cases hc : xs (p + 2) = 0
  · have hb9 : (0 : Int32) = 0 ∨ (0 : Int32) = 1 := by decide
    obtain ⟨t, σ1, r, σ2, e1, e2, e3, e4, e5, e6⟩ := join_G2 (fun _ _ h => op_setDoor (n := 2000) (n' := 2000) (by decide) (xs (p + 1)) ((0 : Int32)) hb9 h) hI.1
    rcases z_setDoor e2 with hz | hz <;> subst hz
    · show J x [(5, .int (nI p)), (4, .ref (G.2.2 50)), (3, .ref (G.2.2 49)), (2, .ref (G.2.2 41)), (1, .ref (G.2.2 40)), (0, .ref b)] [] (wsF G σ ++ T) 445 (kc + 0) (ns + 0)
      refine j_aload_n C0 dL_law_445 4 rfl ?_
      refine j_aload_n C0 dL_law_446 5 rfl ?_
      refine j_iload C0 dL_law_447 0 rfl ?_
      refine j_iconst C0 dL_law_449 ((1 : Int32)) (by decide) ?_
      refine j_iadd C0 dL_law_450 ?_
      refine jt_eqI (b := nI (p + 1)) (add_nI p 1) ?_
      refine jl_sld S9 dL_law_451 (p := p + 1) (by omega) (by omega) ?_
      refine j_aload_n C0 dL_law_452 5 rfl ?_
      refine j_iload C0 dL_law_453 0 rfl ?_
      refine j_iconst C0 dL_law_455 ((2 : Int32)) (by decide) ?_
      refine j_iadd C0 dL_law_456 ?_
      refine jt_eqI (b := nI (p + 2)) (add_nI p 2) ?_
      refine jl_sld S9 dL_law_457 (p := p + 2) (by omega) (by omega) ?_
      refine j_if_eq C0 dL_law_458 465 (by decide) (fun _ => ?_) (fun h => absurd hc h)
      refine j_iconst C0 dL_law_465 ((0 : Int32)) (by decide) ?_
      refine j_aload_n C0 dL_law_466 2 rfl ?_
      refine jm_callSX CV X (c_L_setDoor 2000 G σ 40 (xs (p + 1)) ((0 : Int32)) 49 ok40 ok49 _ _ e1) dL_law_467 (gSm9 v_329 v_330 v_297 v_331) rfl hy_L_setDoor rfl rfl ⟨Nat.le_of_ble_eq_true rfl, Nat.le_of_ble_eq_true rfl⟩ (Nat.le_of_ble_eq_true rfl) (Nat.le_of_ble_eq_true rfl) (Nat.le_of_ble_eq_true rfl) (show kc + 0 + 60 ≤ 892405 ∧ ns + 0 + 2100 ≤ 6351306 by omega) ?_
      show J x [(5, .int (nI p)), (4, .ref (G.2.2 50)), (3, .ref (G.2.2 49)), (2, .ref (G.2.2 41)), (1, .ref (G.2.2 40)), (0, .ref b)] [.int (t)] (wsF G σ1 ++ T) 470 (kc + 60) (ns + 2100)
      refine j_istore C0 dL_law_470 (by decide) [(6, .int (t)), (5, .int (nI p)), (4, .ref (G.2.2 50)), (3, .ref (G.2.2 49)), (2, .ref (G.2.2 41)), (1, .ref (G.2.2 40)), (0, .ref b)] rfl ?_
      refine j_aload_n C0 dL_law_472 4 rfl ?_
      refine j_aload_n C0 dL_law_473 6 rfl ?_
      refine j_iload C0 dL_law_474 1 rfl ?_
      refine j_iconst C0 dL_law_476 ((1 : Int32)) (by decide) ?_
      refine j_iadd C0 dL_law_477 ?_
      refine jt_eqI (b := nI (p + 1)) (add_nI p 1) ?_
      refine jl_sld S9 dL_law_478 (p := p + 1) (by omega) (by omega) ?_
      refine j_aload_n C0 dL_law_479 6 rfl ?_
      refine j_iload C0 dL_law_480 1 rfl ?_
      refine j_iconst C0 dL_law_482 ((2 : Int32)) (by decide) ?_
      refine j_iadd C0 dL_law_483 ?_
      refine jt_eqI (b := nI (p + 2)) (add_nI p 2) ?_
      refine jl_sld S9 dL_law_484 (p := p + 2) (by omega) (by omega) ?_
      refine j_if_eq C0 dL_law_485 492 (by decide) (fun _ => ?_) (fun h => absurd hc h)
      refine j_iconst C0 dL_law_492 ((0 : Int32)) (by decide) ?_
      refine jm_callV CV X (c_X6_setDoor 2000 G σ1 41 (xs (p + 1)) ((0 : Int32)) ok41 _ _ e2) dL_law_493 (gVm9 v_332 v_333 v_334 v_219 v_335) rfl hy_X6_setDoor rfl ok41 rfl (ci := 10) rfl rfl rfl ⟨Nat.le_of_ble_eq_true rfl, Nat.le_of_ble_eq_true rfl⟩ (Nat.le_of_ble_eq_true rfl) (Nat.le_of_ble_eq_true rfl) (Nat.le_of_ble_eq_true rfl) (show kc + 60 + 60 ≤ 892405 ∧ ns + 2100 + 2100 ≤ 6351306 by omega) ?_
      show J x [(6, .int (t)), (5, .int (nI p)), (4, .ref (G.2.2 50)), (3, .ref (G.2.2 49)), (2, .ref (G.2.2 41)), (1, .ref (G.2.2 40)), (0, .ref b)] [.int ((0 : Int32))] (wsF G σ2 ++ T) 496 (kc + 120) (ns + 4200)
      refine j_istore C0 dL_law_496 (by decide) [(7, .int ((0 : Int32))), (6, .int (t)), (5, .int (nI p)), (4, .ref (G.2.2 50)), (3, .ref (G.2.2 49)), (2, .ref (G.2.2 41)), (1, .ref (G.2.2 40)), (0, .ref b)] rfl ?_
      refine j_aload_n C0 dL_law_498 5 rfl ?_
      refine jm_callV CV X (c_X6_thrown 2000 G σ2 41 ok41 _ _ rfl) dL_law_499 (gVm9 v_303 v_304 v_305 v_219 v_306) rfl hy_X6_thrown rfl ok41 rfl (ci := 10) rfl rfl rfl ⟨Nat.le_of_ble_eq_true rfl, Nat.le_of_ble_eq_true rfl⟩ (Nat.le_of_ble_eq_true rfl) (Nat.le_of_ble_eq_true rfl) (Nat.le_of_ble_eq_true rfl) (show kc + 120 + 60 ≤ 892405 ∧ ns + 4200 + 2100 ≤ 6351306 by omega) ?_
      refine jt_eqI (b := t) e3 ?_
      show J x [(7, .int ((0 : Int32))), (6, .int (t)), (5, .int (nI p)), (4, .ref (G.2.2 50)), (3, .ref (G.2.2 49)), (2, .ref (G.2.2 41)), (1, .ref (G.2.2 40)), (0, .ref b)] [.int (t)] (wsF G σ2 ++ T) 502 (kc + 180) (ns + 6300)
      refine j_iload C0 dL_law_502 1 rfl ?_
      refine j_icmp_eq C0 dL_law_504 509 (by decide) (fun _ => ?_) (fun h => absurd rfl h)
      refine j_iload C0 dL_law_509 1 rfl ?_
      refine j_if_ne C0 dL_law_511 533 (by decide) (fun h0 => ?_) (fun h0 => ?_)
      · refine j_goto C0 dL_law_533 2115 (by decide) ?_
        refine j_sub [2, 3, 4, 5, 6, 7] (lo5 G b p) rfl ?_
        exact j_widen C0 (show kc + 180 ≤ kc + 1000 by omega) (show ns + 6300 ≤ ns + 10000 by omega) (hk σ2 T (hI.to (e5.mono (Nat.le_succ B)) e6))
      · refine j_aload_n C0 dL_law_514 4 rfl ?_
        refine j_iconst C0 dL_law_515 ((0 : Int32)) (by decide) ?_
        refine jl_lald C0 X dL_law_516 ?_
        rw [e4 h0]
        refine j_iload C0 dL_law_517 0 rfl ?_
        refine j_if_eq C0 dL_law_519 526 (by decide) (fun _ => ?_) (fun h => absurd h (by decide))
        refine j_lconst C0 dL_law_526 ((0 : Int32).toInt64) (by decide) ?_
        refine j_lcmp C0 dL_law_527 ?_
        refine jt_eqI (b := (0 : Int32)) (lg_cmp_self _) ?_
        refine j_if_eq C0 dL_law_528 533 (by decide) (fun _ => ?_) (fun h => absurd h (by decide))
        refine j_goto C0 dL_law_533 2115 (by decide) ?_
        refine j_sub [2, 3, 4, 5, 6, 7] (lo5 G b p) rfl ?_
        exact j_widen C0 (show kc + 180 ≤ kc + 1000 by omega) (show ns + 6300 ≤ ns + 10000 by omega) (hk σ2 T (hI.to (e5.mono (Nat.le_succ B)) e6))
    · show J x [(5, .int (nI p)), (4, .ref (G.2.2 50)), (3, .ref (G.2.2 49)), (2, .ref (G.2.2 41)), (1, .ref (G.2.2 40)), (0, .ref b)] [] (wsF G σ ++ T) 445 (kc + 0) (ns + 0)
      refine j_aload_n C0 dL_law_445 4 rfl ?_
      refine j_aload_n C0 dL_law_446 5 rfl ?_
      refine j_iload C0 dL_law_447 0 rfl ?_
      refine j_iconst C0 dL_law_449 ((1 : Int32)) (by decide) ?_
      refine j_iadd C0 dL_law_450 ?_
      refine jt_eqI (b := nI (p + 1)) (add_nI p 1) ?_
      refine jl_sld S9 dL_law_451 (p := p + 1) (by omega) (by omega) ?_
      refine j_aload_n C0 dL_law_452 5 rfl ?_
      refine j_iload C0 dL_law_453 0 rfl ?_
      refine j_iconst C0 dL_law_455 ((2 : Int32)) (by decide) ?_
      refine j_iadd C0 dL_law_456 ?_
      refine jt_eqI (b := nI (p + 2)) (add_nI p 2) ?_
      refine jl_sld S9 dL_law_457 (p := p + 2) (by omega) (by omega) ?_
      refine j_if_eq C0 dL_law_458 465 (by decide) (fun _ => ?_) (fun h => absurd hc h)
      refine j_iconst C0 dL_law_465 ((0 : Int32)) (by decide) ?_
      refine j_aload_n C0 dL_law_466 2 rfl ?_
      refine jm_callSX CV X (c_L_setDoor 2000 G σ 40 (xs (p + 1)) ((0 : Int32)) 49 ok40 ok49 _ _ e1) dL_law_467 (gSm9 v_329 v_330 v_297 v_331) rfl hy_L_setDoor rfl rfl ⟨Nat.le_of_ble_eq_true rfl, Nat.le_of_ble_eq_true rfl⟩ (Nat.le_of_ble_eq_true rfl) (Nat.le_of_ble_eq_true rfl) (Nat.le_of_ble_eq_true rfl) (show kc + 0 + 60 ≤ 892405 ∧ ns + 0 + 2100 ≤ 6351306 by omega) ?_
      show J x [(5, .int (nI p)), (4, .ref (G.2.2 50)), (3, .ref (G.2.2 49)), (2, .ref (G.2.2 41)), (1, .ref (G.2.2 40)), (0, .ref b)] [.int (t)] (wsF G σ1 ++ T) 470 (kc + 60) (ns + 2100)
      refine j_istore C0 dL_law_470 (by decide) [(6, .int (t)), (5, .int (nI p)), (4, .ref (G.2.2 50)), (3, .ref (G.2.2 49)), (2, .ref (G.2.2 41)), (1, .ref (G.2.2 40)), (0, .ref b)] rfl ?_
      refine j_aload_n C0 dL_law_472 4 rfl ?_
      refine j_aload_n C0 dL_law_473 6 rfl ?_
      refine j_iload C0 dL_law_474 1 rfl ?_
      refine j_iconst C0 dL_law_476 ((1 : Int32)) (by decide) ?_
      refine j_iadd C0 dL_law_477 ?_
      refine jt_eqI (b := nI (p + 1)) (add_nI p 1) ?_
      refine jl_sld S9 dL_law_478 (p := p + 1) (by omega) (by omega) ?_
      refine j_aload_n C0 dL_law_479 6 rfl ?_
      refine j_iload C0 dL_law_480 1 rfl ?_
      refine j_iconst C0 dL_law_482 ((2 : Int32)) (by decide) ?_
      refine j_iadd C0 dL_law_483 ?_
      refine jt_eqI (b := nI (p + 2)) (add_nI p 2) ?_
      refine jl_sld S9 dL_law_484 (p := p + 2) (by omega) (by omega) ?_
      refine j_if_eq C0 dL_law_485 492 (by decide) (fun _ => ?_) (fun h => absurd hc h)
      refine j_iconst C0 dL_law_492 ((0 : Int32)) (by decide) ?_
      refine jm_callV CV X (c_X6_setDoor 2000 G σ1 41 (xs (p + 1)) ((0 : Int32)) ok41 _ _ e2) dL_law_493 (gVm9 v_332 v_333 v_334 v_219 v_335) rfl hy_X6_setDoor rfl ok41 rfl (ci := 10) rfl rfl rfl ⟨Nat.le_of_ble_eq_true rfl, Nat.le_of_ble_eq_true rfl⟩ (Nat.le_of_ble_eq_true rfl) (Nat.le_of_ble_eq_true rfl) (Nat.le_of_ble_eq_true rfl) (show kc + 60 + 60 ≤ 892405 ∧ ns + 2100 + 2100 ≤ 6351306 by omega) ?_
      show J x [(6, .int (t)), (5, .int (nI p)), (4, .ref (G.2.2 50)), (3, .ref (G.2.2 49)), (2, .ref (G.2.2 41)), (1, .ref (G.2.2 40)), (0, .ref b)] [.int ((1 : Int32))] (wsF G σ2 ++ T) 496 (kc + 120) (ns + 4200)
      refine j_istore C0 dL_law_496 (by decide) [(7, .int ((1 : Int32))), (6, .int (t)), (5, .int (nI p)), (4, .ref (G.2.2 50)), (3, .ref (G.2.2 49)), (2, .ref (G.2.2 41)), (1, .ref (G.2.2 40)), (0, .ref b)] rfl ?_
      refine j_aload_n C0 dL_law_498 5 rfl ?_
      refine jm_callV CV X (c_X6_thrown 2000 G σ2 41 ok41 _ _ rfl) dL_law_499 (gVm9 v_303 v_304 v_305 v_219 v_306) rfl hy_X6_thrown rfl ok41 rfl (ci := 10) rfl rfl rfl ⟨Nat.le_of_ble_eq_true rfl, Nat.le_of_ble_eq_true rfl⟩ (Nat.le_of_ble_eq_true rfl) (Nat.le_of_ble_eq_true rfl) (Nat.le_of_ble_eq_true rfl) (show kc + 120 + 60 ≤ 892405 ∧ ns + 4200 + 2100 ≤ 6351306 by omega) ?_
      refine jt_eqI (b := t) e3 ?_
      show J x [(7, .int ((1 : Int32))), (6, .int (t)), (5, .int (nI p)), (4, .ref (G.2.2 50)), (3, .ref (G.2.2 49)), (2, .ref (G.2.2 41)), (1, .ref (G.2.2 40)), (0, .ref b)] [.int (t)] (wsF G σ2 ++ T) 502 (kc + 180) (ns + 6300)
      refine j_iload C0 dL_law_502 1 rfl ?_
      refine j_icmp_eq C0 dL_law_504 509 (by decide) (fun _ => ?_) (fun h => absurd rfl h)
      refine j_iload C0 dL_law_509 1 rfl ?_
      refine j_if_ne C0 dL_law_511 533 (by decide) (fun h0 => ?_) (fun h0 => ?_)
      · refine j_goto C0 dL_law_533 2115 (by decide) ?_
        refine j_sub [2, 3, 4, 5, 6, 7] (lo5 G b p) rfl ?_
        exact j_widen C0 (show kc + 180 ≤ kc + 1000 by omega) (show ns + 6300 ≤ ns + 10000 by omega) (hk σ2 T (hI.to (e5.mono (Nat.le_succ B)) e6))
      · refine j_aload_n C0 dL_law_514 4 rfl ?_
        refine j_iconst C0 dL_law_515 ((0 : Int32)) (by decide) ?_
        refine jl_lald C0 X dL_law_516 ?_
        rw [e4 h0]
        refine j_iload C0 dL_law_517 0 rfl ?_
        refine j_if_eq C0 dL_law_519 526 (by decide) (fun h => absurd h (by decide)) (fun _ => ?_)
        refine j_lconst C0 dL_law_522 ((1 : Int32).toInt64) (by decide) ?_
        refine j_goto C0 dL_law_523 527 (by decide) ?_
        refine j_lcmp C0 dL_law_527 ?_
        refine jt_eqI (b := (0 : Int32)) (lg_cmp_self _) ?_
        refine j_if_eq C0 dL_law_528 533 (by decide) (fun _ => ?_) (fun h => absurd h (by decide))
        refine j_goto C0 dL_law_533 2115 (by decide) ?_
        refine j_sub [2, 3, 4, 5, 6, 7] (lo5 G b p) rfl ?_
        exact j_widen C0 (show kc + 180 ≤ kc + 1000 by omega) (show ns + 6300 ≤ ns + 10000 by omega) (hk σ2 T (hI.to (e5.mono (Nat.le_succ B)) e6))
  · have hb9 : (1 : Int32) = 0 ∨ (1 : Int32) = 1 := by decide
    obtain ⟨t, σ1, r, σ2, e1, e2, e3, e4, e5, e6⟩ := join_G2 (fun _ _ h => op_setDoor (n := 2000) (n' := 2000) (by decide) (xs (p + 1)) ((1 : Int32)) hb9 h) hI.1
    rcases z_setDoor e2 with hz | hz <;> subst hz
    · show J x [(5, .int (nI p)), (4, .ref (G.2.2 50)), (3, .ref (G.2.2 49)), (2, .ref (G.2.2 41)), (1, .ref (G.2.2 40)), (0, .ref b)] [] (wsF G σ ++ T) 445 (kc + 0) (ns + 0)
      refine j_aload_n C0 dL_law_445 4 rfl ?_
      refine j_aload_n C0 dL_law_446 5 rfl ?_
      refine j_iload C0 dL_law_447 0 rfl ?_
      refine j_iconst C0 dL_law_449 ((1 : Int32)) (by decide) ?_
      refine j_iadd C0 dL_law_450 ?_
      refine jt_eqI (b := nI (p + 1)) (add_nI p 1) ?_
      refine jl_sld S9 dL_law_451 (p := p + 1) (by omega) (by omega) ?_
      refine j_aload_n C0 dL_law_452 5 rfl ?_
      refine j_iload C0 dL_law_453 0 rfl ?_
      refine j_iconst C0 dL_law_455 ((2 : Int32)) (by decide) ?_
      refine j_iadd C0 dL_law_456 ?_
      refine jt_eqI (b := nI (p + 2)) (add_nI p 2) ?_
      refine jl_sld S9 dL_law_457 (p := p + 2) (by omega) (by omega) ?_
      refine j_if_eq C0 dL_law_458 465 (by decide) (fun h => absurd h hc) (fun _ => ?_)
      refine j_iconst C0 dL_law_461 ((1 : Int32)) (by decide) ?_
      refine j_goto C0 dL_law_462 466 (by decide) ?_
      refine j_aload_n C0 dL_law_466 2 rfl ?_
      refine jm_callSX CV X (c_L_setDoor 2000 G σ 40 (xs (p + 1)) ((1 : Int32)) 49 ok40 ok49 _ _ e1) dL_law_467 (gSm9 v_329 v_330 v_297 v_331) rfl hy_L_setDoor rfl rfl ⟨Nat.le_of_ble_eq_true rfl, Nat.le_of_ble_eq_true rfl⟩ (Nat.le_of_ble_eq_true rfl) (Nat.le_of_ble_eq_true rfl) (Nat.le_of_ble_eq_true rfl) (show kc + 0 + 60 ≤ 892405 ∧ ns + 0 + 2100 ≤ 6351306 by omega) ?_
      show J x [(5, .int (nI p)), (4, .ref (G.2.2 50)), (3, .ref (G.2.2 49)), (2, .ref (G.2.2 41)), (1, .ref (G.2.2 40)), (0, .ref b)] [.int (t)] (wsF G σ1 ++ T) 470 (kc + 60) (ns + 2100)
      refine j_istore C0 dL_law_470 (by decide) [(6, .int (t)), (5, .int (nI p)), (4, .ref (G.2.2 50)), (3, .ref (G.2.2 49)), (2, .ref (G.2.2 41)), (1, .ref (G.2.2 40)), (0, .ref b)] rfl ?_
      refine j_aload_n C0 dL_law_472 4 rfl ?_
      refine j_aload_n C0 dL_law_473 6 rfl ?_
      refine j_iload C0 dL_law_474 1 rfl ?_
      refine j_iconst C0 dL_law_476 ((1 : Int32)) (by decide) ?_
      refine j_iadd C0 dL_law_477 ?_
      refine jt_eqI (b := nI (p + 1)) (add_nI p 1) ?_
      refine jl_sld S9 dL_law_478 (p := p + 1) (by omega) (by omega) ?_
      refine j_aload_n C0 dL_law_479 6 rfl ?_
      refine j_iload C0 dL_law_480 1 rfl ?_
      refine j_iconst C0 dL_law_482 ((2 : Int32)) (by decide) ?_
      refine j_iadd C0 dL_law_483 ?_
      refine jt_eqI (b := nI (p + 2)) (add_nI p 2) ?_
      refine jl_sld S9 dL_law_484 (p := p + 2) (by omega) (by omega) ?_
      refine j_if_eq C0 dL_law_485 492 (by decide) (fun h => absurd h hc) (fun _ => ?_)
      refine j_iconst C0 dL_law_488 ((1 : Int32)) (by decide) ?_
      refine j_goto C0 dL_law_489 493 (by decide) ?_
      refine jm_callV CV X (c_X6_setDoor 2000 G σ1 41 (xs (p + 1)) ((1 : Int32)) ok41 _ _ e2) dL_law_493 (gVm9 v_332 v_333 v_334 v_219 v_335) rfl hy_X6_setDoor rfl ok41 rfl (ci := 10) rfl rfl rfl ⟨Nat.le_of_ble_eq_true rfl, Nat.le_of_ble_eq_true rfl⟩ (Nat.le_of_ble_eq_true rfl) (Nat.le_of_ble_eq_true rfl) (Nat.le_of_ble_eq_true rfl) (show kc + 60 + 60 ≤ 892405 ∧ ns + 2100 + 2100 ≤ 6351306 by omega) ?_
      show J x [(6, .int (t)), (5, .int (nI p)), (4, .ref (G.2.2 50)), (3, .ref (G.2.2 49)), (2, .ref (G.2.2 41)), (1, .ref (G.2.2 40)), (0, .ref b)] [.int ((0 : Int32))] (wsF G σ2 ++ T) 496 (kc + 120) (ns + 4200)
      refine j_istore C0 dL_law_496 (by decide) [(7, .int ((0 : Int32))), (6, .int (t)), (5, .int (nI p)), (4, .ref (G.2.2 50)), (3, .ref (G.2.2 49)), (2, .ref (G.2.2 41)), (1, .ref (G.2.2 40)), (0, .ref b)] rfl ?_
      refine j_aload_n C0 dL_law_498 5 rfl ?_
      refine jm_callV CV X (c_X6_thrown 2000 G σ2 41 ok41 _ _ rfl) dL_law_499 (gVm9 v_303 v_304 v_305 v_219 v_306) rfl hy_X6_thrown rfl ok41 rfl (ci := 10) rfl rfl rfl ⟨Nat.le_of_ble_eq_true rfl, Nat.le_of_ble_eq_true rfl⟩ (Nat.le_of_ble_eq_true rfl) (Nat.le_of_ble_eq_true rfl) (Nat.le_of_ble_eq_true rfl) (show kc + 120 + 60 ≤ 892405 ∧ ns + 4200 + 2100 ≤ 6351306 by omega) ?_
      refine jt_eqI (b := t) e3 ?_
      show J x [(7, .int ((0 : Int32))), (6, .int (t)), (5, .int (nI p)), (4, .ref (G.2.2 50)), (3, .ref (G.2.2 49)), (2, .ref (G.2.2 41)), (1, .ref (G.2.2 40)), (0, .ref b)] [.int (t)] (wsF G σ2 ++ T) 502 (kc + 180) (ns + 6300)
      refine j_iload C0 dL_law_502 1 rfl ?_
      refine j_icmp_eq C0 dL_law_504 509 (by decide) (fun _ => ?_) (fun h => absurd rfl h)
      refine j_iload C0 dL_law_509 1 rfl ?_
      refine j_if_ne C0 dL_law_511 533 (by decide) (fun h0 => ?_) (fun h0 => ?_)
      · refine j_goto C0 dL_law_533 2115 (by decide) ?_
        refine j_sub [2, 3, 4, 5, 6, 7] (lo5 G b p) rfl ?_
        exact j_widen C0 (show kc + 180 ≤ kc + 1000 by omega) (show ns + 6300 ≤ ns + 10000 by omega) (hk σ2 T (hI.to (e5.mono (Nat.le_succ B)) e6))
      · refine j_aload_n C0 dL_law_514 4 rfl ?_
        refine j_iconst C0 dL_law_515 ((0 : Int32)) (by decide) ?_
        refine jl_lald C0 X dL_law_516 ?_
        rw [e4 h0]
        refine j_iload C0 dL_law_517 0 rfl ?_
        refine j_if_eq C0 dL_law_519 526 (by decide) (fun _ => ?_) (fun h => absurd h (by decide))
        refine j_lconst C0 dL_law_526 ((0 : Int32).toInt64) (by decide) ?_
        refine j_lcmp C0 dL_law_527 ?_
        refine jt_eqI (b := (0 : Int32)) (lg_cmp_self _) ?_
        refine j_if_eq C0 dL_law_528 533 (by decide) (fun _ => ?_) (fun h => absurd h (by decide))
        refine j_goto C0 dL_law_533 2115 (by decide) ?_
        refine j_sub [2, 3, 4, 5, 6, 7] (lo5 G b p) rfl ?_
        exact j_widen C0 (show kc + 180 ≤ kc + 1000 by omega) (show ns + 6300 ≤ ns + 10000 by omega) (hk σ2 T (hI.to (e5.mono (Nat.le_succ B)) e6))
    · show J x [(5, .int (nI p)), (4, .ref (G.2.2 50)), (3, .ref (G.2.2 49)), (2, .ref (G.2.2 41)), (1, .ref (G.2.2 40)), (0, .ref b)] [] (wsF G σ ++ T) 445 (kc + 0) (ns + 0)
      refine j_aload_n C0 dL_law_445 4 rfl ?_
      refine j_aload_n C0 dL_law_446 5 rfl ?_
      refine j_iload C0 dL_law_447 0 rfl ?_
      refine j_iconst C0 dL_law_449 ((1 : Int32)) (by decide) ?_
      refine j_iadd C0 dL_law_450 ?_
      refine jt_eqI (b := nI (p + 1)) (add_nI p 1) ?_
      refine jl_sld S9 dL_law_451 (p := p + 1) (by omega) (by omega) ?_
      refine j_aload_n C0 dL_law_452 5 rfl ?_
      refine j_iload C0 dL_law_453 0 rfl ?_
      refine j_iconst C0 dL_law_455 ((2 : Int32)) (by decide) ?_
      refine j_iadd C0 dL_law_456 ?_
      refine jt_eqI (b := nI (p + 2)) (add_nI p 2) ?_
      refine jl_sld S9 dL_law_457 (p := p + 2) (by omega) (by omega) ?_
      refine j_if_eq C0 dL_law_458 465 (by decide) (fun h => absurd h hc) (fun _ => ?_)
      refine j_iconst C0 dL_law_461 ((1 : Int32)) (by decide) ?_
      refine j_goto C0 dL_law_462 466 (by decide) ?_
      refine j_aload_n C0 dL_law_466 2 rfl ?_
      refine jm_callSX CV X (c_L_setDoor 2000 G σ 40 (xs (p + 1)) ((1 : Int32)) 49 ok40 ok49 _ _ e1) dL_law_467 (gSm9 v_329 v_330 v_297 v_331) rfl hy_L_setDoor rfl rfl ⟨Nat.le_of_ble_eq_true rfl, Nat.le_of_ble_eq_true rfl⟩ (Nat.le_of_ble_eq_true rfl) (Nat.le_of_ble_eq_true rfl) (Nat.le_of_ble_eq_true rfl) (show kc + 0 + 60 ≤ 892405 ∧ ns + 0 + 2100 ≤ 6351306 by omega) ?_
      show J x [(5, .int (nI p)), (4, .ref (G.2.2 50)), (3, .ref (G.2.2 49)), (2, .ref (G.2.2 41)), (1, .ref (G.2.2 40)), (0, .ref b)] [.int (t)] (wsF G σ1 ++ T) 470 (kc + 60) (ns + 2100)
      refine j_istore C0 dL_law_470 (by decide) [(6, .int (t)), (5, .int (nI p)), (4, .ref (G.2.2 50)), (3, .ref (G.2.2 49)), (2, .ref (G.2.2 41)), (1, .ref (G.2.2 40)), (0, .ref b)] rfl ?_
      refine j_aload_n C0 dL_law_472 4 rfl ?_
      refine j_aload_n C0 dL_law_473 6 rfl ?_
      refine j_iload C0 dL_law_474 1 rfl ?_
      refine j_iconst C0 dL_law_476 ((1 : Int32)) (by decide) ?_
      refine j_iadd C0 dL_law_477 ?_
      refine jt_eqI (b := nI (p + 1)) (add_nI p 1) ?_
      refine jl_sld S9 dL_law_478 (p := p + 1) (by omega) (by omega) ?_
      refine j_aload_n C0 dL_law_479 6 rfl ?_
      refine j_iload C0 dL_law_480 1 rfl ?_
      refine j_iconst C0 dL_law_482 ((2 : Int32)) (by decide) ?_
      refine j_iadd C0 dL_law_483 ?_
      refine jt_eqI (b := nI (p + 2)) (add_nI p 2) ?_
      refine jl_sld S9 dL_law_484 (p := p + 2) (by omega) (by omega) ?_
      refine j_if_eq C0 dL_law_485 492 (by decide) (fun h => absurd h hc) (fun _ => ?_)
      refine j_iconst C0 dL_law_488 ((1 : Int32)) (by decide) ?_
      refine j_goto C0 dL_law_489 493 (by decide) ?_
      refine jm_callV CV X (c_X6_setDoor 2000 G σ1 41 (xs (p + 1)) ((1 : Int32)) ok41 _ _ e2) dL_law_493 (gVm9 v_332 v_333 v_334 v_219 v_335) rfl hy_X6_setDoor rfl ok41 rfl (ci := 10) rfl rfl rfl ⟨Nat.le_of_ble_eq_true rfl, Nat.le_of_ble_eq_true rfl⟩ (Nat.le_of_ble_eq_true rfl) (Nat.le_of_ble_eq_true rfl) (Nat.le_of_ble_eq_true rfl) (show kc + 60 + 60 ≤ 892405 ∧ ns + 2100 + 2100 ≤ 6351306 by omega) ?_
      show J x [(6, .int (t)), (5, .int (nI p)), (4, .ref (G.2.2 50)), (3, .ref (G.2.2 49)), (2, .ref (G.2.2 41)), (1, .ref (G.2.2 40)), (0, .ref b)] [.int ((1 : Int32))] (wsF G σ2 ++ T) 496 (kc + 120) (ns + 4200)
      refine j_istore C0 dL_law_496 (by decide) [(7, .int ((1 : Int32))), (6, .int (t)), (5, .int (nI p)), (4, .ref (G.2.2 50)), (3, .ref (G.2.2 49)), (2, .ref (G.2.2 41)), (1, .ref (G.2.2 40)), (0, .ref b)] rfl ?_
      refine j_aload_n C0 dL_law_498 5 rfl ?_
      refine jm_callV CV X (c_X6_thrown 2000 G σ2 41 ok41 _ _ rfl) dL_law_499 (gVm9 v_303 v_304 v_305 v_219 v_306) rfl hy_X6_thrown rfl ok41 rfl (ci := 10) rfl rfl rfl ⟨Nat.le_of_ble_eq_true rfl, Nat.le_of_ble_eq_true rfl⟩ (Nat.le_of_ble_eq_true rfl) (Nat.le_of_ble_eq_true rfl) (Nat.le_of_ble_eq_true rfl) (show kc + 120 + 60 ≤ 892405 ∧ ns + 4200 + 2100 ≤ 6351306 by omega) ?_
      refine jt_eqI (b := t) e3 ?_
      show J x [(7, .int ((1 : Int32))), (6, .int (t)), (5, .int (nI p)), (4, .ref (G.2.2 50)), (3, .ref (G.2.2 49)), (2, .ref (G.2.2 41)), (1, .ref (G.2.2 40)), (0, .ref b)] [.int (t)] (wsF G σ2 ++ T) 502 (kc + 180) (ns + 6300)
      refine j_iload C0 dL_law_502 1 rfl ?_
      refine j_icmp_eq C0 dL_law_504 509 (by decide) (fun _ => ?_) (fun h => absurd rfl h)
      refine j_iload C0 dL_law_509 1 rfl ?_
      refine j_if_ne C0 dL_law_511 533 (by decide) (fun h0 => ?_) (fun h0 => ?_)
      · refine j_goto C0 dL_law_533 2115 (by decide) ?_
        refine j_sub [2, 3, 4, 5, 6, 7] (lo5 G b p) rfl ?_
        exact j_widen C0 (show kc + 180 ≤ kc + 1000 by omega) (show ns + 6300 ≤ ns + 10000 by omega) (hk σ2 T (hI.to (e5.mono (Nat.le_succ B)) e6))
      · refine j_aload_n C0 dL_law_514 4 rfl ?_
        refine j_iconst C0 dL_law_515 ((0 : Int32)) (by decide) ?_
        refine jl_lald C0 X dL_law_516 ?_
        rw [e4 h0]
        refine j_iload C0 dL_law_517 0 rfl ?_
        refine j_if_eq C0 dL_law_519 526 (by decide) (fun h => absurd h (by decide)) (fun _ => ?_)
        refine j_lconst C0 dL_law_522 ((1 : Int32).toInt64) (by decide) ?_
        refine j_goto C0 dL_law_523 527 (by decide) ?_
        refine j_lcmp C0 dL_law_527 ?_
        refine jt_eqI (b := (0 : Int32)) (lg_cmp_self _) ?_
        refine j_if_eq C0 dL_law_528 533 (by decide) (fun _ => ?_) (fun h => absurd h (by decide))
        refine j_goto C0 dL_law_533 2115 (by decide) ?_
        refine j_sub [2, 3, 4, 5, 6, 7] (lo5 G b p) rfl ?_
        exact j_widen C0 (show kc + 180 ≤ kc + 1000 by omega) (show ns + 6300 ≤ ns + 10000 by omega) (hk σ2 T (hI.to (e5.mono (Nat.le_succ B)) e6))
set_option maxRecDepth 20000 in
set_option maxHeartbeats 2000000 in
theorem cs_5 {tab : List ExceptionTableEntry} {K : Nat → Nat} {x : Xt Tx} {G : Gt} {cB : ClassId} {b L : Nat} {xs : Nat → Int32} (C0 : Cx x code 9 RL (some .boolean) tab wsL room_1 G.1 (tys9 G cB)) (CV : Cv K x code 9 RL (some .boolean) tab wsL room_1 G.1 (tys9 G cB)) (X : Wt x G.1) (S9 : CS9 x b L xs) {B kc ns p : Nat} {σ : Mem} {T : Tx} (hI : LI K cB B σ T) (hB : B ≤ 600) (hp : p + 5 ≤ L) (hL : L ≤ 2560) (hr : kc + 1000 ≤ 892405 ∧ ns + 10000 ≤ 6351306) (hk : ∀ σ1 T1, LI K cB (B + 1) σ1 T1 → J x (lo5 G b p) [] (wsF G σ1 ++ T1) 2115 (kc + 1000) (ns + 10000)) : J x (lo5 G b p) [] (wsF G σ ++ T) 536 kc ns := by
  obtain ⟨t, σ1, r, σ2, e1, e2, e3, e4, e5, e6⟩ := join_G2 (fun _ _ h => op_airOf (n := 2000) (n' := 2000) (by decide) (xs (p + 1)) h) hI.1
  show J x [(5, .int (nI p)), (4, .ref (G.2.2 50)), (3, .ref (G.2.2 49)), (2, .ref (G.2.2 41)), (1, .ref (G.2.2 40)), (0, .ref b)] [] (wsF G σ ++ T) 536 (kc + 0) (ns + 0)
  refine j_aload_n C0 dL_law_536 4 rfl ?_
  refine j_aload_n C0 dL_law_537 5 rfl ?_
  refine j_iload C0 dL_law_538 0 rfl ?_
  refine j_iconst C0 dL_law_540 ((1 : Int32)) (by decide) ?_
  refine j_iadd C0 dL_law_541 ?_
  refine jt_eqI (b := nI (p + 1)) (add_nI p 1) ?_
  refine jl_sld S9 dL_law_542 (p := p + 1) (by omega) (by omega) ?_
  refine j_aload_n C0 dL_law_543 2 rfl ?_
  refine jm_callSX CV X (c_L_airOf 2000 G σ 40 (xs (p + 1)) 49 ok40 ok49 _ _ e1) dL_law_544 (gSm9 v_336 v_337 v_297 v_338) rfl hy_L_airOf rfl rfl ⟨Nat.le_of_ble_eq_true rfl, Nat.le_of_ble_eq_true rfl⟩ (Nat.le_of_ble_eq_true rfl) (Nat.le_of_ble_eq_true rfl) (Nat.le_of_ble_eq_true rfl) (show kc + 0 + 60 ≤ 892405 ∧ ns + 0 + 2100 ≤ 6351306 by omega) ?_
  show J x [(5, .int (nI p)), (4, .ref (G.2.2 50)), (3, .ref (G.2.2 49)), (2, .ref (G.2.2 41)), (1, .ref (G.2.2 40)), (0, .ref b)] [.int (t)] (wsF G σ1 ++ T) 547 (kc + 60) (ns + 2100)
  refine j_istore C0 dL_law_547 (by decide) [(6, .int (t)), (5, .int (nI p)), (4, .ref (G.2.2 50)), (3, .ref (G.2.2 49)), (2, .ref (G.2.2 41)), (1, .ref (G.2.2 40)), (0, .ref b)] rfl ?_
  refine j_aload_n C0 dL_law_549 4 rfl ?_
  refine j_aload_n C0 dL_law_550 6 rfl ?_
  refine j_iload C0 dL_law_551 1 rfl ?_
  refine j_iconst C0 dL_law_553 ((1 : Int32)) (by decide) ?_
  refine j_iadd C0 dL_law_554 ?_
  refine jt_eqI (b := nI (p + 1)) (add_nI p 1) ?_
  refine jl_sld S9 dL_law_555 (p := p + 1) (by omega) (by omega) ?_
  refine jm_callV CV X (c_X6_airOf 2000 G σ1 41 (xs (p + 1)) ok41 _ _ e2) dL_law_556 (gVm9 v_339 v_340 v_341 v_219 v_342) rfl hy_X6_airOf rfl ok41 rfl (ci := 10) rfl rfl rfl ⟨Nat.le_of_ble_eq_true rfl, Nat.le_of_ble_eq_true rfl⟩ (Nat.le_of_ble_eq_true rfl) (Nat.le_of_ble_eq_true rfl) (Nat.le_of_ble_eq_true rfl) (show kc + 60 + 60 ≤ 892405 ∧ ns + 2100 + 2100 ≤ 6351306 by omega) ?_
  show J x [(6, .int (t)), (5, .int (nI p)), (4, .ref (G.2.2 50)), (3, .ref (G.2.2 49)), (2, .ref (G.2.2 41)), (1, .ref (G.2.2 40)), (0, .ref b)] [.int (r)] (wsF G σ2 ++ T) 559 (kc + 120) (ns + 4200)
  refine j_istore C0 dL_law_559 (by decide) [(7, .int (r)), (6, .int (t)), (5, .int (nI p)), (4, .ref (G.2.2 50)), (3, .ref (G.2.2 49)), (2, .ref (G.2.2 41)), (1, .ref (G.2.2 40)), (0, .ref b)] rfl ?_
  refine j_aload_n C0 dL_law_561 5 rfl ?_
  refine jm_callV CV X (c_X6_thrown 2000 G σ2 41 ok41 _ _ rfl) dL_law_562 (gVm9 v_303 v_304 v_305 v_219 v_306) rfl hy_X6_thrown rfl ok41 rfl (ci := 10) rfl rfl rfl ⟨Nat.le_of_ble_eq_true rfl, Nat.le_of_ble_eq_true rfl⟩ (Nat.le_of_ble_eq_true rfl) (Nat.le_of_ble_eq_true rfl) (Nat.le_of_ble_eq_true rfl) (show kc + 120 + 60 ≤ 892405 ∧ ns + 4200 + 2100 ≤ 6351306 by omega) ?_
  refine jt_eqI (b := t) e3 ?_
  show J x [(7, .int (r)), (6, .int (t)), (5, .int (nI p)), (4, .ref (G.2.2 50)), (3, .ref (G.2.2 49)), (2, .ref (G.2.2 41)), (1, .ref (G.2.2 40)), (0, .ref b)] [.int (t)] (wsF G σ2 ++ T) 565 (kc + 180) (ns + 6300)
  refine j_iload C0 dL_law_565 1 rfl ?_
  refine j_icmp_eq C0 dL_law_567 572 (by decide) (fun _ => ?_) (fun h => absurd rfl h)
  refine j_iload C0 dL_law_572 1 rfl ?_
  refine j_if_ne C0 dL_law_574 589 (by decide) (fun h0 => ?_) (fun h0 => ?_)
  · refine j_goto C0 dL_law_589 2115 (by decide) ?_
    refine j_sub [2, 3, 4, 5, 6, 7] (lo5 G b p) rfl ?_
    exact j_widen C0 (show kc + 180 ≤ kc + 1000 by omega) (show ns + 6300 ≤ ns + 10000 by omega) (hk σ2 T (hI.to (e5.mono (Nat.le_succ B)) e6))
  · refine j_aload_n C0 dL_law_577 4 rfl ?_
    refine j_iconst C0 dL_law_578 ((0 : Int32)) (by decide) ?_
    refine jl_lald C0 X dL_law_579 ?_
    rw [e4 h0]
    refine j_iload C0 dL_law_580 0 rfl ?_
    refine j_i2l C0 dL_law_582 ?_
    refine j_lcmp C0 dL_law_583 ?_
    refine jt_eqI (b := (0 : Int32)) (lg_cmp_self _) ?_
    refine j_if_eq C0 dL_law_584 589 (by decide) (fun _ => ?_) (fun h => absurd h (by decide))
    refine j_goto C0 dL_law_589 2115 (by decide) ?_
    refine j_sub [2, 3, 4, 5, 6, 7] (lo5 G b p) rfl ?_
    exact j_widen C0 (show kc + 180 ≤ kc + 1000 by omega) (show ns + 6300 ≤ ns + 10000 by omega) (hk σ2 T (hI.to (e5.mono (Nat.le_succ B)) e6))
set_option maxRecDepth 20000 in
set_option maxHeartbeats 2000000 in
theorem cs_6 {tab : List ExceptionTableEntry} {K : Nat → Nat} {x : Xt Tx} {G : Gt} {cB : ClassId} {b L : Nat} {xs : Nat → Int32} (C0 : Cx x code 9 RL (some .boolean) tab wsL room_1 G.1 (tys9 G cB)) (CV : Cv K x code 9 RL (some .boolean) tab wsL room_1 G.1 (tys9 G cB)) (X : Wt x G.1) (S9 : CS9 x b L xs) {B kc ns p : Nat} {σ : Mem} {T : Tx} (hI : LI K cB B σ T) (hB : B ≤ 600) (hp : p + 5 ≤ L) (hL : L ≤ 2560) (hr : kc + 1000 ≤ 892405 ∧ ns + 10000 ≤ 6351306) (hk : ∀ σ1 T1, LI K cB (B + 1) σ1 T1 → J x (lo5 G b p) [] (wsF G σ1 ++ T1) 2115 (kc + 1000) (ns + 10000)) : J x (lo5 G b p) [] (wsF G σ ++ T) 592 kc ns := by
  obtain ⟨t, σ1, r, σ2, e1, e2, e3, e4, e5, e6⟩ := join_G2 (fun _ _ h => op_airByPaths (n := 2000) (n' := 2000) (by decide) (by decide) (xs (p + 1)) h) hI.1
  show J x [(5, .int (nI p)), (4, .ref (G.2.2 50)), (3, .ref (G.2.2 49)), (2, .ref (G.2.2 41)), (1, .ref (G.2.2 40)), (0, .ref b)] [] (wsF G σ ++ T) 592 (kc + 0) (ns + 0)
  refine j_aload_n C0 dL_law_592 4 rfl ?_
  refine j_aload_n C0 dL_law_593 5 rfl ?_
  refine j_iload C0 dL_law_594 0 rfl ?_
  refine j_iconst C0 dL_law_596 ((1 : Int32)) (by decide) ?_
  refine j_iadd C0 dL_law_597 ?_
  refine jt_eqI (b := nI (p + 1)) (add_nI p 1) ?_
  refine jl_sld S9 dL_law_598 (p := p + 1) (by omega) (by omega) ?_
  refine j_aload_n C0 dL_law_599 2 rfl ?_
  refine jm_callSX CV X (c_L_airByPaths 2000 G σ 40 (xs (p + 1)) 49 ok40 ok49 _ _ e1) dL_law_600 (gSm9 v_343 v_344 v_297 v_345) rfl hy_L_airByPaths rfl rfl ⟨Nat.le_of_ble_eq_true rfl, Nat.le_of_ble_eq_true rfl⟩ (Nat.le_of_ble_eq_true rfl) (Nat.le_of_ble_eq_true rfl) (Nat.le_of_ble_eq_true rfl) (show kc + 0 + 60 ≤ 892405 ∧ ns + 0 + 2100 ≤ 6351306 by omega) ?_
  show J x [(5, .int (nI p)), (4, .ref (G.2.2 50)), (3, .ref (G.2.2 49)), (2, .ref (G.2.2 41)), (1, .ref (G.2.2 40)), (0, .ref b)] [.int (t)] (wsF G σ1 ++ T) 603 (kc + 60) (ns + 2100)
  refine j_istore C0 dL_law_603 (by decide) [(6, .int (t)), (5, .int (nI p)), (4, .ref (G.2.2 50)), (3, .ref (G.2.2 49)), (2, .ref (G.2.2 41)), (1, .ref (G.2.2 40)), (0, .ref b)] rfl ?_
  refine j_aload_n C0 dL_law_605 4 rfl ?_
  refine j_aload_n C0 dL_law_606 6 rfl ?_
  refine j_iload C0 dL_law_607 1 rfl ?_
  refine j_iconst C0 dL_law_609 ((1 : Int32)) (by decide) ?_
  refine j_iadd C0 dL_law_610 ?_
  refine jt_eqI (b := nI (p + 1)) (add_nI p 1) ?_
  refine jl_sld S9 dL_law_611 (p := p + 1) (by omega) (by omega) ?_
  refine jm_callV CV X (c_X6_airByPaths 2000 G σ1 41 (xs (p + 1)) ok41 _ _ e2) dL_law_612 (gVm9 v_346 v_347 v_348 v_219 v_349) rfl hy_X6_airByPaths rfl ok41 rfl (ci := 10) rfl rfl rfl ⟨Nat.le_of_ble_eq_true rfl, Nat.le_of_ble_eq_true rfl⟩ (Nat.le_of_ble_eq_true rfl) (Nat.le_of_ble_eq_true rfl) (Nat.le_of_ble_eq_true rfl) (show kc + 60 + 60 ≤ 892405 ∧ ns + 2100 + 2100 ≤ 6351306 by omega) ?_
  show J x [(6, .int (t)), (5, .int (nI p)), (4, .ref (G.2.2 50)), (3, .ref (G.2.2 49)), (2, .ref (G.2.2 41)), (1, .ref (G.2.2 40)), (0, .ref b)] [.int (r)] (wsF G σ2 ++ T) 615 (kc + 120) (ns + 4200)
  refine j_istore C0 dL_law_615 (by decide) [(7, .int (r)), (6, .int (t)), (5, .int (nI p)), (4, .ref (G.2.2 50)), (3, .ref (G.2.2 49)), (2, .ref (G.2.2 41)), (1, .ref (G.2.2 40)), (0, .ref b)] rfl ?_
  refine j_aload_n C0 dL_law_617 5 rfl ?_
  refine jm_callV CV X (c_X6_thrown 2000 G σ2 41 ok41 _ _ rfl) dL_law_618 (gVm9 v_303 v_304 v_305 v_219 v_306) rfl hy_X6_thrown rfl ok41 rfl (ci := 10) rfl rfl rfl ⟨Nat.le_of_ble_eq_true rfl, Nat.le_of_ble_eq_true rfl⟩ (Nat.le_of_ble_eq_true rfl) (Nat.le_of_ble_eq_true rfl) (Nat.le_of_ble_eq_true rfl) (show kc + 120 + 60 ≤ 892405 ∧ ns + 4200 + 2100 ≤ 6351306 by omega) ?_
  refine jt_eqI (b := t) e3 ?_
  show J x [(7, .int (r)), (6, .int (t)), (5, .int (nI p)), (4, .ref (G.2.2 50)), (3, .ref (G.2.2 49)), (2, .ref (G.2.2 41)), (1, .ref (G.2.2 40)), (0, .ref b)] [.int (t)] (wsF G σ2 ++ T) 621 (kc + 180) (ns + 6300)
  refine j_iload C0 dL_law_621 1 rfl ?_
  refine j_icmp_eq C0 dL_law_623 628 (by decide) (fun _ => ?_) (fun h => absurd rfl h)
  refine j_iload C0 dL_law_628 1 rfl ?_
  refine j_if_ne C0 dL_law_630 645 (by decide) (fun h0 => ?_) (fun h0 => ?_)
  · refine j_goto C0 dL_law_645 2115 (by decide) ?_
    refine j_sub [2, 3, 4, 5, 6, 7] (lo5 G b p) rfl ?_
    exact j_widen C0 (show kc + 180 ≤ kc + 1000 by omega) (show ns + 6300 ≤ ns + 10000 by omega) (hk σ2 T (hI.to (e5.mono (Nat.le_succ B)) e6))
  · refine j_aload_n C0 dL_law_633 4 rfl ?_
    refine j_iconst C0 dL_law_634 ((0 : Int32)) (by decide) ?_
    refine jl_lald C0 X dL_law_635 ?_
    rw [e4 h0]
    refine j_iload C0 dL_law_636 0 rfl ?_
    refine j_i2l C0 dL_law_638 ?_
    refine j_lcmp C0 dL_law_639 ?_
    refine jt_eqI (b := (0 : Int32)) (lg_cmp_self _) ?_
    refine j_if_eq C0 dL_law_640 645 (by decide) (fun _ => ?_) (fun h => absurd h (by decide))
    refine j_goto C0 dL_law_645 2115 (by decide) ?_
    refine j_sub [2, 3, 4, 5, 6, 7] (lo5 G b p) rfl ?_
    exact j_widen C0 (show kc + 180 ≤ kc + 1000 by omega) (show ns + 6300 ≤ ns + 10000 by omega) (hk σ2 T (hI.to (e5.mono (Nat.le_succ B)) e6))
set_option maxRecDepth 20000 in
set_option maxHeartbeats 2000000 in
theorem cs_7 {tab : List ExceptionTableEntry} {K : Nat → Nat} {x : Xt Tx} {G : Gt} {cB : ClassId} {b L : Nat} {xs : Nat → Int32} (C0 : Cx x code 9 RL (some .boolean) tab wsL room_1 G.1 (tys9 G cB)) (CV : Cv K x code 9 RL (some .boolean) tab wsL room_1 G.1 (tys9 G cB)) (X : Wt x G.1) (S9 : CS9 x b L xs) {B kc ns p : Nat} {σ : Mem} {T : Tx} (hI : LI K cB B σ T) (hB : B ≤ 600) (hp : p + 5 ≤ L) (hL : L ≤ 2560) (hr : kc + 1000 ≤ 892405 ∧ ns + 10000 ≤ 6351306) (hk : ∀ σ1 T1, LI K cB (B + 1) σ1 T1 → J x (lo5 G b p) [] (wsF G σ1 ++ T1) 2115 (kc + 1000) (ns + 10000)) : J x (lo5 G b p) [] (wsF G σ ++ T) 648 kc ns := by
  obtain ⟨t, σ1, r, σ2, e1, e2, e3, e4, e5, e6⟩ := join_G2 (fun _ _ h => op_setLimit (n := 2000) (n' := 2000) (xs (p + 1)) h) hI.1
  show J x [(5, .int (nI p)), (4, .ref (G.2.2 50)), (3, .ref (G.2.2 49)), (2, .ref (G.2.2 41)), (1, .ref (G.2.2 40)), (0, .ref b)] [] (wsF G σ ++ T) 648 (kc + 0) (ns + 0)
  refine j_aload_n C0 dL_law_648 4 rfl ?_
  refine j_aload_n C0 dL_law_649 5 rfl ?_
  refine j_iload C0 dL_law_650 0 rfl ?_
  refine j_iconst C0 dL_law_652 ((1 : Int32)) (by decide) ?_
  refine j_iadd C0 dL_law_653 ?_
  refine jt_eqI (b := nI (p + 1)) (add_nI p 1) ?_
  refine jl_sld S9 dL_law_654 (p := p + 1) (by omega) (by omega) ?_
  refine j_aload_n C0 dL_law_655 2 rfl ?_
  refine jm_callSX CV X (c_L_setLimit 2000 G σ 40 (xs (p + 1)) 49 ok40 ok49 _ _ e1) dL_law_656 (gSm9 v_350 v_351 v_297 v_352) rfl hy_L_setLimit rfl rfl ⟨Nat.le_of_ble_eq_true rfl, Nat.le_of_ble_eq_true rfl⟩ (Nat.le_of_ble_eq_true rfl) (Nat.le_of_ble_eq_true rfl) (Nat.le_of_ble_eq_true rfl) (show kc + 0 + 60 ≤ 892405 ∧ ns + 0 + 2100 ≤ 6351306 by omega) ?_
  show J x [(5, .int (nI p)), (4, .ref (G.2.2 50)), (3, .ref (G.2.2 49)), (2, .ref (G.2.2 41)), (1, .ref (G.2.2 40)), (0, .ref b)] [.int (t)] (wsF G σ1 ++ T) 659 (kc + 60) (ns + 2100)
  refine j_istore C0 dL_law_659 (by decide) [(6, .int (t)), (5, .int (nI p)), (4, .ref (G.2.2 50)), (3, .ref (G.2.2 49)), (2, .ref (G.2.2 41)), (1, .ref (G.2.2 40)), (0, .ref b)] rfl ?_
  refine j_aload_n C0 dL_law_661 4 rfl ?_
  refine j_aload_n C0 dL_law_662 6 rfl ?_
  refine j_iload C0 dL_law_663 1 rfl ?_
  refine j_iconst C0 dL_law_665 ((1 : Int32)) (by decide) ?_
  refine j_iadd C0 dL_law_666 ?_
  refine jt_eqI (b := nI (p + 1)) (add_nI p 1) ?_
  refine jl_sld S9 dL_law_667 (p := p + 1) (by omega) (by omega) ?_
  refine jm_callV CV X (c_X6_setLimit 2000 G σ1 41 (xs (p + 1)) ok41 _ _ e2) dL_law_668 (gVm9 v_353 v_354 v_355 v_219 v_356) rfl hy_X6_setLimit rfl ok41 rfl (ci := 10) rfl rfl rfl ⟨Nat.le_of_ble_eq_true rfl, Nat.le_of_ble_eq_true rfl⟩ (Nat.le_of_ble_eq_true rfl) (Nat.le_of_ble_eq_true rfl) (Nat.le_of_ble_eq_true rfl) (show kc + 60 + 60 ≤ 892405 ∧ ns + 2100 + 2100 ≤ 6351306 by omega) ?_
  show J x [(6, .int (t)), (5, .int (nI p)), (4, .ref (G.2.2 50)), (3, .ref (G.2.2 49)), (2, .ref (G.2.2 41)), (1, .ref (G.2.2 40)), (0, .ref b)] [.int (r)] (wsF G σ2 ++ T) 671 (kc + 120) (ns + 4200)
  refine j_istore C0 dL_law_671 (by decide) [(7, .int (r)), (6, .int (t)), (5, .int (nI p)), (4, .ref (G.2.2 50)), (3, .ref (G.2.2 49)), (2, .ref (G.2.2 41)), (1, .ref (G.2.2 40)), (0, .ref b)] rfl ?_
  refine j_aload_n C0 dL_law_673 5 rfl ?_
  refine jm_callV CV X (c_X6_thrown 2000 G σ2 41 ok41 _ _ rfl) dL_law_674 (gVm9 v_303 v_304 v_305 v_219 v_306) rfl hy_X6_thrown rfl ok41 rfl (ci := 10) rfl rfl rfl ⟨Nat.le_of_ble_eq_true rfl, Nat.le_of_ble_eq_true rfl⟩ (Nat.le_of_ble_eq_true rfl) (Nat.le_of_ble_eq_true rfl) (Nat.le_of_ble_eq_true rfl) (show kc + 120 + 60 ≤ 892405 ∧ ns + 4200 + 2100 ≤ 6351306 by omega) ?_
  refine jt_eqI (b := t) e3 ?_
  show J x [(7, .int (r)), (6, .int (t)), (5, .int (nI p)), (4, .ref (G.2.2 50)), (3, .ref (G.2.2 49)), (2, .ref (G.2.2 41)), (1, .ref (G.2.2 40)), (0, .ref b)] [.int (t)] (wsF G σ2 ++ T) 677 (kc + 180) (ns + 6300)
  refine j_iload C0 dL_law_677 1 rfl ?_
  refine j_icmp_eq C0 dL_law_679 684 (by decide) (fun _ => ?_) (fun h => absurd rfl h)
  refine j_iload C0 dL_law_684 1 rfl ?_
  refine j_if_ne C0 dL_law_686 701 (by decide) (fun h0 => ?_) (fun h0 => ?_)
  · refine j_goto C0 dL_law_701 2115 (by decide) ?_
    refine j_sub [2, 3, 4, 5, 6, 7] (lo5 G b p) rfl ?_
    exact j_widen C0 (show kc + 180 ≤ kc + 1000 by omega) (show ns + 6300 ≤ ns + 10000 by omega) (hk σ2 T (hI.to (e5.mono (Nat.le_succ B)) e6))
  · refine j_aload_n C0 dL_law_689 4 rfl ?_
    refine j_iconst C0 dL_law_690 ((0 : Int32)) (by decide) ?_
    refine jl_lald C0 X dL_law_691 ?_
    rw [e4 h0]
    refine j_iload C0 dL_law_692 0 rfl ?_
    refine j_i2l C0 dL_law_694 ?_
    refine j_lcmp C0 dL_law_695 ?_
    refine jt_eqI (b := (0 : Int32)) (lg_cmp_self _) ?_
    refine j_if_eq C0 dL_law_696 701 (by decide) (fun _ => ?_) (fun h => absurd h (by decide))
    refine j_goto C0 dL_law_701 2115 (by decide) ?_
    refine j_sub [2, 3, 4, 5, 6, 7] (lo5 G b p) rfl ?_
    exact j_widen C0 (show kc + 180 ≤ kc + 1000 by omega) (show ns + 6300 ≤ ns + 10000 by omega) (hk σ2 T (hI.to (e5.mono (Nat.le_succ B)) e6))
