set_option maxRecDepth 20000 in
set_option maxHeartbeats 2000000 in
theorem cs_16 {tab : List ExceptionTableEntry} {K : Nat → Nat} {x : Xt Tx} {G : Gt} {cB : ClassId} {b L : Nat} {xs : Nat → Int32} (C0 : Cx x code 9 RL (some .boolean) tab wsL room_1 G.1 (tys9 G cB)) (CV : Cv K x code 9 RL (some .boolean) tab wsL room_1 G.1 (tys9 G cB)) (X : Wt x G.1) (S9 : CS9 x b L xs) {B kc ns p : Nat} {σ : Mem} {T : Tx} (hI : LI K cB B σ T) (hB : B ≤ 600) (hp : p + 5 ≤ L) (hL : L ≤ 2560) (hr : kc + 1000 ≤ 892405 ∧ ns + 10000 ≤ 6351306) (hk : ∀ σ1 T1, LI K cB (B + 1) σ1 T1 → J x (lo5 G b p) [] (wsF G σ1 ++ T1) 2115 (kc + 1000) (ns + 10000)) : J x (lo5 G b p) [] (wsF G σ ++ T) 1082 kc ns := by
  obtain ⟨t, σ1, r, σ2, e1, e2, e3, e4, e5, e6⟩ := join_G2 (fun _ _ h => op_peopleAt (n := 2000) (n' := 2000) (xs (p + 1)) h) hI.1
  show J x [(5, .int (nI p)), (4, .ref (G.2.2 50)), (3, .ref (G.2.2 49)), (2, .ref (G.2.2 41)), (1, .ref (G.2.2 40)), (0, .ref b)] [] (wsF G σ ++ T) 1082 (kc + 0) (ns + 0)
  refine j_aload_n C0 dL_law_1082 4 rfl ?_
  refine j_aload_n C0 dL_law_1083 5 rfl ?_
  refine j_iload C0 dL_law_1084 0 rfl ?_
  refine j_iconst C0 dL_law_1086 ((1 : Int32)) (by decide) ?_
  refine j_iadd C0 dL_law_1087 ?_
  refine jt_eqI (b := nI (p + 1)) (add_nI p 1) ?_
  refine jl_sld S9 dL_law_1088 (p := p + 1) (by omega) (by omega) ?_
  refine j_aload_n C0 dL_law_1089 2 rfl ?_
  refine jm_callSX CV X (c_L_peopleAt 2000 G σ 40 (xs (p + 1)) 49 ok40 ok49 _ _ e1) dL_law_1090 (gSm9 v_415 v_416 v_297 v_417) rfl hy_L_peopleAt rfl rfl ⟨Nat.le_of_ble_eq_true rfl, Nat.le_of_ble_eq_true rfl⟩ (Nat.le_of_ble_eq_true rfl) (Nat.le_of_ble_eq_true rfl) (Nat.le_of_ble_eq_true rfl) (show kc + 0 + 60 ≤ 892405 ∧ ns + 0 + 2100 ≤ 6351306 by omega) ?_
  show J x [(5, .int (nI p)), (4, .ref (G.2.2 50)), (3, .ref (G.2.2 49)), (2, .ref (G.2.2 41)), (1, .ref (G.2.2 40)), (0, .ref b)] [.int (t)] (wsF G σ1 ++ T) 1093 (kc + 60) (ns + 2100)
  refine j_istore C0 dL_law_1093 (by decide) [(6, .int (t)), (5, .int (nI p)), (4, .ref (G.2.2 50)), (3, .ref (G.2.2 49)), (2, .ref (G.2.2 41)), (1, .ref (G.2.2 40)), (0, .ref b)] rfl ?_
  refine j_aload_n C0 dL_law_1095 4 rfl ?_
  refine j_aload_n C0 dL_law_1096 6 rfl ?_
  refine j_iload C0 dL_law_1097 1 rfl ?_
  refine j_iconst C0 dL_law_1099 ((1 : Int32)) (by decide) ?_
  refine j_iadd C0 dL_law_1100 ?_
  refine jt_eqI (b := nI (p + 1)) (add_nI p 1) ?_
  refine jl_sld S9 dL_law_1101 (p := p + 1) (by omega) (by omega) ?_
  refine jm_callV CV X (c_X6_peopleAt 2000 G σ1 41 (xs (p + 1)) ok41 _ _ e2) dL_law_1102 (gVm9 v_418 v_419 v_420 v_219 v_421) rfl hy_X6_peopleAt rfl ok41 rfl (ci := 10) rfl rfl rfl ⟨Nat.le_of_ble_eq_true rfl, Nat.le_of_ble_eq_true rfl⟩ (Nat.le_of_ble_eq_true rfl) (Nat.le_of_ble_eq_true rfl) (Nat.le_of_ble_eq_true rfl) (show kc + 60 + 60 ≤ 892405 ∧ ns + 2100 + 2100 ≤ 6351306 by omega) ?_
  show J x [(6, .int (t)), (5, .int (nI p)), (4, .ref (G.2.2 50)), (3, .ref (G.2.2 49)), (2, .ref (G.2.2 41)), (1, .ref (G.2.2 40)), (0, .ref b)] [.int (r)] (wsF G σ2 ++ T) 1105 (kc + 120) (ns + 4200)
  refine j_istore C0 dL_law_1105 (by decide) [(7, .int (r)), (6, .int (t)), (5, .int (nI p)), (4, .ref (G.2.2 50)), (3, .ref (G.2.2 49)), (2, .ref (G.2.2 41)), (1, .ref (G.2.2 40)), (0, .ref b)] rfl ?_
  refine j_aload_n C0 dL_law_1107 5 rfl ?_
  refine jm_callV CV X (c_X6_thrown 2000 G σ2 41 ok41 _ _ rfl) dL_law_1108 (gVm9 v_303 v_304 v_305 v_219 v_306) rfl hy_X6_thrown rfl ok41 rfl (ci := 10) rfl rfl rfl ⟨Nat.le_of_ble_eq_true rfl, Nat.le_of_ble_eq_true rfl⟩ (Nat.le_of_ble_eq_true rfl) (Nat.le_of_ble_eq_true rfl) (Nat.le_of_ble_eq_true rfl) (show kc + 120 + 60 ≤ 892405 ∧ ns + 4200 + 2100 ≤ 6351306 by omega) ?_
  refine jt_eqI (b := t) e3 ?_
  show J x [(7, .int (r)), (6, .int (t)), (5, .int (nI p)), (4, .ref (G.2.2 50)), (3, .ref (G.2.2 49)), (2, .ref (G.2.2 41)), (1, .ref (G.2.2 40)), (0, .ref b)] [.int (t)] (wsF G σ2 ++ T) 1111 (kc + 180) (ns + 6300)
  refine j_iload C0 dL_law_1111 1 rfl ?_
  refine j_icmp_eq C0 dL_law_1113 1118 (by decide) (fun _ => ?_) (fun h => absurd rfl h)
  refine j_iload C0 dL_law_1118 1 rfl ?_
  refine j_if_ne C0 dL_law_1120 1135 (by decide) (fun h0 => ?_) (fun h0 => ?_)
  · refine j_goto C0 dL_law_1135 2115 (by decide) ?_
    refine j_sub [2, 3, 4, 5, 6, 7] (lo5 G b p) rfl ?_
    exact j_widen C0 (show kc + 180 ≤ kc + 1000 by omega) (show ns + 6300 ≤ ns + 10000 by omega) (hk σ2 T (hI.to (e5.mono (Nat.le_succ B)) e6))
  · refine j_aload_n C0 dL_law_1123 4 rfl ?_
    refine j_iconst C0 dL_law_1124 ((0 : Int32)) (by decide) ?_
    refine jl_lald C0 X dL_law_1125 ?_
    rw [e4 h0]
    refine j_iload C0 dL_law_1126 0 rfl ?_
    refine j_i2l C0 dL_law_1128 ?_
    refine j_lcmp C0 dL_law_1129 ?_
    refine jt_eqI (b := (0 : Int32)) (lg_cmp_self _) ?_
    refine j_if_eq C0 dL_law_1130 1135 (by decide) (fun _ => ?_) (fun h => absurd h (by decide))
    refine j_goto C0 dL_law_1135 2115 (by decide) ?_
    refine j_sub [2, 3, 4, 5, 6, 7] (lo5 G b p) rfl ?_
    exact j_widen C0 (show kc + 180 ≤ kc + 1000 by omega) (show ns + 6300 ≤ ns + 10000 by omega) (hk σ2 T (hI.to (e5.mono (Nat.le_succ B)) e6))
set_option maxRecDepth 20000 in
set_option maxHeartbeats 2000000 in
theorem cs_17 {tab : List ExceptionTableEntry} {K : Nat → Nat} {x : Xt Tx} {G : Gt} {cB : ClassId} {b L : Nat} {xs : Nat → Int32} (C0 : Cx x code 9 RL (some .boolean) tab wsL room_1 G.1 (tys9 G cB)) (CV : Cv K x code 9 RL (some .boolean) tab wsL room_1 G.1 (tys9 G cB)) (X : Wt x G.1) (S9 : CS9 x b L xs) {B kc ns p : Nat} {σ : Mem} {T : Tx} (hI : LI K cB B σ T) (hB : B ≤ 600) (hp : p + 5 ≤ L) (hL : L ≤ 2560) (hr : kc + 1000 ≤ 892405 ∧ ns + 10000 ≤ 6351306) (hk : ∀ σ1 T1, LI K cB (B + 1) σ1 T1 → J x (lo5 G b p) [] (wsF G σ1 ++ T1) 2115 (kc + 1000) (ns + 10000)) : J x (lo5 G b p) [] (wsF G σ ++ T) 1138 kc ns := by
  obtain ⟨r, σ1, σ2, e1, e2, e3, e5, e6⟩ := join_N2 (fun _ _ h => op_peopleTotal (n := 2000) (n' := 2000) (by decide) h) hI.1
  show J x [(5, .int (nI p)), (4, .ref (G.2.2 50)), (3, .ref (G.2.2 49)), (2, .ref (G.2.2 41)), (1, .ref (G.2.2 40)), (0, .ref b)] [] (wsF G σ ++ T) 1138 (kc + 0) (ns + 0)
  refine j_aload_n C0 dL_law_1138 4 rfl ?_
  refine jm_callV CV X (c_X5_peopleTotal 2000 G σ 40 ok40 _ _ e1) dL_law_1139 (gVm9 v_422 v_423 v_424 v_234 v_425) rfl hy_X5_peopleTotal rfl ok40 rfl (ci := 9) rfl rfl rfl ⟨Nat.le_of_ble_eq_true rfl, Nat.le_of_ble_eq_true rfl⟩ (Nat.le_of_ble_eq_true rfl) (Nat.le_of_ble_eq_true rfl) (Nat.le_of_ble_eq_true rfl) (show kc + 0 + 60 ≤ 892405 ∧ ns + 0 + 2100 ≤ 6351306 by omega) ?_
  show J x [(5, .int (nI p)), (4, .ref (G.2.2 50)), (3, .ref (G.2.2 49)), (2, .ref (G.2.2 41)), (1, .ref (G.2.2 40)), (0, .ref b)] [.int (r)] (wsF G σ1 ++ T) 1142 (kc + 60) (ns + 2100)
  refine j_aload_n C0 dL_law_1142 3 rfl ?_
  refine jm_callV CV X (c_X6_peopleTotal 2000 G σ1 41 ok41 _ _ e2) dL_law_1143 (gVm9 v_426 v_427 v_428 v_219 v_429) rfl hy_X6_peopleTotal rfl ok41 rfl (ci := 10) rfl rfl rfl ⟨Nat.le_of_ble_eq_true rfl, Nat.le_of_ble_eq_true rfl⟩ (Nat.le_of_ble_eq_true rfl) (Nat.le_of_ble_eq_true rfl) (Nat.le_of_ble_eq_true rfl) (show kc + 60 + 60 ≤ 892405 ∧ ns + 2100 + 2100 ≤ 6351306 by omega) ?_
  show J x [(5, .int (nI p)), (4, .ref (G.2.2 50)), (3, .ref (G.2.2 49)), (2, .ref (G.2.2 41)), (1, .ref (G.2.2 40)), (0, .ref b)] [.int (r), .int (r)] (wsF G σ2 ++ T) 1146 (kc + 120) (ns + 4200)
  refine j_icmp_eq C0 dL_law_1146 2115 (by decide) (fun _ => ?_) (fun h => absurd rfl h)
  refine j_sub [0, 1, 2, 3, 4, 5] (lo5 G b p) rfl ?_
  exact j_widen C0 (show kc + 120 ≤ kc + 1000 by omega) (show ns + 4200 ≤ ns + 10000 by omega) (hk σ2 T (hI.to (e5.mono (Nat.le_succ B)) e6))
set_option maxRecDepth 20000 in
set_option maxHeartbeats 2000000 in
theorem cs_18 {tab : List ExceptionTableEntry} {K : Nat → Nat} {x : Xt Tx} {G : Gt} {cB : ClassId} {b L : Nat} {xs : Nat → Int32} (C0 : Cx x code 9 RL (some .boolean) tab wsL room_1 G.1 (tys9 G cB)) (CV : Cv K x code 9 RL (some .boolean) tab wsL room_1 G.1 (tys9 G cB)) (X : Wt x G.1) (S9 : CS9 x b L xs) {B kc ns p : Nat} {σ : Mem} {T : Tx} (hI : LI K cB B σ T) (hB : B ≤ 600) (hp : p + 5 ≤ L) (hL : L ≤ 2560) (hr : kc + 1000 ≤ 892405 ∧ ns + 10000 ≤ 6351306) (hk : ∀ σ1 T1, LI K cB (B + 1) σ1 T1 → J x (lo5 G b p) [] (wsF G σ1 ++ T1) 2115 (kc + 1000) (ns + 10000)) : J x (lo5 G b p) [] (wsF G σ ++ T) 1151 kc ns := by
  obtain ⟨r, σ1, σ2, e1, e2, e3, e5, e6⟩ := join_N2 (fun _ _ h => op_endangered (n := 2000) (n' := 2000) (by decide) (by decide) h) hI.1
  show J x [(5, .int (nI p)), (4, .ref (G.2.2 50)), (3, .ref (G.2.2 49)), (2, .ref (G.2.2 41)), (1, .ref (G.2.2 40)), (0, .ref b)] [] (wsF G σ ++ T) 1151 (kc + 0) (ns + 0)
  refine j_aload_n C0 dL_law_1151 4 rfl ?_
  refine jm_callV CV X (c_X5_endangered 2000 G σ 40 ok40 _ _ e1) dL_law_1152 (gVm9 v_430 v_431 v_432 v_234 v_433) rfl hy_X5_endangered rfl ok40 rfl (ci := 9) rfl rfl rfl ⟨Nat.le_of_ble_eq_true rfl, Nat.le_of_ble_eq_true rfl⟩ (Nat.le_of_ble_eq_true rfl) (Nat.le_of_ble_eq_true rfl) (Nat.le_of_ble_eq_true rfl) (show kc + 0 + 60 ≤ 892405 ∧ ns + 0 + 2100 ≤ 6351306 by omega) ?_
  show J x [(5, .int (nI p)), (4, .ref (G.2.2 50)), (3, .ref (G.2.2 49)), (2, .ref (G.2.2 41)), (1, .ref (G.2.2 40)), (0, .ref b)] [.int (r)] (wsF G σ1 ++ T) 1155 (kc + 60) (ns + 2100)
  refine j_aload_n C0 dL_law_1155 3 rfl ?_
  refine jm_callV CV X (c_X6_endangered 2000 G σ1 41 ok41 _ _ e2) dL_law_1156 (gVm9 v_434 v_435 v_436 v_219 v_437) rfl hy_X6_endangered rfl ok41 rfl (ci := 10) rfl rfl rfl ⟨Nat.le_of_ble_eq_true rfl, Nat.le_of_ble_eq_true rfl⟩ (Nat.le_of_ble_eq_true rfl) (Nat.le_of_ble_eq_true rfl) (Nat.le_of_ble_eq_true rfl) (show kc + 60 + 60 ≤ 892405 ∧ ns + 2100 + 2100 ≤ 6351306 by omega) ?_
  show J x [(5, .int (nI p)), (4, .ref (G.2.2 50)), (3, .ref (G.2.2 49)), (2, .ref (G.2.2 41)), (1, .ref (G.2.2 40)), (0, .ref b)] [.int (r), .int (r)] (wsF G σ2 ++ T) 1159 (kc + 120) (ns + 4200)
  refine j_icmp_eq C0 dL_law_1159 2115 (by decide) (fun _ => ?_) (fun h => absurd rfl h)
  refine j_sub [0, 1, 2, 3, 4, 5] (lo5 G b p) rfl ?_
  exact j_widen C0 (show kc + 120 ≤ kc + 1000 by omega) (show ns + 4200 ≤ ns + 10000 by omega) (hk σ2 T (hI.to (e5.mono (Nat.le_succ B)) e6))
set_option maxRecDepth 20000 in
set_option maxHeartbeats 2000000 in
theorem cs_19 {tab : List ExceptionTableEntry} {K : Nat → Nat} {x : Xt Tx} {G : Gt} {cB : ClassId} {b L : Nat} {xs : Nat → Int32} (C0 : Cx x code 9 RL (some .boolean) tab wsL room_1 G.1 (tys9 G cB)) (CV : Cv K x code 9 RL (some .boolean) tab wsL room_1 G.1 (tys9 G cB)) (X : Wt x G.1) (S9 : CS9 x b L xs) {B kc ns p : Nat} {σ : Mem} {T : Tx} (hI : LI K cB B σ T) (hB : B ≤ 600) (hp : p + 5 ≤ L) (hL : L ≤ 2560) (hr : kc + 1000 ≤ 892405 ∧ ns + 10000 ≤ 6351306) (hk : ∀ σ1 T1, LI K cB (B + 1) σ1 T1 → J x (lo5 G b p) [] (wsF G σ1 ++ T1) 2115 (kc + 1000) (ns + 10000)) : J x (lo5 G b p) [] (wsF G σ ++ T) 1164 kc ns := by
  obtain ⟨t, σ1, r, σ2, e1, e2, e3, e4, e5, e6⟩ := join_G2 (fun _ _ h => op_oreAt (n := 2000) (n' := 2000) (xs (p + 1)) h) hI.1
  show J x [(5, .int (nI p)), (4, .ref (G.2.2 50)), (3, .ref (G.2.2 49)), (2, .ref (G.2.2 41)), (1, .ref (G.2.2 40)), (0, .ref b)] [] (wsF G σ ++ T) 1164 (kc + 0) (ns + 0)
  refine j_aload_n C0 dL_law_1164 4 rfl ?_
  refine j_aload_n C0 dL_law_1165 5 rfl ?_
  refine j_iload C0 dL_law_1166 0 rfl ?_
  refine j_iconst C0 dL_law_1168 ((1 : Int32)) (by decide) ?_
  refine j_iadd C0 dL_law_1169 ?_
  refine jt_eqI (b := nI (p + 1)) (add_nI p 1) ?_
  refine jl_sld S9 dL_law_1170 (p := p + 1) (by omega) (by omega) ?_
  refine j_aload_n C0 dL_law_1171 2 rfl ?_
  refine jm_callSX CV X (c_L_oreAt 2000 G σ 40 (xs (p + 1)) 49 ok40 ok49 _ _ e1) dL_law_1172 (gSm9 v_438 v_439 v_297 v_440) rfl hy_L_oreAt rfl rfl ⟨Nat.le_of_ble_eq_true rfl, Nat.le_of_ble_eq_true rfl⟩ (Nat.le_of_ble_eq_true rfl) (Nat.le_of_ble_eq_true rfl) (Nat.le_of_ble_eq_true rfl) (show kc + 0 + 60 ≤ 892405 ∧ ns + 0 + 2100 ≤ 6351306 by omega) ?_
  show J x [(5, .int (nI p)), (4, .ref (G.2.2 50)), (3, .ref (G.2.2 49)), (2, .ref (G.2.2 41)), (1, .ref (G.2.2 40)), (0, .ref b)] [.int (t)] (wsF G σ1 ++ T) 1175 (kc + 60) (ns + 2100)
  refine j_istore C0 dL_law_1175 (by decide) [(6, .int (t)), (5, .int (nI p)), (4, .ref (G.2.2 50)), (3, .ref (G.2.2 49)), (2, .ref (G.2.2 41)), (1, .ref (G.2.2 40)), (0, .ref b)] rfl ?_
  refine j_aload_n C0 dL_law_1177 4 rfl ?_
  refine j_aload_n C0 dL_law_1178 6 rfl ?_
  refine j_iload C0 dL_law_1179 1 rfl ?_
  refine j_iconst C0 dL_law_1181 ((1 : Int32)) (by decide) ?_
  refine j_iadd C0 dL_law_1182 ?_
  refine jt_eqI (b := nI (p + 1)) (add_nI p 1) ?_
  refine jl_sld S9 dL_law_1183 (p := p + 1) (by omega) (by omega) ?_
  refine jm_callV CV X (c_X6_oreAt 2000 G σ1 41 (xs (p + 1)) ok41 _ _ e2) dL_law_1184 (gVm9 v_441 v_442 v_443 v_219 v_444) rfl hy_X6_oreAt rfl ok41 rfl (ci := 10) rfl rfl rfl ⟨Nat.le_of_ble_eq_true rfl, Nat.le_of_ble_eq_true rfl⟩ (Nat.le_of_ble_eq_true rfl) (Nat.le_of_ble_eq_true rfl) (Nat.le_of_ble_eq_true rfl) (show kc + 60 + 60 ≤ 892405 ∧ ns + 2100 + 2100 ≤ 6351306 by omega) ?_
  show J x [(6, .int (t)), (5, .int (nI p)), (4, .ref (G.2.2 50)), (3, .ref (G.2.2 49)), (2, .ref (G.2.2 41)), (1, .ref (G.2.2 40)), (0, .ref b)] [.int (r)] (wsF G σ2 ++ T) 1187 (kc + 120) (ns + 4200)
  refine j_istore C0 dL_law_1187 (by decide) [(7, .int (r)), (6, .int (t)), (5, .int (nI p)), (4, .ref (G.2.2 50)), (3, .ref (G.2.2 49)), (2, .ref (G.2.2 41)), (1, .ref (G.2.2 40)), (0, .ref b)] rfl ?_
  refine j_aload_n C0 dL_law_1189 5 rfl ?_
  refine jm_callV CV X (c_X6_thrown 2000 G σ2 41 ok41 _ _ rfl) dL_law_1190 (gVm9 v_303 v_304 v_305 v_219 v_306) rfl hy_X6_thrown rfl ok41 rfl (ci := 10) rfl rfl rfl ⟨Nat.le_of_ble_eq_true rfl, Nat.le_of_ble_eq_true rfl⟩ (Nat.le_of_ble_eq_true rfl) (Nat.le_of_ble_eq_true rfl) (Nat.le_of_ble_eq_true rfl) (show kc + 120 + 60 ≤ 892405 ∧ ns + 4200 + 2100 ≤ 6351306 by omega) ?_
  refine jt_eqI (b := t) e3 ?_
  show J x [(7, .int (r)), (6, .int (t)), (5, .int (nI p)), (4, .ref (G.2.2 50)), (3, .ref (G.2.2 49)), (2, .ref (G.2.2 41)), (1, .ref (G.2.2 40)), (0, .ref b)] [.int (t)] (wsF G σ2 ++ T) 1193 (kc + 180) (ns + 6300)
  refine j_iload C0 dL_law_1193 1 rfl ?_
  refine j_icmp_eq C0 dL_law_1195 1200 (by decide) (fun _ => ?_) (fun h => absurd rfl h)
  refine j_iload C0 dL_law_1200 1 rfl ?_
  refine j_if_ne C0 dL_law_1202 1217 (by decide) (fun h0 => ?_) (fun h0 => ?_)
  · refine j_goto C0 dL_law_1217 2115 (by decide) ?_
    refine j_sub [2, 3, 4, 5, 6, 7] (lo5 G b p) rfl ?_
    exact j_widen C0 (show kc + 180 ≤ kc + 1000 by omega) (show ns + 6300 ≤ ns + 10000 by omega) (hk σ2 T (hI.to (e5.mono (Nat.le_succ B)) e6))
  · refine j_aload_n C0 dL_law_1205 4 rfl ?_
    refine j_iconst C0 dL_law_1206 ((0 : Int32)) (by decide) ?_
    refine jl_lald C0 X dL_law_1207 ?_
    rw [e4 h0]
    refine j_iload C0 dL_law_1208 0 rfl ?_
    refine j_i2l C0 dL_law_1210 ?_
    refine j_lcmp C0 dL_law_1211 ?_
    refine jt_eqI (b := (0 : Int32)) (lg_cmp_self _) ?_
    refine j_if_eq C0 dL_law_1212 1217 (by decide) (fun _ => ?_) (fun h => absurd h (by decide))
    refine j_goto C0 dL_law_1217 2115 (by decide) ?_
    refine j_sub [2, 3, 4, 5, 6, 7] (lo5 G b p) rfl ?_
    exact j_widen C0 (show kc + 180 ≤ kc + 1000 by omega) (show ns + 6300 ≤ ns + 10000 by omega) (hk σ2 T (hI.to (e5.mono (Nat.le_succ B)) e6))
set_option maxRecDepth 20000 in
set_option maxHeartbeats 2000000 in
theorem cs_20 {tab : List ExceptionTableEntry} {K : Nat → Nat} {x : Xt Tx} {G : Gt} {cB : ClassId} {b L : Nat} {xs : Nat → Int32} (C0 : Cx x code 9 RL (some .boolean) tab wsL room_1 G.1 (tys9 G cB)) (CV : Cv K x code 9 RL (some .boolean) tab wsL room_1 G.1 (tys9 G cB)) (X : Wt x G.1) (S9 : CS9 x b L xs) {B kc ns p : Nat} {σ : Mem} {T : Tx} (hI : LI K cB B σ T) (hB : B ≤ 600) (hp : p + 5 ≤ L) (hL : L ≤ 2560) (hr : kc + 1000 ≤ 892405 ∧ ns + 10000 ≤ 6351306) (hk : ∀ σ1 T1, LI K cB (B + 1) σ1 T1 → J x (lo5 G b p) [] (wsF G σ1 ++ T1) 2115 (kc + 1000) (ns + 10000)) : J x (lo5 G b p) [] (wsF G σ ++ T) 1220 kc ns := by
  obtain ⟨t, σ1, r, σ2, e1, e2, e3, e4, e5, e6⟩ := join_G2 (fun _ _ h => op_blast (n := 2000) (n' := 2000) (xs (p + 1)) (xs (p + 2)) h) hI.1
  show J x [(5, .int (nI p)), (4, .ref (G.2.2 50)), (3, .ref (G.2.2 49)), (2, .ref (G.2.2 41)), (1, .ref (G.2.2 40)), (0, .ref b)] [] (wsF G σ ++ T) 1220 (kc + 0) (ns + 0)
  refine j_aload_n C0 dL_law_1220 4 rfl ?_
  refine j_aload_n C0 dL_law_1221 5 rfl ?_
  refine j_iload C0 dL_law_1222 0 rfl ?_
  refine j_iconst C0 dL_law_1224 ((1 : Int32)) (by decide) ?_
  refine j_iadd C0 dL_law_1225 ?_
  refine jt_eqI (b := nI (p + 1)) (add_nI p 1) ?_
  refine jl_sld S9 dL_law_1226 (p := p + 1) (by omega) (by omega) ?_
  refine j_aload_n C0 dL_law_1227 5 rfl ?_
  refine j_iload C0 dL_law_1228 0 rfl ?_
  refine j_iconst C0 dL_law_1230 ((2 : Int32)) (by decide) ?_
  refine j_iadd C0 dL_law_1231 ?_
  refine jt_eqI (b := nI (p + 2)) (add_nI p 2) ?_
  refine jl_sld S9 dL_law_1232 (p := p + 2) (by omega) (by omega) ?_
  refine j_aload_n C0 dL_law_1233 2 rfl ?_
  refine jm_callSX CV X (c_L_blast 2000 G σ 40 (xs (p + 1)) (xs (p + 2)) 49 ok40 ok49 _ _ e1) dL_law_1234 (gSm9 v_445 v_446 v_297 v_447) rfl hy_L_blast rfl rfl ⟨Nat.le_of_ble_eq_true rfl, Nat.le_of_ble_eq_true rfl⟩ (Nat.le_of_ble_eq_true rfl) (Nat.le_of_ble_eq_true rfl) (Nat.le_of_ble_eq_true rfl) (show kc + 0 + 60 ≤ 892405 ∧ ns + 0 + 2100 ≤ 6351306 by omega) ?_
  show J x [(5, .int (nI p)), (4, .ref (G.2.2 50)), (3, .ref (G.2.2 49)), (2, .ref (G.2.2 41)), (1, .ref (G.2.2 40)), (0, .ref b)] [.int (t)] (wsF G σ1 ++ T) 1237 (kc + 60) (ns + 2100)
  refine j_istore C0 dL_law_1237 (by decide) [(6, .int (t)), (5, .int (nI p)), (4, .ref (G.2.2 50)), (3, .ref (G.2.2 49)), (2, .ref (G.2.2 41)), (1, .ref (G.2.2 40)), (0, .ref b)] rfl ?_
  refine j_aload_n C0 dL_law_1239 4 rfl ?_
  refine j_aload_n C0 dL_law_1240 6 rfl ?_
  refine j_iload C0 dL_law_1241 1 rfl ?_
  refine j_iconst C0 dL_law_1243 ((1 : Int32)) (by decide) ?_
  refine j_iadd C0 dL_law_1244 ?_
  refine jt_eqI (b := nI (p + 1)) (add_nI p 1) ?_
  refine jl_sld S9 dL_law_1245 (p := p + 1) (by omega) (by omega) ?_
  refine j_aload_n C0 dL_law_1246 6 rfl ?_
  refine j_iload C0 dL_law_1247 1 rfl ?_
  refine j_iconst C0 dL_law_1249 ((2 : Int32)) (by decide) ?_
  refine j_iadd C0 dL_law_1250 ?_
  refine jt_eqI (b := nI (p + 2)) (add_nI p 2) ?_
  refine jl_sld S9 dL_law_1251 (p := p + 2) (by omega) (by omega) ?_
  refine jm_callV CV X (c_X6_blast 2000 G σ1 41 (xs (p + 1)) (xs (p + 2)) ok41 _ _ e2) dL_law_1252 (gVm9 v_448 v_449 v_450 v_219 v_451) rfl hy_X6_blast rfl ok41 rfl (ci := 10) rfl rfl rfl ⟨Nat.le_of_ble_eq_true rfl, Nat.le_of_ble_eq_true rfl⟩ (Nat.le_of_ble_eq_true rfl) (Nat.le_of_ble_eq_true rfl) (Nat.le_of_ble_eq_true rfl) (show kc + 60 + 60 ≤ 892405 ∧ ns + 2100 + 2100 ≤ 6351306 by omega) ?_
  show J x [(6, .int (t)), (5, .int (nI p)), (4, .ref (G.2.2 50)), (3, .ref (G.2.2 49)), (2, .ref (G.2.2 41)), (1, .ref (G.2.2 40)), (0, .ref b)] [.int (r)] (wsF G σ2 ++ T) 1255 (kc + 120) (ns + 4200)
  refine j_istore C0 dL_law_1255 (by decide) [(7, .int (r)), (6, .int (t)), (5, .int (nI p)), (4, .ref (G.2.2 50)), (3, .ref (G.2.2 49)), (2, .ref (G.2.2 41)), (1, .ref (G.2.2 40)), (0, .ref b)] rfl ?_
  refine j_aload_n C0 dL_law_1257 5 rfl ?_
  refine jm_callV CV X (c_X6_thrown 2000 G σ2 41 ok41 _ _ rfl) dL_law_1258 (gVm9 v_303 v_304 v_305 v_219 v_306) rfl hy_X6_thrown rfl ok41 rfl (ci := 10) rfl rfl rfl ⟨Nat.le_of_ble_eq_true rfl, Nat.le_of_ble_eq_true rfl⟩ (Nat.le_of_ble_eq_true rfl) (Nat.le_of_ble_eq_true rfl) (Nat.le_of_ble_eq_true rfl) (show kc + 120 + 60 ≤ 892405 ∧ ns + 4200 + 2100 ≤ 6351306 by omega) ?_
  refine jt_eqI (b := t) e3 ?_
  show J x [(7, .int (r)), (6, .int (t)), (5, .int (nI p)), (4, .ref (G.2.2 50)), (3, .ref (G.2.2 49)), (2, .ref (G.2.2 41)), (1, .ref (G.2.2 40)), (0, .ref b)] [.int (t)] (wsF G σ2 ++ T) 1261 (kc + 180) (ns + 6300)
  refine j_iload C0 dL_law_1261 1 rfl ?_
  refine j_icmp_eq C0 dL_law_1263 1268 (by decide) (fun _ => ?_) (fun h => absurd rfl h)
  refine j_iload C0 dL_law_1268 1 rfl ?_
  refine j_if_ne C0 dL_law_1270 1285 (by decide) (fun h0 => ?_) (fun h0 => ?_)
  · refine j_goto C0 dL_law_1285 2115 (by decide) ?_
    refine j_sub [2, 3, 4, 5, 6, 7] (lo5 G b p) rfl ?_
    exact j_widen C0 (show kc + 180 ≤ kc + 1000 by omega) (show ns + 6300 ≤ ns + 10000 by omega) (hk σ2 T (hI.to (e5.mono (Nat.le_succ B)) e6))
  · refine j_aload_n C0 dL_law_1273 4 rfl ?_
    refine j_iconst C0 dL_law_1274 ((0 : Int32)) (by decide) ?_
    refine jl_lald C0 X dL_law_1275 ?_
    rw [e4 h0]
    refine j_iload C0 dL_law_1276 0 rfl ?_
    refine j_i2l C0 dL_law_1278 ?_
    refine j_lcmp C0 dL_law_1279 ?_
    refine jt_eqI (b := (0 : Int32)) (lg_cmp_self _) ?_
    refine j_if_eq C0 dL_law_1280 1285 (by decide) (fun _ => ?_) (fun h => absurd h (by decide))
    refine j_goto C0 dL_law_1285 2115 (by decide) ?_
    refine j_sub [2, 3, 4, 5, 6, 7] (lo5 G b p) rfl ?_
    exact j_widen C0 (show kc + 180 ≤ kc + 1000 by omega) (show ns + 6300 ≤ ns + 10000 by omega) (hk σ2 T (hI.to (e5.mono (Nat.le_succ B)) e6))
set_option maxRecDepth 20000 in
set_option maxHeartbeats 2000000 in
theorem cs_21 {tab : List ExceptionTableEntry} {K : Nat → Nat} {x : Xt Tx} {G : Gt} {cB : ClassId} {b L : Nat} {xs : Nat → Int32} (C0 : Cx x code 9 RL (some .boolean) tab wsL room_1 G.1 (tys9 G cB)) (CV : Cv K x code 9 RL (some .boolean) tab wsL room_1 G.1 (tys9 G cB)) (X : Wt x G.1) (S9 : CS9 x b L xs) {B kc ns p : Nat} {σ : Mem} {T : Tx} (hI : LI K cB B σ T) (hB : B ≤ 600) (hp : p + 5 ≤ L) (hL : L ≤ 2560) (hr : kc + 1000 ≤ 892405 ∧ ns + 10000 ≤ 6351306) (hk : ∀ σ1 T1, LI K cB (B + 1) σ1 T1 → J x (lo5 G b p) [] (wsF G σ1 ++ T1) 2115 (kc + 1000) (ns + 10000)) : J x (lo5 G b p) [] (wsF G σ ++ T) 1288 kc ns := by
  obtain ⟨t, σ1, r, σ2, e1, e2, e3, e4, e5, e6⟩ := join_G2 (fun _ _ h => op_isClosed (n := 2000) (n' := 2000) (xs (p + 1)) h) hI.1
  rcases z_isClosed e2 with hz | hz <;> subst hz
  · show J x [(5, .int (nI p)), (4, .ref (G.2.2 50)), (3, .ref (G.2.2 49)), (2, .ref (G.2.2 41)), (1, .ref (G.2.2 40)), (0, .ref b)] [] (wsF G σ ++ T) 1288 (kc + 0) (ns + 0)
    refine j_aload_n C0 dL_law_1288 4 rfl ?_
    refine j_aload_n C0 dL_law_1289 5 rfl ?_
    refine j_iload C0 dL_law_1290 0 rfl ?_
    refine j_iconst C0 dL_law_1292 ((1 : Int32)) (by decide) ?_
    refine j_iadd C0 dL_law_1293 ?_
    refine jt_eqI (b := nI (p + 1)) (add_nI p 1) ?_
    refine jl_sld S9 dL_law_1294 (p := p + 1) (by omega) (by omega) ?_
    refine j_aload_n C0 dL_law_1295 2 rfl ?_
    refine jm_callSX CV X (c_L_isClosed 2000 G σ 40 (xs (p + 1)) 49 ok40 ok49 _ _ e1) dL_law_1296 (gSm9 v_452 v_453 v_297 v_454) rfl hy_L_isClosed rfl rfl ⟨Nat.le_of_ble_eq_true rfl, Nat.le_of_ble_eq_true rfl⟩ (Nat.le_of_ble_eq_true rfl) (Nat.le_of_ble_eq_true rfl) (Nat.le_of_ble_eq_true rfl) (show kc + 0 + 60 ≤ 892405 ∧ ns + 0 + 2100 ≤ 6351306 by omega) ?_
    show J x [(5, .int (nI p)), (4, .ref (G.2.2 50)), (3, .ref (G.2.2 49)), (2, .ref (G.2.2 41)), (1, .ref (G.2.2 40)), (0, .ref b)] [.int (t)] (wsF G σ1 ++ T) 1299 (kc + 60) (ns + 2100)
    refine j_istore C0 dL_law_1299 (by decide) [(6, .int (t)), (5, .int (nI p)), (4, .ref (G.2.2 50)), (3, .ref (G.2.2 49)), (2, .ref (G.2.2 41)), (1, .ref (G.2.2 40)), (0, .ref b)] rfl ?_
    refine j_aload_n C0 dL_law_1301 4 rfl ?_
    refine j_aload_n C0 dL_law_1302 6 rfl ?_
    refine j_iload C0 dL_law_1303 1 rfl ?_
    refine j_iconst C0 dL_law_1305 ((1 : Int32)) (by decide) ?_
    refine j_iadd C0 dL_law_1306 ?_
    refine jt_eqI (b := nI (p + 1)) (add_nI p 1) ?_
    refine jl_sld S9 dL_law_1307 (p := p + 1) (by omega) (by omega) ?_
    refine jm_callV CV X (c_X6_isClosed 2000 G σ1 41 (xs (p + 1)) ok41 _ _ e2) dL_law_1308 (gVm9 v_455 v_456 v_457 v_219 v_458) rfl hy_X6_isClosed rfl ok41 rfl (ci := 10) rfl rfl rfl ⟨Nat.le_of_ble_eq_true rfl, Nat.le_of_ble_eq_true rfl⟩ (Nat.le_of_ble_eq_true rfl) (Nat.le_of_ble_eq_true rfl) (Nat.le_of_ble_eq_true rfl) (show kc + 60 + 60 ≤ 892405 ∧ ns + 2100 + 2100 ≤ 6351306 by omega) ?_
    show J x [(6, .int (t)), (5, .int (nI p)), (4, .ref (G.2.2 50)), (3, .ref (G.2.2 49)), (2, .ref (G.2.2 41)), (1, .ref (G.2.2 40)), (0, .ref b)] [.int ((0 : Int32))] (wsF G σ2 ++ T) 1311 (kc + 120) (ns + 4200)
    refine j_istore C0 dL_law_1311 (by decide) [(7, .int ((0 : Int32))), (6, .int (t)), (5, .int (nI p)), (4, .ref (G.2.2 50)), (3, .ref (G.2.2 49)), (2, .ref (G.2.2 41)), (1, .ref (G.2.2 40)), (0, .ref b)] rfl ?_
    refine j_aload_n C0 dL_law_1313 5 rfl ?_
    refine jm_callV CV X (c_X6_thrown 2000 G σ2 41 ok41 _ _ rfl) dL_law_1314 (gVm9 v_303 v_304 v_305 v_219 v_306) rfl hy_X6_thrown rfl ok41 rfl (ci := 10) rfl rfl rfl ⟨Nat.le_of_ble_eq_true rfl, Nat.le_of_ble_eq_true rfl⟩ (Nat.le_of_ble_eq_true rfl) (Nat.le_of_ble_eq_true rfl) (Nat.le_of_ble_eq_true rfl) (show kc + 120 + 60 ≤ 892405 ∧ ns + 4200 + 2100 ≤ 6351306 by omega) ?_
    refine jt_eqI (b := t) e3 ?_
    show J x [(7, .int ((0 : Int32))), (6, .int (t)), (5, .int (nI p)), (4, .ref (G.2.2 50)), (3, .ref (G.2.2 49)), (2, .ref (G.2.2 41)), (1, .ref (G.2.2 40)), (0, .ref b)] [.int (t)] (wsF G σ2 ++ T) 1317 (kc + 180) (ns + 6300)
    refine j_iload C0 dL_law_1317 1 rfl ?_
    refine j_icmp_eq C0 dL_law_1319 1324 (by decide) (fun _ => ?_) (fun h => absurd rfl h)
    refine j_iload C0 dL_law_1324 1 rfl ?_
    refine j_if_ne C0 dL_law_1326 1348 (by decide) (fun h0 => ?_) (fun h0 => ?_)
    · refine j_goto C0 dL_law_1348 2115 (by decide) ?_
      refine j_sub [2, 3, 4, 5, 6, 7] (lo5 G b p) rfl ?_
      exact j_widen C0 (show kc + 180 ≤ kc + 1000 by omega) (show ns + 6300 ≤ ns + 10000 by omega) (hk σ2 T (hI.to (e5.mono (Nat.le_succ B)) e6))
    · refine j_aload_n C0 dL_law_1329 4 rfl ?_
      refine j_iconst C0 dL_law_1330 ((0 : Int32)) (by decide) ?_
      refine jl_lald C0 X dL_law_1331 ?_
      rw [e4 h0]
      refine j_iload C0 dL_law_1332 0 rfl ?_
      refine j_if_eq C0 dL_law_1334 1341 (by decide) (fun _ => ?_) (fun h => absurd h (by decide))
      refine j_lconst C0 dL_law_1341 ((0 : Int32).toInt64) (by decide) ?_
      refine j_lcmp C0 dL_law_1342 ?_
      refine jt_eqI (b := (0 : Int32)) (lg_cmp_self _) ?_
      refine j_if_eq C0 dL_law_1343 1348 (by decide) (fun _ => ?_) (fun h => absurd h (by decide))
      refine j_goto C0 dL_law_1348 2115 (by decide) ?_
      refine j_sub [2, 3, 4, 5, 6, 7] (lo5 G b p) rfl ?_
      exact j_widen C0 (show kc + 180 ≤ kc + 1000 by omega) (show ns + 6300 ≤ ns + 10000 by omega) (hk σ2 T (hI.to (e5.mono (Nat.le_succ B)) e6))
  · show J x [(5, .int (nI p)), (4, .ref (G.2.2 50)), (3, .ref (G.2.2 49)), (2, .ref (G.2.2 41)), (1, .ref (G.2.2 40)), (0, .ref b)] [] (wsF G σ ++ T) 1288 (kc + 0) (ns + 0)
    refine j_aload_n C0 dL_law_1288 4 rfl ?_
    refine j_aload_n C0 dL_law_1289 5 rfl ?_
    refine j_iload C0 dL_law_1290 0 rfl ?_
    refine j_iconst C0 dL_law_1292 ((1 : Int32)) (by decide) ?_
    refine j_iadd C0 dL_law_1293 ?_
    refine jt_eqI (b := nI (p + 1)) (add_nI p 1) ?_
    refine jl_sld S9 dL_law_1294 (p := p + 1) (by omega) (by omega) ?_
    refine j_aload_n C0 dL_law_1295 2 rfl ?_
    refine jm_callSX CV X (c_L_isClosed 2000 G σ 40 (xs (p + 1)) 49 ok40 ok49 _ _ e1) dL_law_1296 (gSm9 v_452 v_453 v_297 v_454) rfl hy_L_isClosed rfl rfl ⟨Nat.le_of_ble_eq_true rfl, Nat.le_of_ble_eq_true rfl⟩ (Nat.le_of_ble_eq_true rfl) (Nat.le_of_ble_eq_true rfl) (Nat.le_of_ble_eq_true rfl) (show kc + 0 + 60 ≤ 892405 ∧ ns + 0 + 2100 ≤ 6351306 by omega) ?_
    show J x [(5, .int (nI p)), (4, .ref (G.2.2 50)), (3, .ref (G.2.2 49)), (2, .ref (G.2.2 41)), (1, .ref (G.2.2 40)), (0, .ref b)] [.int (t)] (wsF G σ1 ++ T) 1299 (kc + 60) (ns + 2100)
    refine j_istore C0 dL_law_1299 (by decide) [(6, .int (t)), (5, .int (nI p)), (4, .ref (G.2.2 50)), (3, .ref (G.2.2 49)), (2, .ref (G.2.2 41)), (1, .ref (G.2.2 40)), (0, .ref b)] rfl ?_
    refine j_aload_n C0 dL_law_1301 4 rfl ?_
    refine j_aload_n C0 dL_law_1302 6 rfl ?_
    refine j_iload C0 dL_law_1303 1 rfl ?_
    refine j_iconst C0 dL_law_1305 ((1 : Int32)) (by decide) ?_
    refine j_iadd C0 dL_law_1306 ?_
    refine jt_eqI (b := nI (p + 1)) (add_nI p 1) ?_
    refine jl_sld S9 dL_law_1307 (p := p + 1) (by omega) (by omega) ?_
    refine jm_callV CV X (c_X6_isClosed 2000 G σ1 41 (xs (p + 1)) ok41 _ _ e2) dL_law_1308 (gVm9 v_455 v_456 v_457 v_219 v_458) rfl hy_X6_isClosed rfl ok41 rfl (ci := 10) rfl rfl rfl ⟨Nat.le_of_ble_eq_true rfl, Nat.le_of_ble_eq_true rfl⟩ (Nat.le_of_ble_eq_true rfl) (Nat.le_of_ble_eq_true rfl) (Nat.le_of_ble_eq_true rfl) (show kc + 60 + 60 ≤ 892405 ∧ ns + 2100 + 2100 ≤ 6351306 by omega) ?_
    show J x [(6, .int (t)), (5, .int (nI p)), (4, .ref (G.2.2 50)), (3, .ref (G.2.2 49)), (2, .ref (G.2.2 41)), (1, .ref (G.2.2 40)), (0, .ref b)] [.int ((1 : Int32))] (wsF G σ2 ++ T) 1311 (kc + 120) (ns + 4200)
    refine j_istore C0 dL_law_1311 (by decide) [(7, .int ((1 : Int32))), (6, .int (t)), (5, .int (nI p)), (4, .ref (G.2.2 50)), (3, .ref (G.2.2 49)), (2, .ref (G.2.2 41)), (1, .ref (G.2.2 40)), (0, .ref b)] rfl ?_
    refine j_aload_n C0 dL_law_1313 5 rfl ?_
    refine jm_callV CV X (c_X6_thrown 2000 G σ2 41 ok41 _ _ rfl) dL_law_1314 (gVm9 v_303 v_304 v_305 v_219 v_306) rfl hy_X6_thrown rfl ok41 rfl (ci := 10) rfl rfl rfl ⟨Nat.le_of_ble_eq_true rfl, Nat.le_of_ble_eq_true rfl⟩ (Nat.le_of_ble_eq_true rfl) (Nat.le_of_ble_eq_true rfl) (Nat.le_of_ble_eq_true rfl) (show kc + 120 + 60 ≤ 892405 ∧ ns + 4200 + 2100 ≤ 6351306 by omega) ?_
    refine jt_eqI (b := t) e3 ?_
    show J x [(7, .int ((1 : Int32))), (6, .int (t)), (5, .int (nI p)), (4, .ref (G.2.2 50)), (3, .ref (G.2.2 49)), (2, .ref (G.2.2 41)), (1, .ref (G.2.2 40)), (0, .ref b)] [.int (t)] (wsF G σ2 ++ T) 1317 (kc + 180) (ns + 6300)
    refine j_iload C0 dL_law_1317 1 rfl ?_
    refine j_icmp_eq C0 dL_law_1319 1324 (by decide) (fun _ => ?_) (fun h => absurd rfl h)
    refine j_iload C0 dL_law_1324 1 rfl ?_
    refine j_if_ne C0 dL_law_1326 1348 (by decide) (fun h0 => ?_) (fun h0 => ?_)
    · refine j_goto C0 dL_law_1348 2115 (by decide) ?_
      refine j_sub [2, 3, 4, 5, 6, 7] (lo5 G b p) rfl ?_
      exact j_widen C0 (show kc + 180 ≤ kc + 1000 by omega) (show ns + 6300 ≤ ns + 10000 by omega) (hk σ2 T (hI.to (e5.mono (Nat.le_succ B)) e6))
    · refine j_aload_n C0 dL_law_1329 4 rfl ?_
      refine j_iconst C0 dL_law_1330 ((0 : Int32)) (by decide) ?_
      refine jl_lald C0 X dL_law_1331 ?_
      rw [e4 h0]
      refine j_iload C0 dL_law_1332 0 rfl ?_
      refine j_if_eq C0 dL_law_1334 1341 (by decide) (fun h => absurd h (by decide)) (fun _ => ?_)
      refine j_lconst C0 dL_law_1337 ((1 : Int32).toInt64) (by decide) ?_
      refine j_goto C0 dL_law_1338 1342 (by decide) ?_
      refine j_lcmp C0 dL_law_1342 ?_
      refine jt_eqI (b := (0 : Int32)) (lg_cmp_self _) ?_
      refine j_if_eq C0 dL_law_1343 1348 (by decide) (fun _ => ?_) (fun h => absurd h (by decide))
      refine j_goto C0 dL_law_1348 2115 (by decide) ?_
      refine j_sub [2, 3, 4, 5, 6, 7] (lo5 G b p) rfl ?_
      exact j_widen C0 (show kc + 180 ≤ kc + 1000 by omega) (show ns + 6300 ≤ ns + 10000 by omega) (hk σ2 T (hI.to (e5.mono (Nat.le_succ B)) e6))
set_option maxRecDepth 20000 in
set_option maxHeartbeats 2000000 in
theorem cs_22 {tab : List ExceptionTableEntry} {K : Nat → Nat} {x : Xt Tx} {G : Gt} {cB : ClassId} {b L : Nat} {xs : Nat → Int32} (C0 : Cx x code 9 RL (some .boolean) tab wsL room_1 G.1 (tys9 G cB)) (CV : Cv K x code 9 RL (some .boolean) tab wsL room_1 G.1 (tys9 G cB)) (X : Wt x G.1) (S9 : CS9 x b L xs) {B kc ns p : Nat} {σ : Mem} {T : Tx} (hI : LI K cB B σ T) (hB : B ≤ 600) (hp : p + 5 ≤ L) (hL : L ≤ 2560) (hr : kc + 1000 ≤ 892405 ∧ ns + 10000 ≤ 6351306) (hk : ∀ σ1 T1, LI K cB (B + 1) σ1 T1 → J x (lo5 G b p) [] (wsF G σ1 ++ T1) 2115 (kc + 1000) (ns + 10000)) : J x (lo5 G b p) [] (wsF G σ ++ T) 1351 kc ns := by
  obtain ⟨t, σ1, r, σ2, e1, e2, e3, e4, e5, e6⟩ := join_G2 (fun _ _ h => op_setSpeed (n := 2000) (n' := 2000) (xs (p + 1)) h) hI.1
  show J x [(5, .int (nI p)), (4, .ref (G.2.2 50)), (3, .ref (G.2.2 49)), (2, .ref (G.2.2 41)), (1, .ref (G.2.2 40)), (0, .ref b)] [] (wsF G σ ++ T) 1351 (kc + 0) (ns + 0)
  refine j_aload_n C0 dL_law_1351 4 rfl ?_
  refine j_aload_n C0 dL_law_1352 5 rfl ?_
  refine j_iload C0 dL_law_1353 0 rfl ?_
  refine j_iconst C0 dL_law_1355 ((1 : Int32)) (by decide) ?_
  refine j_iadd C0 dL_law_1356 ?_
  refine jt_eqI (b := nI (p + 1)) (add_nI p 1) ?_
  refine jl_sld S9 dL_law_1357 (p := p + 1) (by omega) (by omega) ?_
  refine j_aload_n C0 dL_law_1358 2 rfl ?_
  refine jm_callSX CV X (c_L_setSpeed 2000 G σ 40 (xs (p + 1)) 49 ok40 ok49 _ _ e1) dL_law_1359 (gSm9 v_459 v_460 v_297 v_461) rfl hy_L_setSpeed rfl rfl ⟨Nat.le_of_ble_eq_true rfl, Nat.le_of_ble_eq_true rfl⟩ (Nat.le_of_ble_eq_true rfl) (Nat.le_of_ble_eq_true rfl) (Nat.le_of_ble_eq_true rfl) (show kc + 0 + 60 ≤ 892405 ∧ ns + 0 + 2100 ≤ 6351306 by omega) ?_
  show J x [(5, .int (nI p)), (4, .ref (G.2.2 50)), (3, .ref (G.2.2 49)), (2, .ref (G.2.2 41)), (1, .ref (G.2.2 40)), (0, .ref b)] [.int (t)] (wsF G σ1 ++ T) 1362 (kc + 60) (ns + 2100)
  refine j_istore C0 dL_law_1362 (by decide) [(6, .int (t)), (5, .int (nI p)), (4, .ref (G.2.2 50)), (3, .ref (G.2.2 49)), (2, .ref (G.2.2 41)), (1, .ref (G.2.2 40)), (0, .ref b)] rfl ?_
  refine j_aload_n C0 dL_law_1364 4 rfl ?_
  refine j_aload_n C0 dL_law_1365 6 rfl ?_
  refine j_iload C0 dL_law_1366 1 rfl ?_
  refine j_iconst C0 dL_law_1368 ((1 : Int32)) (by decide) ?_
  refine j_iadd C0 dL_law_1369 ?_
  refine jt_eqI (b := nI (p + 1)) (add_nI p 1) ?_
  refine jl_sld S9 dL_law_1370 (p := p + 1) (by omega) (by omega) ?_
  refine jm_callV CV X (c_X6_setSpeed 2000 G σ1 41 (xs (p + 1)) ok41 _ _ e2) dL_law_1371 (gVm9 v_462 v_463 v_464 v_219 v_465) rfl hy_X6_setSpeed rfl ok41 rfl (ci := 10) rfl rfl rfl ⟨Nat.le_of_ble_eq_true rfl, Nat.le_of_ble_eq_true rfl⟩ (Nat.le_of_ble_eq_true rfl) (Nat.le_of_ble_eq_true rfl) (Nat.le_of_ble_eq_true rfl) (show kc + 60 + 60 ≤ 892405 ∧ ns + 2100 + 2100 ≤ 6351306 by omega) ?_
  show J x [(6, .int (t)), (5, .int (nI p)), (4, .ref (G.2.2 50)), (3, .ref (G.2.2 49)), (2, .ref (G.2.2 41)), (1, .ref (G.2.2 40)), (0, .ref b)] [.int (r)] (wsF G σ2 ++ T) 1374 (kc + 120) (ns + 4200)
  refine j_istore C0 dL_law_1374 (by decide) [(7, .int (r)), (6, .int (t)), (5, .int (nI p)), (4, .ref (G.2.2 50)), (3, .ref (G.2.2 49)), (2, .ref (G.2.2 41)), (1, .ref (G.2.2 40)), (0, .ref b)] rfl ?_
  refine j_aload_n C0 dL_law_1376 5 rfl ?_
  refine jm_callV CV X (c_X6_thrown 2000 G σ2 41 ok41 _ _ rfl) dL_law_1377 (gVm9 v_303 v_304 v_305 v_219 v_306) rfl hy_X6_thrown rfl ok41 rfl (ci := 10) rfl rfl rfl ⟨Nat.le_of_ble_eq_true rfl, Nat.le_of_ble_eq_true rfl⟩ (Nat.le_of_ble_eq_true rfl) (Nat.le_of_ble_eq_true rfl) (Nat.le_of_ble_eq_true rfl) (show kc + 120 + 60 ≤ 892405 ∧ ns + 4200 + 2100 ≤ 6351306 by omega) ?_
  refine jt_eqI (b := t) e3 ?_
  show J x [(7, .int (r)), (6, .int (t)), (5, .int (nI p)), (4, .ref (G.2.2 50)), (3, .ref (G.2.2 49)), (2, .ref (G.2.2 41)), (1, .ref (G.2.2 40)), (0, .ref b)] [.int (t)] (wsF G σ2 ++ T) 1380 (kc + 180) (ns + 6300)
  refine j_iload C0 dL_law_1380 1 rfl ?_
  refine j_icmp_eq C0 dL_law_1382 1387 (by decide) (fun _ => ?_) (fun h => absurd rfl h)
  refine j_iload C0 dL_law_1387 1 rfl ?_
  refine j_if_ne C0 dL_law_1389 1404 (by decide) (fun h0 => ?_) (fun h0 => ?_)
  · refine j_goto C0 dL_law_1404 2115 (by decide) ?_
    refine j_sub [2, 3, 4, 5, 6, 7] (lo5 G b p) rfl ?_
    exact j_widen C0 (show kc + 180 ≤ kc + 1000 by omega) (show ns + 6300 ≤ ns + 10000 by omega) (hk σ2 T (hI.to (e5.mono (Nat.le_succ B)) e6))
  · refine j_aload_n C0 dL_law_1392 4 rfl ?_
    refine j_iconst C0 dL_law_1393 ((0 : Int32)) (by decide) ?_
    refine jl_lald C0 X dL_law_1394 ?_
    rw [e4 h0]
    refine j_iload C0 dL_law_1395 0 rfl ?_
    refine j_i2l C0 dL_law_1397 ?_
    refine j_lcmp C0 dL_law_1398 ?_
    refine jt_eqI (b := (0 : Int32)) (lg_cmp_self _) ?_
    refine j_if_eq C0 dL_law_1399 1404 (by decide) (fun _ => ?_) (fun h => absurd h (by decide))
    refine j_goto C0 dL_law_1404 2115 (by decide) ?_
    refine j_sub [2, 3, 4, 5, 6, 7] (lo5 G b p) rfl ?_
    exact j_widen C0 (show kc + 180 ≤ kc + 1000 by omega) (show ns + 6300 ≤ ns + 10000 by omega) (hk σ2 T (hI.to (e5.mono (Nat.le_succ B)) e6))
set_option maxRecDepth 20000 in
set_option maxHeartbeats 2000000 in
theorem cs_23 {tab : List ExceptionTableEntry} {K : Nat → Nat} {x : Xt Tx} {G : Gt} {cB : ClassId} {b L : Nat} {xs : Nat → Int32} (C0 : Cx x code 9 RL (some .boolean) tab wsL room_1 G.1 (tys9 G cB)) (CV : Cv K x code 9 RL (some .boolean) tab wsL room_1 G.1 (tys9 G cB)) (X : Wt x G.1) (S9 : CS9 x b L xs) {B kc ns p : Nat} {σ : Mem} {T : Tx} (hI : LI K cB B σ T) (hB : B ≤ 600) (hp : p + 5 ≤ L) (hL : L ≤ 2560) (hr : kc + 1000 ≤ 892405 ∧ ns + 10000 ≤ 6351306) (hk : ∀ σ1 T1, LI K cB (B + 1) σ1 T1 → J x (lo5 G b p) [] (wsF G σ1 ++ T1) 2115 (kc + 1000) (ns + 10000)) : J x (lo5 G b p) [] (wsF G σ ++ T) 1407 kc ns := by
  obtain ⟨t, σ1, r, σ2, e1, e2, e3, e4, e5, e6⟩ := join_G2 (fun _ _ h => op_sendDown (n := 2000) (n' := 2000) (by omega) (xs (p + 1)) (xs (p + 2)) h) hI.1
  show J x [(5, .int (nI p)), (4, .ref (G.2.2 50)), (3, .ref (G.2.2 49)), (2, .ref (G.2.2 41)), (1, .ref (G.2.2 40)), (0, .ref b)] [] (wsF G σ ++ T) 1407 (kc + 0) (ns + 0)
  refine j_aload_n C0 dL_law_1407 4 rfl ?_
  refine j_aload_n C0 dL_law_1408 5 rfl ?_
  refine j_iload C0 dL_law_1409 0 rfl ?_
  refine j_iconst C0 dL_law_1411 ((1 : Int32)) (by decide) ?_
  refine j_iadd C0 dL_law_1412 ?_
  refine jt_eqI (b := nI (p + 1)) (add_nI p 1) ?_
  refine jl_sld S9 dL_law_1413 (p := p + 1) (by omega) (by omega) ?_
  refine j_aload_n C0 dL_law_1414 5 rfl ?_
  refine j_iload C0 dL_law_1415 0 rfl ?_
  refine j_iconst C0 dL_law_1417 ((2 : Int32)) (by decide) ?_
  refine j_iadd C0 dL_law_1418 ?_
  refine jt_eqI (b := nI (p + 2)) (add_nI p 2) ?_
  refine jl_sld S9 dL_law_1419 (p := p + 2) (by omega) (by omega) ?_
  refine j_aload_n C0 dL_law_1420 2 rfl ?_
  refine jm_callSX CV X (c_L_sendDown 2000 G σ 40 (xs (p + 1)) (xs (p + 2)) 49 ok40 ok49 _ _ e1) dL_law_1421 (gSm9 v_466 v_467 v_297 v_468) rfl hy_L_sendDown rfl rfl ⟨Nat.le_of_ble_eq_true rfl, Nat.le_of_ble_eq_true rfl⟩ (Nat.le_of_ble_eq_true rfl) (Nat.le_of_ble_eq_true rfl) (Nat.le_of_ble_eq_true rfl) (show kc + 0 + 60 ≤ 892405 ∧ ns + 0 + 2100 ≤ 6351306 by omega) ?_
  show J x [(5, .int (nI p)), (4, .ref (G.2.2 50)), (3, .ref (G.2.2 49)), (2, .ref (G.2.2 41)), (1, .ref (G.2.2 40)), (0, .ref b)] [.int (t)] (wsF G σ1 ++ T) 1424 (kc + 60) (ns + 2100)
  refine j_istore C0 dL_law_1424 (by decide) [(6, .int (t)), (5, .int (nI p)), (4, .ref (G.2.2 50)), (3, .ref (G.2.2 49)), (2, .ref (G.2.2 41)), (1, .ref (G.2.2 40)), (0, .ref b)] rfl ?_
  refine j_aload_n C0 dL_law_1426 4 rfl ?_
  refine j_aload_n C0 dL_law_1427 6 rfl ?_
  refine j_iload C0 dL_law_1428 1 rfl ?_
  refine j_iconst C0 dL_law_1430 ((1 : Int32)) (by decide) ?_
  refine j_iadd C0 dL_law_1431 ?_
  refine jt_eqI (b := nI (p + 1)) (add_nI p 1) ?_
  refine jl_sld S9 dL_law_1432 (p := p + 1) (by omega) (by omega) ?_
  refine j_aload_n C0 dL_law_1433 6 rfl ?_
  refine j_iload C0 dL_law_1434 1 rfl ?_
  refine j_iconst C0 dL_law_1436 ((2 : Int32)) (by decide) ?_
  refine j_iadd C0 dL_law_1437 ?_
  refine jt_eqI (b := nI (p + 2)) (add_nI p 2) ?_
  refine jl_sld S9 dL_law_1438 (p := p + 2) (by omega) (by omega) ?_
  refine jm_callV CV X (c_X6_sendDown 2000 G σ1 41 (xs (p + 1)) (xs (p + 2)) ok41 _ _ e2) dL_law_1439 (gVm9 v_469 v_470 v_471 v_219 v_472) rfl hy_X6_sendDown rfl ok41 rfl (ci := 10) rfl rfl rfl ⟨Nat.le_of_ble_eq_true rfl, Nat.le_of_ble_eq_true rfl⟩ (Nat.le_of_ble_eq_true rfl) (Nat.le_of_ble_eq_true rfl) (Nat.le_of_ble_eq_true rfl) (show kc + 60 + 60 ≤ 892405 ∧ ns + 2100 + 2100 ≤ 6351306 by omega) ?_
  show J x [(6, .int (t)), (5, .int (nI p)), (4, .ref (G.2.2 50)), (3, .ref (G.2.2 49)), (2, .ref (G.2.2 41)), (1, .ref (G.2.2 40)), (0, .ref b)] [.int (r)] (wsF G σ2 ++ T) 1442 (kc + 120) (ns + 4200)
  refine j_istore C0 dL_law_1442 (by decide) [(7, .int (r)), (6, .int (t)), (5, .int (nI p)), (4, .ref (G.2.2 50)), (3, .ref (G.2.2 49)), (2, .ref (G.2.2 41)), (1, .ref (G.2.2 40)), (0, .ref b)] rfl ?_
  refine j_aload_n C0 dL_law_1444 5 rfl ?_
  refine jm_callV CV X (c_X6_thrown 2000 G σ2 41 ok41 _ _ rfl) dL_law_1445 (gVm9 v_303 v_304 v_305 v_219 v_306) rfl hy_X6_thrown rfl ok41 rfl (ci := 10) rfl rfl rfl ⟨Nat.le_of_ble_eq_true rfl, Nat.le_of_ble_eq_true rfl⟩ (Nat.le_of_ble_eq_true rfl) (Nat.le_of_ble_eq_true rfl) (Nat.le_of_ble_eq_true rfl) (show kc + 120 + 60 ≤ 892405 ∧ ns + 4200 + 2100 ≤ 6351306 by omega) ?_
  refine jt_eqI (b := t) e3 ?_
  show J x [(7, .int (r)), (6, .int (t)), (5, .int (nI p)), (4, .ref (G.2.2 50)), (3, .ref (G.2.2 49)), (2, .ref (G.2.2 41)), (1, .ref (G.2.2 40)), (0, .ref b)] [.int (t)] (wsF G σ2 ++ T) 1448 (kc + 180) (ns + 6300)
  refine j_iload C0 dL_law_1448 1 rfl ?_
  refine j_icmp_eq C0 dL_law_1450 1455 (by decide) (fun _ => ?_) (fun h => absurd rfl h)
  refine j_iload C0 dL_law_1455 1 rfl ?_
  refine j_if_ne C0 dL_law_1457 1472 (by decide) (fun h0 => ?_) (fun h0 => ?_)
  · refine j_goto C0 dL_law_1472 2115 (by decide) ?_
    refine j_sub [2, 3, 4, 5, 6, 7] (lo5 G b p) rfl ?_
    exact j_widen C0 (show kc + 180 ≤ kc + 1000 by omega) (show ns + 6300 ≤ ns + 10000 by omega) (hk σ2 T (hI.to (e5) e6))
  · refine j_aload_n C0 dL_law_1460 4 rfl ?_
    refine j_iconst C0 dL_law_1461 ((0 : Int32)) (by decide) ?_
    refine jl_lald C0 X dL_law_1462 ?_
    rw [e4 h0]
    refine j_iload C0 dL_law_1463 0 rfl ?_
    refine j_i2l C0 dL_law_1465 ?_
    refine j_lcmp C0 dL_law_1466 ?_
    refine jt_eqI (b := (0 : Int32)) (lg_cmp_self _) ?_
    refine j_if_eq C0 dL_law_1467 1472 (by decide) (fun _ => ?_) (fun h => absurd h (by decide))
    refine j_goto C0 dL_law_1472 2115 (by decide) ?_
    refine j_sub [2, 3, 4, 5, 6, 7] (lo5 G b p) rfl ?_
    exact j_widen C0 (show kc + 180 ≤ kc + 1000 by omega) (show ns + 6300 ≤ ns + 10000 by omega) (hk σ2 T (hI.to (e5) e6))
