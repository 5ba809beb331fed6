set_option maxRecDepth 20000 in
set_option maxHeartbeats 2000000 in
theorem cs_24 {tab : List ExceptionTableEntry} {K : Nat → Nat} {x : Xt Tx} {G : Gt} {cB : ClassId} {b L : Nat} {xs : Nat → Int32} (C0 : Cx x code 9 RL (some .boolean) tab wsL room_1 G.1 (tys9 G cB)) (CV : Cv K x code 9 RL (some .boolean) tab wsL room_1 G.1 (tys9 G cB)) (X : Wt x G.1) (S9 : CS9 x b L xs) {B kc ns p : Nat} {σ : Mem} {T : Tx} (hI : LI K cB B σ T) (hB : B ≤ 600) (hp : p + 5 ≤ L) (hL : L ≤ 2560) (hr : kc + 1000 ≤ 892405 ∧ ns + 10000 ≤ 6351306) (hk : ∀ σ1 T1, LI K cB (B + 1) σ1 T1 → J x (lo5 G b p) [] (wsF G σ1 ++ T1) 2115 (kc + 1000) (ns + 10000)) : J x (lo5 G b p) [] (wsF G σ ++ T) 1475 kc ns := by
  obtain ⟨t, σ1, r, σ2, e1, e2, e3, e4, e5, e6⟩ := join_G2 (fun _ _ h => op_callUp (n := 2000) (n' := 2000) (by omega) (xs (p + 1)) (xs (p + 2)) h) hI.1
  show J x [(5, .int (nI p)), (4, .ref (G.2.2 50)), (3, .ref (G.2.2 49)), (2, .ref (G.2.2 41)), (1, .ref (G.2.2 40)), (0, .ref b)] [] (wsF G σ ++ T) 1475 (kc + 0) (ns + 0)
  refine j_aload_n C0 dL_law_1475 4 rfl ?_
  refine j_aload_n C0 dL_law_1476 5 rfl ?_
  refine j_iload C0 dL_law_1477 0 rfl ?_
  refine j_iconst C0 dL_law_1479 ((1 : Int32)) (by decide) ?_
  refine j_iadd C0 dL_law_1480 ?_
  refine jt_eqI (b := nI (p + 1)) (add_nI p 1) ?_
  refine jl_sld S9 dL_law_1481 (p := p + 1) (by omega) (by omega) ?_
  refine j_aload_n C0 dL_law_1482 5 rfl ?_
  refine j_iload C0 dL_law_1483 0 rfl ?_
  refine j_iconst C0 dL_law_1485 ((2 : Int32)) (by decide) ?_
  refine j_iadd C0 dL_law_1486 ?_
  refine jt_eqI (b := nI (p + 2)) (add_nI p 2) ?_
  refine jl_sld S9 dL_law_1487 (p := p + 2) (by omega) (by omega) ?_
  refine j_aload_n C0 dL_law_1488 2 rfl ?_
  refine jm_callSX CV X (c_L_callUp 2000 G σ 40 (xs (p + 1)) (xs (p + 2)) 49 ok40 ok49 _ _ e1) dL_law_1489 (gSm9 v_473 v_474 v_297 v_475) rfl hy_L_callUp rfl rfl ⟨Nat.le_of_ble_eq_true rfl, Nat.le_of_ble_eq_true rfl⟩ (Nat.le_of_ble_eq_true rfl) (Nat.le_of_ble_eq_true rfl) (Nat.le_of_ble_eq_true rfl) (show kc + 0 + 60 ≤ 892405 ∧ ns + 0 + 2100 ≤ 6351306 by omega) ?_
  show J x [(5, .int (nI p)), (4, .ref (G.2.2 50)), (3, .ref (G.2.2 49)), (2, .ref (G.2.2 41)), (1, .ref (G.2.2 40)), (0, .ref b)] [.int (t)] (wsF G σ1 ++ T) 1492 (kc + 60) (ns + 2100)
  refine j_istore C0 dL_law_1492 (by decide) [(6, .int (t)), (5, .int (nI p)), (4, .ref (G.2.2 50)), (3, .ref (G.2.2 49)), (2, .ref (G.2.2 41)), (1, .ref (G.2.2 40)), (0, .ref b)] rfl ?_
  refine j_aload_n C0 dL_law_1494 4 rfl ?_
  refine j_aload_n C0 dL_law_1495 6 rfl ?_
  refine j_iload C0 dL_law_1496 1 rfl ?_
  refine j_iconst C0 dL_law_1498 ((1 : Int32)) (by decide) ?_
  refine j_iadd C0 dL_law_1499 ?_
  refine jt_eqI (b := nI (p + 1)) (add_nI p 1) ?_
  refine jl_sld S9 dL_law_1500 (p := p + 1) (by omega) (by omega) ?_
  refine j_aload_n C0 dL_law_1501 6 rfl ?_
  refine j_iload C0 dL_law_1502 1 rfl ?_
  refine j_iconst C0 dL_law_1504 ((2 : Int32)) (by decide) ?_
  refine j_iadd C0 dL_law_1505 ?_
  refine jt_eqI (b := nI (p + 2)) (add_nI p 2) ?_
  refine jl_sld S9 dL_law_1506 (p := p + 2) (by omega) (by omega) ?_
  refine jm_callV CV X (c_X6_callUp 2000 G σ1 41 (xs (p + 1)) (xs (p + 2)) ok41 _ _ e2) dL_law_1507 (gVm9 v_476 v_477 v_478 v_219 v_479) rfl hy_X6_callUp rfl ok41 rfl (ci := 10) rfl rfl rfl ⟨Nat.le_of_ble_eq_true rfl, Nat.le_of_ble_eq_true rfl⟩ (Nat.le_of_ble_eq_true rfl) (Nat.le_of_ble_eq_true rfl) (Nat.le_of_ble_eq_true rfl) (show kc + 60 + 60 ≤ 892405 ∧ ns + 2100 + 2100 ≤ 6351306 by omega) ?_
  show J x [(6, .int (t)), (5, .int (nI p)), (4, .ref (G.2.2 50)), (3, .ref (G.2.2 49)), (2, .ref (G.2.2 41)), (1, .ref (G.2.2 40)), (0, .ref b)] [.int (r)] (wsF G σ2 ++ T) 1510 (kc + 120) (ns + 4200)
  refine j_istore C0 dL_law_1510 (by decide) [(7, .int (r)), (6, .int (t)), (5, .int (nI p)), (4, .ref (G.2.2 50)), (3, .ref (G.2.2 49)), (2, .ref (G.2.2 41)), (1, .ref (G.2.2 40)), (0, .ref b)] rfl ?_
  refine j_aload_n C0 dL_law_1512 5 rfl ?_
  refine jm_callV CV X (c_X6_thrown 2000 G σ2 41 ok41 _ _ rfl) dL_law_1513 (gVm9 v_303 v_304 v_305 v_219 v_306) rfl hy_X6_thrown rfl ok41 rfl (ci := 10) rfl rfl rfl ⟨Nat.le_of_ble_eq_true rfl, Nat.le_of_ble_eq_true rfl⟩ (Nat.le_of_ble_eq_true rfl) (Nat.le_of_ble_eq_true rfl) (Nat.le_of_ble_eq_true rfl) (show kc + 120 + 60 ≤ 892405 ∧ ns + 4200 + 2100 ≤ 6351306 by omega) ?_
  refine jt_eqI (b := t) e3 ?_
  show J x [(7, .int (r)), (6, .int (t)), (5, .int (nI p)), (4, .ref (G.2.2 50)), (3, .ref (G.2.2 49)), (2, .ref (G.2.2 41)), (1, .ref (G.2.2 40)), (0, .ref b)] [.int (t)] (wsF G σ2 ++ T) 1516 (kc + 180) (ns + 6300)
  refine j_iload C0 dL_law_1516 1 rfl ?_
  refine j_icmp_eq C0 dL_law_1518 1523 (by decide) (fun _ => ?_) (fun h => absurd rfl h)
  refine j_iload C0 dL_law_1523 1 rfl ?_
  refine j_if_ne C0 dL_law_1525 1540 (by decide) (fun h0 => ?_) (fun h0 => ?_)
  · refine j_goto C0 dL_law_1540 2115 (by decide) ?_
    refine j_sub [2, 3, 4, 5, 6, 7] (lo5 G b p) rfl ?_
    exact j_widen C0 (show kc + 180 ≤ kc + 1000 by omega) (show ns + 6300 ≤ ns + 10000 by omega) (hk σ2 T (hI.to (e5) e6))
  · refine j_aload_n C0 dL_law_1528 4 rfl ?_
    refine j_iconst C0 dL_law_1529 ((0 : Int32)) (by decide) ?_
    refine jl_lald C0 X dL_law_1530 ?_
    rw [e4 h0]
    refine j_iload C0 dL_law_1531 0 rfl ?_
    refine j_i2l C0 dL_law_1533 ?_
    refine j_lcmp C0 dL_law_1534 ?_
    refine jt_eqI (b := (0 : Int32)) (lg_cmp_self _) ?_
    refine j_if_eq C0 dL_law_1535 1540 (by decide) (fun _ => ?_) (fun h => absurd h (by decide))
    refine j_goto C0 dL_law_1540 2115 (by decide) ?_
    refine j_sub [2, 3, 4, 5, 6, 7] (lo5 G b p) rfl ?_
    exact j_widen C0 (show kc + 180 ≤ kc + 1000 by omega) (show ns + 6300 ≤ ns + 10000 by omega) (hk σ2 T (hI.to (e5) e6))
set_option maxRecDepth 20000 in
set_option maxHeartbeats 2000000 in
theorem cs_25 {tab : List ExceptionTableEntry} {K : Nat → Nat} {x : Xt Tx} {G : Gt} {cB : ClassId} {b L : Nat} {xs : Nat → Int32} (C0 : Cx x code 9 RL (some .boolean) tab wsL room_1 G.1 (tys9 G cB)) (CV : Cv K x code 9 RL (some .boolean) tab wsL room_1 G.1 (tys9 G cB)) (X : Wt x G.1) (S9 : CS9 x b L xs) {B kc ns p : Nat} {σ : Mem} {T : Tx} (hI : LI K cB B σ T) (hB : B ≤ 600) (hp : p + 5 ≤ L) (hL : L ≤ 2560) (hr : kc + 1000 ≤ 892405 ∧ ns + 10000 ≤ 6351306) (hk : ∀ σ1 T1, LI K cB (B + 1) σ1 T1 → J x (lo5 G b p) [] (wsF G σ1 ++ T1) 2115 (kc + 1000) (ns + 10000)) : J x (lo5 G b p) [] (wsF G σ ++ T) 1543 kc ns := by
  obtain ⟨t, σ1, r, σ2, e1, e2, e3, e4, e5, e6⟩ := join_G2 (fun _ _ h => op_hoistOre (n := 2000) (n' := 2000) (by omega) (xs (p + 1)) h) hI.1
  show J x [(5, .int (nI p)), (4, .ref (G.2.2 50)), (3, .ref (G.2.2 49)), (2, .ref (G.2.2 41)), (1, .ref (G.2.2 40)), (0, .ref b)] [] (wsF G σ ++ T) 1543 (kc + 0) (ns + 0)
  refine j_aload_n C0 dL_law_1543 4 rfl ?_
  refine j_aload_n C0 dL_law_1544 5 rfl ?_
  refine j_iload C0 dL_law_1545 0 rfl ?_
  refine j_iconst C0 dL_law_1547 ((1 : Int32)) (by decide) ?_
  refine j_iadd C0 dL_law_1548 ?_
  refine jt_eqI (b := nI (p + 1)) (add_nI p 1) ?_
  refine jl_sld S9 dL_law_1549 (p := p + 1) (by omega) (by omega) ?_
  refine j_aload_n C0 dL_law_1550 2 rfl ?_
  refine jm_callSX CV X (c_L_hoistOre 2000 G σ 40 (xs (p + 1)) 49 ok40 ok49 _ _ e1) dL_law_1551 (gSm9 v_480 v_481 v_297 v_482) rfl hy_L_hoistOre rfl rfl ⟨Nat.le_of_ble_eq_true rfl, Nat.le_of_ble_eq_true rfl⟩ (Nat.le_of_ble_eq_true rfl) (Nat.le_of_ble_eq_true rfl) (Nat.le_of_ble_eq_true rfl) (show kc + 0 + 60 ≤ 892405 ∧ ns + 0 + 2100 ≤ 6351306 by omega) ?_
  show J x [(5, .int (nI p)), (4, .ref (G.2.2 50)), (3, .ref (G.2.2 49)), (2, .ref (G.2.2 41)), (1, .ref (G.2.2 40)), (0, .ref b)] [.int (t)] (wsF G σ1 ++ T) 1554 (kc + 60) (ns + 2100)
  refine j_istore C0 dL_law_1554 (by decide) [(6, .int (t)), (5, .int (nI p)), (4, .ref (G.2.2 50)), (3, .ref (G.2.2 49)), (2, .ref (G.2.2 41)), (1, .ref (G.2.2 40)), (0, .ref b)] rfl ?_
  refine j_aload_n C0 dL_law_1556 4 rfl ?_
  refine j_aload_n C0 dL_law_1557 6 rfl ?_
  refine j_iload C0 dL_law_1558 1 rfl ?_
  refine j_iconst C0 dL_law_1560 ((1 : Int32)) (by decide) ?_
  refine j_iadd C0 dL_law_1561 ?_
  refine jt_eqI (b := nI (p + 1)) (add_nI p 1) ?_
  refine jl_sld S9 dL_law_1562 (p := p + 1) (by omega) (by omega) ?_
  refine jm_callV CV X (c_X6_hoistOre 2000 G σ1 41 (xs (p + 1)) ok41 _ _ e2) dL_law_1563 (gVm9 v_483 v_484 v_485 v_219 v_486) rfl hy_X6_hoistOre rfl ok41 rfl (ci := 10) rfl rfl rfl ⟨Nat.le_of_ble_eq_true rfl, Nat.le_of_ble_eq_true rfl⟩ (Nat.le_of_ble_eq_true rfl) (Nat.le_of_ble_eq_true rfl) (Nat.le_of_ble_eq_true rfl) (show kc + 60 + 60 ≤ 892405 ∧ ns + 2100 + 2100 ≤ 6351306 by omega) ?_
  show J x [(6, .int (t)), (5, .int (nI p)), (4, .ref (G.2.2 50)), (3, .ref (G.2.2 49)), (2, .ref (G.2.2 41)), (1, .ref (G.2.2 40)), (0, .ref b)] [.int (r)] (wsF G σ2 ++ T) 1566 (kc + 120) (ns + 4200)
  refine j_istore C0 dL_law_1566 (by decide) [(7, .int (r)), (6, .int (t)), (5, .int (nI p)), (4, .ref (G.2.2 50)), (3, .ref (G.2.2 49)), (2, .ref (G.2.2 41)), (1, .ref (G.2.2 40)), (0, .ref b)] rfl ?_
  refine j_aload_n C0 dL_law_1568 5 rfl ?_
  refine jm_callV CV X (c_X6_thrown 2000 G σ2 41 ok41 _ _ rfl) dL_law_1569 (gVm9 v_303 v_304 v_305 v_219 v_306) rfl hy_X6_thrown rfl ok41 rfl (ci := 10) rfl rfl rfl ⟨Nat.le_of_ble_eq_true rfl, Nat.le_of_ble_eq_true rfl⟩ (Nat.le_of_ble_eq_true rfl) (Nat.le_of_ble_eq_true rfl) (Nat.le_of_ble_eq_true rfl) (show kc + 120 + 60 ≤ 892405 ∧ ns + 4200 + 2100 ≤ 6351306 by omega) ?_
  refine jt_eqI (b := t) e3 ?_
  show J x [(7, .int (r)), (6, .int (t)), (5, .int (nI p)), (4, .ref (G.2.2 50)), (3, .ref (G.2.2 49)), (2, .ref (G.2.2 41)), (1, .ref (G.2.2 40)), (0, .ref b)] [.int (t)] (wsF G σ2 ++ T) 1572 (kc + 180) (ns + 6300)
  refine j_iload C0 dL_law_1572 1 rfl ?_
  refine j_icmp_eq C0 dL_law_1574 1579 (by decide) (fun _ => ?_) (fun h => absurd rfl h)
  refine j_iload C0 dL_law_1579 1 rfl ?_
  refine j_if_ne C0 dL_law_1581 1596 (by decide) (fun h0 => ?_) (fun h0 => ?_)
  · refine j_goto C0 dL_law_1596 2115 (by decide) ?_
    refine j_sub [2, 3, 4, 5, 6, 7] (lo5 G b p) rfl ?_
    exact j_widen C0 (show kc + 180 ≤ kc + 1000 by omega) (show ns + 6300 ≤ ns + 10000 by omega) (hk σ2 T (hI.to (e5) e6))
  · refine j_aload_n C0 dL_law_1584 4 rfl ?_
    refine j_iconst C0 dL_law_1585 ((0 : Int32)) (by decide) ?_
    refine jl_lald C0 X dL_law_1586 ?_
    rw [e4 h0]
    refine j_iload C0 dL_law_1587 0 rfl ?_
    refine j_i2l C0 dL_law_1589 ?_
    refine j_lcmp C0 dL_law_1590 ?_
    refine jt_eqI (b := (0 : Int32)) (lg_cmp_self _) ?_
    refine j_if_eq C0 dL_law_1591 1596 (by decide) (fun _ => ?_) (fun h => absurd h (by decide))
    refine j_goto C0 dL_law_1596 2115 (by decide) ?_
    refine j_sub [2, 3, 4, 5, 6, 7] (lo5 G b p) rfl ?_
    exact j_widen C0 (show kc + 180 ≤ kc + 1000 by omega) (show ns + 6300 ≤ ns + 10000 by omega) (hk σ2 T (hI.to (e5) e6))
set_option maxRecDepth 20000 in
set_option maxHeartbeats 2000000 in
theorem cs_26 {tab : List ExceptionTableEntry} {K : Nat → Nat} {x : Xt Tx} {G : Gt} {cB : ClassId} {b L : Nat} {xs : Nat → Int32} (C0 : Cx x code 9 RL (some .boolean) tab wsL room_1 G.1 (tys9 G cB)) (CV : Cv K x code 9 RL (some .boolean) tab wsL room_1 G.1 (tys9 G cB)) (X : Wt x G.1) (S9 : CS9 x b L xs) {B kc ns p : Nat} {σ : Mem} {T : Tx} (hI : LI K cB B σ T) (hB : B ≤ 600) (hp : p + 5 ≤ L) (hL : L ≤ 2560) (hr : kc + 1000 ≤ 892405 ∧ ns + 10000 ≤ 6351306) (hk : ∀ σ1 T1, LI K cB (B + 1) σ1 T1 → J x (lo5 G b p) [] (wsF G σ1 ++ T1) 2115 (kc + 1000) (ns + 10000)) : J x (lo5 G b p) [] (wsF G σ ++ T) 1599 kc ns := by
  obtain ⟨t, σ1, r, σ2, e1, e2, e3, e4, e5, e6⟩ := join_G2 (fun _ _ h => op_cancel (n := 2000) (n' := 2000) (by decide) (by decide) (xs (p + 1)) h) hI.1
  show J x [(5, .int (nI p)), (4, .ref (G.2.2 50)), (3, .ref (G.2.2 49)), (2, .ref (G.2.2 41)), (1, .ref (G.2.2 40)), (0, .ref b)] [] (wsF G σ ++ T) 1599 (kc + 0) (ns + 0)
  refine j_aload_n C0 dL_law_1599 4 rfl ?_
  refine j_aload_n C0 dL_law_1600 5 rfl ?_
  refine j_iload C0 dL_law_1601 0 rfl ?_
  refine j_iconst C0 dL_law_1603 ((1 : Int32)) (by decide) ?_
  refine j_iadd C0 dL_law_1604 ?_
  refine jt_eqI (b := nI (p + 1)) (add_nI p 1) ?_
  refine jl_sld S9 dL_law_1605 (p := p + 1) (by omega) (by omega) ?_
  refine j_aload_n C0 dL_law_1606 2 rfl ?_
  refine jm_callSX CV X (c_L_cancel 2000 G σ 40 (xs (p + 1)) 49 ok40 ok49 _ _ e1) dL_law_1607 (gSm9 v_487 v_488 v_297 v_489) rfl hy_L_cancel rfl rfl ⟨Nat.le_of_ble_eq_true rfl, Nat.le_of_ble_eq_true rfl⟩ (Nat.le_of_ble_eq_true rfl) (Nat.le_of_ble_eq_true rfl) (Nat.le_of_ble_eq_true rfl) (show kc + 0 + 60 ≤ 892405 ∧ ns + 0 + 2100 ≤ 6351306 by omega) ?_
  show J x [(5, .int (nI p)), (4, .ref (G.2.2 50)), (3, .ref (G.2.2 49)), (2, .ref (G.2.2 41)), (1, .ref (G.2.2 40)), (0, .ref b)] [.int (t)] (wsF G σ1 ++ T) 1610 (kc + 60) (ns + 2100)
  refine j_istore C0 dL_law_1610 (by decide) [(6, .int (t)), (5, .int (nI p)), (4, .ref (G.2.2 50)), (3, .ref (G.2.2 49)), (2, .ref (G.2.2 41)), (1, .ref (G.2.2 40)), (0, .ref b)] rfl ?_
  refine j_aload_n C0 dL_law_1612 4 rfl ?_
  refine j_aload_n C0 dL_law_1613 6 rfl ?_
  refine j_iload C0 dL_law_1614 1 rfl ?_
  refine j_iconst C0 dL_law_1616 ((1 : Int32)) (by decide) ?_
  refine j_iadd C0 dL_law_1617 ?_
  refine jt_eqI (b := nI (p + 1)) (add_nI p 1) ?_
  refine jl_sld S9 dL_law_1618 (p := p + 1) (by omega) (by omega) ?_
  refine jm_callV CV X (c_X6_cancel 2000 G σ1 41 (xs (p + 1)) ok41 _ _ e2) dL_law_1619 (gVm9 v_490 v_491 v_492 v_219 v_493) rfl hy_X6_cancel rfl ok41 rfl (ci := 10) rfl rfl rfl ⟨Nat.le_of_ble_eq_true rfl, Nat.le_of_ble_eq_true rfl⟩ (Nat.le_of_ble_eq_true rfl) (Nat.le_of_ble_eq_true rfl) (Nat.le_of_ble_eq_true rfl) (show kc + 60 + 60 ≤ 892405 ∧ ns + 2100 + 2100 ≤ 6351306 by omega) ?_
  show J x [(6, .int (t)), (5, .int (nI p)), (4, .ref (G.2.2 50)), (3, .ref (G.2.2 49)), (2, .ref (G.2.2 41)), (1, .ref (G.2.2 40)), (0, .ref b)] [.int (r)] (wsF G σ2 ++ T) 1622 (kc + 120) (ns + 4200)
  refine j_istore C0 dL_law_1622 (by decide) [(7, .int (r)), (6, .int (t)), (5, .int (nI p)), (4, .ref (G.2.2 50)), (3, .ref (G.2.2 49)), (2, .ref (G.2.2 41)), (1, .ref (G.2.2 40)), (0, .ref b)] rfl ?_
  refine j_aload_n C0 dL_law_1624 5 rfl ?_
  refine jm_callV CV X (c_X6_thrown 2000 G σ2 41 ok41 _ _ rfl) dL_law_1625 (gVm9 v_303 v_304 v_305 v_219 v_306) rfl hy_X6_thrown rfl ok41 rfl (ci := 10) rfl rfl rfl ⟨Nat.le_of_ble_eq_true rfl, Nat.le_of_ble_eq_true rfl⟩ (Nat.le_of_ble_eq_true rfl) (Nat.le_of_ble_eq_true rfl) (Nat.le_of_ble_eq_true rfl) (show kc + 120 + 60 ≤ 892405 ∧ ns + 4200 + 2100 ≤ 6351306 by omega) ?_
  refine jt_eqI (b := t) e3 ?_
  show J x [(7, .int (r)), (6, .int (t)), (5, .int (nI p)), (4, .ref (G.2.2 50)), (3, .ref (G.2.2 49)), (2, .ref (G.2.2 41)), (1, .ref (G.2.2 40)), (0, .ref b)] [.int (t)] (wsF G σ2 ++ T) 1628 (kc + 180) (ns + 6300)
  refine j_iload C0 dL_law_1628 1 rfl ?_
  refine j_icmp_eq C0 dL_law_1630 1635 (by decide) (fun _ => ?_) (fun h => absurd rfl h)
  refine j_iload C0 dL_law_1635 1 rfl ?_
  refine j_if_ne C0 dL_law_1637 1652 (by decide) (fun h0 => ?_) (fun h0 => ?_)
  · refine j_goto C0 dL_law_1652 2115 (by decide) ?_
    refine j_sub [2, 3, 4, 5, 6, 7] (lo5 G b p) rfl ?_
    exact j_widen C0 (show kc + 180 ≤ kc + 1000 by omega) (show ns + 6300 ≤ ns + 10000 by omega) (hk σ2 T (hI.to (e5.mono (Nat.le_succ B)) e6))
  · refine j_aload_n C0 dL_law_1640 4 rfl ?_
    refine j_iconst C0 dL_law_1641 ((0 : Int32)) (by decide) ?_
    refine jl_lald C0 X dL_law_1642 ?_
    rw [e4 h0]
    refine j_iload C0 dL_law_1643 0 rfl ?_
    refine j_i2l C0 dL_law_1645 ?_
    refine j_lcmp C0 dL_law_1646 ?_
    refine jt_eqI (b := (0 : Int32)) (lg_cmp_self _) ?_
    refine j_if_eq C0 dL_law_1647 1652 (by decide) (fun _ => ?_) (fun h => absurd h (by decide))
    refine j_goto C0 dL_law_1652 2115 (by decide) ?_
    refine j_sub [2, 3, 4, 5, 6, 7] (lo5 G b p) rfl ?_
    exact j_widen C0 (show kc + 180 ≤ kc + 1000 by omega) (show ns + 6300 ≤ ns + 10000 by omega) (hk σ2 T (hI.to (e5.mono (Nat.le_succ B)) e6))
set_option maxRecDepth 20000 in
set_option maxHeartbeats 2000000 in
theorem cs_27 {tab : List ExceptionTableEntry} {K : Nat → Nat} {x : Xt Tx} {G : Gt} {cB : ClassId} {b L : Nat} {xs : Nat → Int32} (C0 : Cx x code 9 RL (some .boolean) tab wsL room_1 G.1 (tys9 G cB)) (CV : Cv K x code 9 RL (some .boolean) tab wsL room_1 G.1 (tys9 G cB)) (X : Wt x G.1) (S9 : CS9 x b L xs) {B kc ns p : Nat} {σ : Mem} {T : Tx} (hI : LI K cB B σ T) (hB : B ≤ 600) (hp : p + 5 ≤ L) (hL : L ≤ 2560) (hr : kc + 1000 ≤ 892405 ∧ ns + 10000 ≤ 6351306) (hk : ∀ σ1 T1, LI K cB (B + 1) σ1 T1 → J x (lo5 G b p) [] (wsF G σ1 ++ T1) 2115 (kc + 1000) (ns + 10000)) : J x (lo5 G b p) [] (wsF G σ ++ T) 1655 kc ns := by
  obtain ⟨r, σ1, σ2, e1, e2, e3, e5, e6⟩ := join_N2 (fun _ _ h => op_waitingCount (n := 2000) (n' := 2000) h) hI.1
  show J x [(5, .int (nI p)), (4, .ref (G.2.2 50)), (3, .ref (G.2.2 49)), (2, .ref (G.2.2 41)), (1, .ref (G.2.2 40)), (0, .ref b)] [] (wsF G σ ++ T) 1655 (kc + 0) (ns + 0)
  refine j_aload_n C0 dL_law_1655 4 rfl ?_
  refine jm_callV CV X (c_X5_waitingCount 2000 G σ 40 ok40 _ _ e1) dL_law_1656 (gVm9 v_494 v_495 v_496 v_234 v_497) rfl hy_X5_waitingCount rfl ok40 rfl (ci := 9) rfl rfl rfl ⟨Nat.le_of_ble_eq_true rfl, Nat.le_of_ble_eq_true rfl⟩ (Nat.le_of_ble_eq_true rfl) (Nat.le_of_ble_eq_true rfl) (Nat.le_of_ble_eq_true rfl) (show kc + 0 + 60 ≤ 892405 ∧ ns + 0 + 2100 ≤ 6351306 by omega) ?_
  show J x [(5, .int (nI p)), (4, .ref (G.2.2 50)), (3, .ref (G.2.2 49)), (2, .ref (G.2.2 41)), (1, .ref (G.2.2 40)), (0, .ref b)] [.int (r)] (wsF G σ1 ++ T) 1659 (kc + 60) (ns + 2100)
  refine j_aload_n C0 dL_law_1659 3 rfl ?_
  refine jm_callV CV X (c_X6_waitingCount 2000 G σ1 41 ok41 _ _ e2) dL_law_1660 (gVm9 v_498 v_499 v_500 v_219 v_501) rfl hy_X6_waitingCount rfl ok41 rfl (ci := 10) rfl rfl rfl ⟨Nat.le_of_ble_eq_true rfl, Nat.le_of_ble_eq_true rfl⟩ (Nat.le_of_ble_eq_true rfl) (Nat.le_of_ble_eq_true rfl) (Nat.le_of_ble_eq_true rfl) (show kc + 60 + 60 ≤ 892405 ∧ ns + 2100 + 2100 ≤ 6351306 by omega) ?_
  show J x [(5, .int (nI p)), (4, .ref (G.2.2 50)), (3, .ref (G.2.2 49)), (2, .ref (G.2.2 41)), (1, .ref (G.2.2 40)), (0, .ref b)] [.int (r), .int (r)] (wsF G σ2 ++ T) 1663 (kc + 120) (ns + 4200)
  refine j_icmp_eq C0 dL_law_1663 2115 (by decide) (fun _ => ?_) (fun h => absurd rfl h)
  refine j_sub [0, 1, 2, 3, 4, 5] (lo5 G b p) rfl ?_
  exact j_widen C0 (show kc + 120 ≤ kc + 1000 by omega) (show ns + 4200 ≤ ns + 10000 by omega) (hk σ2 T (hI.to (e5.mono (Nat.le_succ B)) e6))
set_option maxRecDepth 20000 in
set_option maxHeartbeats 2000000 in
theorem cs_28 {tab : List ExceptionTableEntry} {K : Nat → Nat} {x : Xt Tx} {G : Gt} {cB : ClassId} {b L : Nat} {xs : Nat → Int32} (C0 : Cx x code 9 RL (some .boolean) tab wsL room_1 G.1 (tys9 G cB)) (CV : Cv K x code 9 RL (some .boolean) tab wsL room_1 G.1 (tys9 G cB)) (X : Wt x G.1) (S9 : CS9 x b L xs) {B kc ns p : Nat} {σ : Mem} {T : Tx} (hI : LI K cB B σ T) (hB : B ≤ 600) (hp : p + 5 ≤ L) (hL : L ≤ 2560) (hr : kc + 1000 ≤ 892405 ∧ ns + 10000 ≤ 6351306) (hk : ∀ σ1 T1, LI K cB (B + 1) σ1 T1 → J x (lo5 G b p) [] (wsF G σ1 ++ T1) 2115 (kc + 1000) (ns + 10000)) : J x (lo5 G b p) [] (wsF G σ ++ T) 1668 kc ns := by
  obtain ⟨t, σ1, r, σ2, e1, e2, e3, e4, e5, e6⟩ := join_G2 (fun _ _ h => op_waitingAt (n := 2000) (n' := 2000) (xs (p + 1)) h) hI.1
  show J x [(5, .int (nI p)), (4, .ref (G.2.2 50)), (3, .ref (G.2.2 49)), (2, .ref (G.2.2 41)), (1, .ref (G.2.2 40)), (0, .ref b)] [] (wsF G σ ++ T) 1668 (kc + 0) (ns + 0)
  refine j_aload_n C0 dL_law_1668 4 rfl ?_
  refine j_aload_n C0 dL_law_1669 5 rfl ?_
  refine j_iload C0 dL_law_1670 0 rfl ?_
  refine j_iconst C0 dL_law_1672 ((1 : Int32)) (by decide) ?_
  refine j_iadd C0 dL_law_1673 ?_
  refine jt_eqI (b := nI (p + 1)) (add_nI p 1) ?_
  refine jl_sld S9 dL_law_1674 (p := p + 1) (by omega) (by omega) ?_
  refine j_aload_n C0 dL_law_1675 2 rfl ?_
  refine jm_callSX CV X (c_L_waitingAt 2000 G σ 40 (xs (p + 1)) 49 ok40 ok49 _ _ e1) dL_law_1676 (gSm9 v_502 v_503 v_297 v_504) rfl hy_L_waitingAt rfl rfl ⟨Nat.le_of_ble_eq_true rfl, Nat.le_of_ble_eq_true rfl⟩ (Nat.le_of_ble_eq_true rfl) (Nat.le_of_ble_eq_true rfl) (Nat.le_of_ble_eq_true rfl) (show kc + 0 + 60 ≤ 892405 ∧ ns + 0 + 2100 ≤ 6351306 by omega) ?_
  show J x [(5, .int (nI p)), (4, .ref (G.2.2 50)), (3, .ref (G.2.2 49)), (2, .ref (G.2.2 41)), (1, .ref (G.2.2 40)), (0, .ref b)] [.int (t)] (wsF G σ1 ++ T) 1679 (kc + 60) (ns + 2100)
  refine j_istore C0 dL_law_1679 (by decide) [(6, .int (t)), (5, .int (nI p)), (4, .ref (G.2.2 50)), (3, .ref (G.2.2 49)), (2, .ref (G.2.2 41)), (1, .ref (G.2.2 40)), (0, .ref b)] rfl ?_
  refine j_aload_n C0 dL_law_1681 4 rfl ?_
  refine j_aload_n C0 dL_law_1682 6 rfl ?_
  refine j_iload C0 dL_law_1683 1 rfl ?_
  refine j_iconst C0 dL_law_1685 ((1 : Int32)) (by decide) ?_
  refine j_iadd C0 dL_law_1686 ?_
  refine jt_eqI (b := nI (p + 1)) (add_nI p 1) ?_
  refine jl_sld S9 dL_law_1687 (p := p + 1) (by omega) (by omega) ?_
  refine jm_callV CV X (c_X6_waitingAt 2000 G σ1 41 (xs (p + 1)) ok41 _ _ e2) dL_law_1688 (gVm9 v_505 v_506 v_507 v_219 v_508) rfl hy_X6_waitingAt rfl ok41 rfl (ci := 10) rfl rfl rfl ⟨Nat.le_of_ble_eq_true rfl, Nat.le_of_ble_eq_true rfl⟩ (Nat.le_of_ble_eq_true rfl) (Nat.le_of_ble_eq_true rfl) (Nat.le_of_ble_eq_true rfl) (show kc + 60 + 60 ≤ 892405 ∧ ns + 2100 + 2100 ≤ 6351306 by omega) ?_
  show J x [(6, .int (t)), (5, .int (nI p)), (4, .ref (G.2.2 50)), (3, .ref (G.2.2 49)), (2, .ref (G.2.2 41)), (1, .ref (G.2.2 40)), (0, .ref b)] [.int (r)] (wsF G σ2 ++ T) 1691 (kc + 120) (ns + 4200)
  refine j_istore C0 dL_law_1691 (by decide) [(7, .int (r)), (6, .int (t)), (5, .int (nI p)), (4, .ref (G.2.2 50)), (3, .ref (G.2.2 49)), (2, .ref (G.2.2 41)), (1, .ref (G.2.2 40)), (0, .ref b)] rfl ?_
  refine j_aload_n C0 dL_law_1693 5 rfl ?_
  refine jm_callV CV X (c_X6_thrown 2000 G σ2 41 ok41 _ _ rfl) dL_law_1694 (gVm9 v_303 v_304 v_305 v_219 v_306) rfl hy_X6_thrown rfl ok41 rfl (ci := 10) rfl rfl rfl ⟨Nat.le_of_ble_eq_true rfl, Nat.le_of_ble_eq_true rfl⟩ (Nat.le_of_ble_eq_true rfl) (Nat.le_of_ble_eq_true rfl) (Nat.le_of_ble_eq_true rfl) (show kc + 120 + 60 ≤ 892405 ∧ ns + 4200 + 2100 ≤ 6351306 by omega) ?_
  refine jt_eqI (b := t) e3 ?_
  show J x [(7, .int (r)), (6, .int (t)), (5, .int (nI p)), (4, .ref (G.2.2 50)), (3, .ref (G.2.2 49)), (2, .ref (G.2.2 41)), (1, .ref (G.2.2 40)), (0, .ref b)] [.int (t)] (wsF G σ2 ++ T) 1697 (kc + 180) (ns + 6300)
  refine j_iload C0 dL_law_1697 1 rfl ?_
  refine j_icmp_eq C0 dL_law_1699 1704 (by decide) (fun _ => ?_) (fun h => absurd rfl h)
  refine j_iload C0 dL_law_1704 1 rfl ?_
  refine j_if_ne C0 dL_law_1706 1721 (by decide) (fun h0 => ?_) (fun h0 => ?_)
  · refine j_goto C0 dL_law_1721 2115 (by decide) ?_
    refine j_sub [2, 3, 4, 5, 6, 7] (lo5 G b p) rfl ?_
    exact j_widen C0 (show kc + 180 ≤ kc + 1000 by omega) (show ns + 6300 ≤ ns + 10000 by omega) (hk σ2 T (hI.to (e5.mono (Nat.le_succ B)) e6))
  · refine j_aload_n C0 dL_law_1709 4 rfl ?_
    refine j_iconst C0 dL_law_1710 ((0 : Int32)) (by decide) ?_
    refine jl_lald C0 X dL_law_1711 ?_
    rw [e4 h0]
    refine j_iload C0 dL_law_1712 0 rfl ?_
    refine j_i2l C0 dL_law_1714 ?_
    refine j_lcmp C0 dL_law_1715 ?_
    refine jt_eqI (b := (0 : Int32)) (lg_cmp_self _) ?_
    refine j_if_eq C0 dL_law_1716 1721 (by decide) (fun _ => ?_) (fun h => absurd h (by decide))
    refine j_goto C0 dL_law_1721 2115 (by decide) ?_
    refine j_sub [2, 3, 4, 5, 6, 7] (lo5 G b p) rfl ?_
    exact j_widen C0 (show kc + 180 ≤ kc + 1000 by omega) (show ns + 6300 ≤ ns + 10000 by omega) (hk σ2 T (hI.to (e5.mono (Nat.le_succ B)) e6))
set_option maxRecDepth 20000 in
set_option maxHeartbeats 2000000 in
theorem cs_29 {tab : List ExceptionTableEntry} {K : Nat → Nat} {x : Xt Tx} {G : Gt} {cB : ClassId} {b L : Nat} {xs : Nat → Int32} (C0 : Cx x code 9 RL (some .boolean) tab wsL room_1 G.1 (tys9 G cB)) (CV : Cv K x code 9 RL (some .boolean) tab wsL room_1 G.1 (tys9 G cB)) (X : Wt x G.1) (S9 : CS9 x b L xs) {B kc ns p : Nat} {σ : Mem} {T : Tx} (hI : LI K cB B σ T) (hB : B ≤ 600) (hp : p + 5 ≤ L) (hL : L ≤ 2560) (hr : kc + 1000 ≤ 892405 ∧ ns + 10000 ≤ 6351306) (hk : ∀ σ1 T1, LI K cB (B + 1) σ1 T1 → J x (lo5 G b p) [] (wsF G σ1 ++ T1) 2115 (kc + 1000) (ns + 10000)) : J x (lo5 G b p) [] (wsF G σ ++ T) 1724 kc ns := by
  obtain ⟨t, σ1, r, σ2, e1, e2, e3, e4, e5, e6⟩ := join_G2 (fun _ _ h => op_pass (n := 2000) (n' := 2000) (by decide) (by decide) (xs (p + 1)) h) hI.1
  show J x [(5, .int (nI p)), (4, .ref (G.2.2 50)), (3, .ref (G.2.2 49)), (2, .ref (G.2.2 41)), (1, .ref (G.2.2 40)), (0, .ref b)] [] (wsF G σ ++ T) 1724 (kc + 0) (ns + 0)
  refine j_aload_n C0 dL_law_1724 4 rfl ?_
  refine j_aload_n C0 dL_law_1725 5 rfl ?_
  refine j_iload C0 dL_law_1726 0 rfl ?_
  refine j_iconst C0 dL_law_1728 ((1 : Int32)) (by decide) ?_
  refine j_iadd C0 dL_law_1729 ?_
  refine jt_eqI (b := nI (p + 1)) (add_nI p 1) ?_
  refine jl_sld S9 dL_law_1730 (p := p + 1) (by omega) (by omega) ?_
  refine j_aload_n C0 dL_law_1731 2 rfl ?_
  refine jm_callSX CV X (c_L_pass 2000 G σ 40 (xs (p + 1)) 49 ok40 ok49 _ _ e1) dL_law_1732 (gSm9 v_509 v_510 v_297 v_511) rfl hy_L_pass rfl rfl ⟨Nat.le_of_ble_eq_true rfl, Nat.le_of_ble_eq_true rfl⟩ (Nat.le_of_ble_eq_true rfl) (Nat.le_of_ble_eq_true rfl) (Nat.le_of_ble_eq_true rfl) (show kc + 0 + 60 ≤ 892405 ∧ ns + 0 + 2100 ≤ 6351306 by omega) ?_
  show J x [(5, .int (nI p)), (4, .ref (G.2.2 50)), (3, .ref (G.2.2 49)), (2, .ref (G.2.2 41)), (1, .ref (G.2.2 40)), (0, .ref b)] [.int (t)] (wsF G σ1 ++ T) 1735 (kc + 60) (ns + 2100)
  refine j_istore C0 dL_law_1735 (by decide) [(6, .int (t)), (5, .int (nI p)), (4, .ref (G.2.2 50)), (3, .ref (G.2.2 49)), (2, .ref (G.2.2 41)), (1, .ref (G.2.2 40)), (0, .ref b)] rfl ?_
  refine j_aload_n C0 dL_law_1737 4 rfl ?_
  refine j_aload_n C0 dL_law_1738 6 rfl ?_
  refine j_iload C0 dL_law_1739 1 rfl ?_
  refine j_iconst C0 dL_law_1741 ((1 : Int32)) (by decide) ?_
  refine j_iadd C0 dL_law_1742 ?_
  refine jt_eqI (b := nI (p + 1)) (add_nI p 1) ?_
  refine jl_sld S9 dL_law_1743 (p := p + 1) (by omega) (by omega) ?_
  refine jm_callV CV X (c_X6_pass 2000 G σ1 41 (xs (p + 1)) ok41 _ _ e2) dL_law_1744 (gVm9 v_512 v_513 v_514 v_219 v_515) rfl hy_X6_pass rfl ok41 rfl (ci := 10) rfl rfl rfl ⟨Nat.le_of_ble_eq_true rfl, Nat.le_of_ble_eq_true rfl⟩ (Nat.le_of_ble_eq_true rfl) (Nat.le_of_ble_eq_true rfl) (Nat.le_of_ble_eq_true rfl) (show kc + 60 + 60 ≤ 892405 ∧ ns + 2100 + 2100 ≤ 6351306 by omega) ?_
  show J x [(6, .int (t)), (5, .int (nI p)), (4, .ref (G.2.2 50)), (3, .ref (G.2.2 49)), (2, .ref (G.2.2 41)), (1, .ref (G.2.2 40)), (0, .ref b)] [.int (r)] (wsF G σ2 ++ T) 1747 (kc + 120) (ns + 4200)
  refine j_istore C0 dL_law_1747 (by decide) [(7, .int (r)), (6, .int (t)), (5, .int (nI p)), (4, .ref (G.2.2 50)), (3, .ref (G.2.2 49)), (2, .ref (G.2.2 41)), (1, .ref (G.2.2 40)), (0, .ref b)] rfl ?_
  refine j_aload_n C0 dL_law_1749 5 rfl ?_
  refine jm_callV CV X (c_X6_thrown 2000 G σ2 41 ok41 _ _ rfl) dL_law_1750 (gVm9 v_303 v_304 v_305 v_219 v_306) rfl hy_X6_thrown rfl ok41 rfl (ci := 10) rfl rfl rfl ⟨Nat.le_of_ble_eq_true rfl, Nat.le_of_ble_eq_true rfl⟩ (Nat.le_of_ble_eq_true rfl) (Nat.le_of_ble_eq_true rfl) (Nat.le_of_ble_eq_true rfl) (show kc + 120 + 60 ≤ 892405 ∧ ns + 4200 + 2100 ≤ 6351306 by omega) ?_
  refine jt_eqI (b := t) e3 ?_
  show J x [(7, .int (r)), (6, .int (t)), (5, .int (nI p)), (4, .ref (G.2.2 50)), (3, .ref (G.2.2 49)), (2, .ref (G.2.2 41)), (1, .ref (G.2.2 40)), (0, .ref b)] [.int (t)] (wsF G σ2 ++ T) 1753 (kc + 180) (ns + 6300)
  refine j_iload C0 dL_law_1753 1 rfl ?_
  refine j_icmp_eq C0 dL_law_1755 1760 (by decide) (fun _ => ?_) (fun h => absurd rfl h)
  refine j_iload C0 dL_law_1760 1 rfl ?_
  refine j_if_ne C0 dL_law_1762 1777 (by decide) (fun h0 => ?_) (fun h0 => ?_)
  · refine j_goto C0 dL_law_1777 2115 (by decide) ?_
    refine j_sub [2, 3, 4, 5, 6, 7] (lo5 G b p) rfl ?_
    exact j_widen C0 (show kc + 180 ≤ kc + 1000 by omega) (show ns + 6300 ≤ ns + 10000 by omega) (hk σ2 T (hI.to (e5.mono (Nat.le_succ B)) e6))
  · refine j_aload_n C0 dL_law_1765 4 rfl ?_
    refine j_iconst C0 dL_law_1766 ((0 : Int32)) (by decide) ?_
    refine jl_lald C0 X dL_law_1767 ?_
    rw [e4 h0]
    refine j_iload C0 dL_law_1768 0 rfl ?_
    refine j_i2l C0 dL_law_1770 ?_
    refine j_lcmp C0 dL_law_1771 ?_
    refine jt_eqI (b := (0 : Int32)) (lg_cmp_self _) ?_
    refine j_if_eq C0 dL_law_1772 1777 (by decide) (fun _ => ?_) (fun h => absurd h (by decide))
    refine j_goto C0 dL_law_1777 2115 (by decide) ?_
    refine j_sub [2, 3, 4, 5, 6, 7] (lo5 G b p) rfl ?_
    exact j_widen C0 (show kc + 180 ≤ kc + 1000 by omega) (show ns + 6300 ≤ ns + 10000 by omega) (hk σ2 T (hI.to (e5.mono (Nat.le_succ B)) e6))
set_option maxRecDepth 20000 in
set_option maxHeartbeats 2000000 in
theorem cs_30 {tab : List ExceptionTableEntry} {K : Nat → Nat} {x : Xt Tx} {G : Gt} {cB : ClassId} {b L : Nat} {xs : Nat → Int32} (C0 : Cx x code 9 RL (some .boolean) tab wsL room_1 G.1 (tys9 G cB)) (CV : Cv K x code 9 RL (some .boolean) tab wsL room_1 G.1 (tys9 G cB)) (X : Wt x G.1) (S9 : CS9 x b L xs) {B kc ns p : Nat} {σ : Mem} {T : Tx} (hI : LI K cB B σ T) (hB : B ≤ 600) (hp : p + 5 ≤ L) (hL : L ≤ 2560) (hr : kc + 1000 ≤ 892405 ∧ ns + 10000 ≤ 6351306) (hk : ∀ σ1 T1, LI K cB (B + 1) σ1 T1 → J x (lo5 G b p) [] (wsF G σ1 ++ T1) 2115 (kc + 1000) (ns + 10000)) : J x (lo5 G b p) [] (wsF G σ ++ T) 1780 kc ns := by
  obtain ⟨r, σ1, σ2, e1, e2, e3, e5, e6⟩ := join_N2 (fun _ _ h => op_clock (n := 2000) (n' := 2000) h) hI.1
  show J x [(5, .int (nI p)), (4, .ref (G.2.2 50)), (3, .ref (G.2.2 49)), (2, .ref (G.2.2 41)), (1, .ref (G.2.2 40)), (0, .ref b)] [] (wsF G σ ++ T) 1780 (kc + 0) (ns + 0)
  refine j_aload_n C0 dL_law_1780 4 rfl ?_
  refine jm_callV CV X (c_X5_clock 2000 G σ 40 ok40 _ _ e1) dL_law_1781 (gVm9 v_516 v_517 v_518 v_234 v_519) rfl hy_X5_clock rfl ok40 rfl (ci := 9) rfl rfl rfl ⟨Nat.le_of_ble_eq_true rfl, Nat.le_of_ble_eq_true rfl⟩ (Nat.le_of_ble_eq_true rfl) (Nat.le_of_ble_eq_true rfl) (Nat.le_of_ble_eq_true rfl) (show kc + 0 + 60 ≤ 892405 ∧ ns + 0 + 2100 ≤ 6351306 by omega) ?_
  show J x [(5, .int (nI p)), (4, .ref (G.2.2 50)), (3, .ref (G.2.2 49)), (2, .ref (G.2.2 41)), (1, .ref (G.2.2 40)), (0, .ref b)] [.int (r)] (wsF G σ1 ++ T) 1784 (kc + 60) (ns + 2100)
  refine j_aload_n C0 dL_law_1784 3 rfl ?_
  refine jm_callV CV X (c_X6_clock 2000 G σ1 41 ok41 _ _ e2) dL_law_1785 (gVm9 v_520 v_521 v_522 v_219 v_523) rfl hy_X6_clock rfl ok41 rfl (ci := 10) rfl rfl rfl ⟨Nat.le_of_ble_eq_true rfl, Nat.le_of_ble_eq_true rfl⟩ (Nat.le_of_ble_eq_true rfl) (Nat.le_of_ble_eq_true rfl) (Nat.le_of_ble_eq_true rfl) (show kc + 60 + 60 ≤ 892405 ∧ ns + 2100 + 2100 ≤ 6351306 by omega) ?_
  show J x [(5, .int (nI p)), (4, .ref (G.2.2 50)), (3, .ref (G.2.2 49)), (2, .ref (G.2.2 41)), (1, .ref (G.2.2 40)), (0, .ref b)] [.int (r), .int (r)] (wsF G σ2 ++ T) 1788 (kc + 120) (ns + 4200)
  refine j_icmp_eq C0 dL_law_1788 2115 (by decide) (fun _ => ?_) (fun h => absurd rfl h)
  refine j_sub [0, 1, 2, 3, 4, 5] (lo5 G b p) rfl ?_
  exact j_widen C0 (show kc + 120 ≤ kc + 1000 by omega) (show ns + 4200 ≤ ns + 10000 by omega) (hk σ2 T (hI.to (e5.mono (Nat.le_succ B)) e6))
set_option maxRecDepth 20000 in
set_option maxHeartbeats 2000000 in
theorem cs_31 {tab : List ExceptionTableEntry} {K : Nat → Nat} {x : Xt Tx} {G : Gt} {cB : ClassId} {b L : Nat} {xs : Nat → Int32} (C0 : Cx x code 9 RL (some .boolean) tab wsL room_1 G.1 (tys9 G cB)) (CV : Cv K x code 9 RL (some .boolean) tab wsL room_1 G.1 (tys9 G cB)) (X : Wt x G.1) (S9 : CS9 x b L xs) {B kc ns p : Nat} {σ : Mem} {T : Tx} (hI : LI K cB B σ T) (hB : B ≤ 600) (hp : p + 5 ≤ L) (hL : L ≤ 2560) (hr : kc + 1000 ≤ 892405 ∧ ns + 10000 ≤ 6351306) (hk : ∀ σ1 T1, LI K cB (B + 1) σ1 T1 → J x (lo5 G b p) [] (wsF G σ1 ++ T1) 2115 (kc + 1000) (ns + 10000)) : J x (lo5 G b p) [] (wsF G σ ++ T) 1793 kc ns := by
  obtain ⟨r, σ1, σ2, e1, e2, e3, e5, e6⟩ := join_N2 (fun _ _ h => op_tripKind (n := 2000) (n' := 2000) h) hI.1
  show J x [(5, .int (nI p)), (4, .ref (G.2.2 50)), (3, .ref (G.2.2 49)), (2, .ref (G.2.2 41)), (1, .ref (G.2.2 40)), (0, .ref b)] [] (wsF G σ ++ T) 1793 (kc + 0) (ns + 0)
  refine j_aload_n C0 dL_law_1793 4 rfl ?_
  refine jm_callV CV X (c_X5_tripKind 2000 G σ 40 ok40 _ _ e1) dL_law_1794 (gVm9 v_524 v_525 v_526 v_234 v_527) rfl hy_X5_tripKind rfl ok40 rfl (ci := 9) rfl rfl rfl ⟨Nat.le_of_ble_eq_true rfl, Nat.le_of_ble_eq_true rfl⟩ (Nat.le_of_ble_eq_true rfl) (Nat.le_of_ble_eq_true rfl) (Nat.le_of_ble_eq_true rfl) (show kc + 0 + 60 ≤ 892405 ∧ ns + 0 + 2100 ≤ 6351306 by omega) ?_
  show J x [(5, .int (nI p)), (4, .ref (G.2.2 50)), (3, .ref (G.2.2 49)), (2, .ref (G.2.2 41)), (1, .ref (G.2.2 40)), (0, .ref b)] [.int (r)] (wsF G σ1 ++ T) 1797 (kc + 60) (ns + 2100)
  refine j_aload_n C0 dL_law_1797 3 rfl ?_
  refine jm_callV CV X (c_X6_tripKind 2000 G σ1 41 ok41 _ _ e2) dL_law_1798 (gVm9 v_528 v_529 v_530 v_219 v_531) rfl hy_X6_tripKind rfl ok41 rfl (ci := 10) rfl rfl rfl ⟨Nat.le_of_ble_eq_true rfl, Nat.le_of_ble_eq_true rfl⟩ (Nat.le_of_ble_eq_true rfl) (Nat.le_of_ble_eq_true rfl) (Nat.le_of_ble_eq_true rfl) (show kc + 60 + 60 ≤ 892405 ∧ ns + 2100 + 2100 ≤ 6351306 by omega) ?_
  show J x [(5, .int (nI p)), (4, .ref (G.2.2 50)), (3, .ref (G.2.2 49)), (2, .ref (G.2.2 41)), (1, .ref (G.2.2 40)), (0, .ref b)] [.int (r), .int (r)] (wsF G σ2 ++ T) 1801 (kc + 120) (ns + 4200)
  refine j_icmp_eq C0 dL_law_1801 2115 (by decide) (fun _ => ?_) (fun h => absurd rfl h)
  refine j_sub [0, 1, 2, 3, 4, 5] (lo5 G b p) rfl ?_
  exact j_widen C0 (show kc + 120 ≤ kc + 1000 by omega) (show ns + 4200 ≤ ns + 10000 by omega) (hk σ2 T (hI.to (e5.mono (Nat.le_succ B)) e6))
