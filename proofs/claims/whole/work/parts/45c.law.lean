set_option maxRecDepth 20000 in
set_option maxHeartbeats 2000000 in
theorem cs_8 {tab : List ExceptionTableEntry} {K : Nat → Nat} {x : Xt Tx} {G : Gt} {cB : ClassId} {b L : Nat} {xs : Nat → Int32} (C0 : Cx x code 9 RL (some .boolean) tab wsL room_1 G.1 (tys9 G cB)) (CV : Cv K x code 9 RL (some .boolean) tab wsL room_1 G.1 (tys9 G cB)) (X : Wt x G.1) (S9 : CS9 x b L xs) {B kc ns p : Nat} {σ : Mem} {T : Tx} (hI : LI K cB B σ T) (hB : B ≤ 600) (hp : p + 5 ≤ L) (hL : L ≤ 2560) (hr : kc + 1000 ≤ 892405 ∧ ns + 10000 ≤ 6351306) (hk : ∀ σ1 T1, LI K cB (B + 1) σ1 T1 → J x (lo5 G b p) [] (wsF G σ1 ++ T1) 2115 (kc + 1000) (ns + 10000)) : J x (lo5 G b p) [] (wsF G σ ++ T) 704 kc ns := by
  obtain ⟨t, σ1, r, σ2, e1, e2, e3, e4, e5, e6⟩ := join_G2 (fun _ _ h => op_gasOf (n := 2000) (n' := 2000) (xs (p + 1)) h) hI.1
  show J x [(5, .int (nI p)), (4, .ref (G.2.2 50)), (3, .ref (G.2.2 49)), (2, .ref (G.2.2 41)), (1, .ref (G.2.2 40)), (0, .ref b)] [] (wsF G σ ++ T) 704 (kc + 0) (ns + 0)
  refine j_aload_n C0 dL_law_704 4 rfl ?_
  refine j_aload_n C0 dL_law_705 5 rfl ?_
  refine j_iload C0 dL_law_706 0 rfl ?_
  refine j_iconst C0 dL_law_708 ((1 : Int32)) (by decide) ?_
  refine j_iadd C0 dL_law_709 ?_
  refine jt_eqI (b := nI (p + 1)) (add_nI p 1) ?_
  refine jl_sld S9 dL_law_710 (p := p + 1) (by omega) (by omega) ?_
  refine j_aload_n C0 dL_law_711 2 rfl ?_
  refine jm_callSX CV X (c_L_gasOf 2000 G σ 40 (xs (p + 1)) 49 ok40 ok49 _ _ e1) dL_law_712 (gSm9 v_357 v_358 v_297 v_359) rfl hy_L_gasOf rfl rfl ⟨Nat.le_of_ble_eq_true rfl, Nat.le_of_ble_eq_true rfl⟩ (Nat.le_of_ble_eq_true rfl) (Nat.le_of_ble_eq_true rfl) (Nat.le_of_ble_eq_true rfl) (show kc + 0 + 60 ≤ 892405 ∧ ns + 0 + 2100 ≤ 6351306 by omega) ?_
  show J x [(5, .int (nI p)), (4, .ref (G.2.2 50)), (3, .ref (G.2.2 49)), (2, .ref (G.2.2 41)), (1, .ref (G.2.2 40)), (0, .ref b)] [.int (t)] (wsF G σ1 ++ T) 715 (kc + 60) (ns + 2100)
  refine j_istore C0 dL_law_715 (by decide) [(6, .int (t)), (5, .int (nI p)), (4, .ref (G.2.2 50)), (3, .ref (G.2.2 49)), (2, .ref (G.2.2 41)), (1, .ref (G.2.2 40)), (0, .ref b)] rfl ?_
  refine j_aload_n C0 dL_law_717 4 rfl ?_
  refine j_aload_n C0 dL_law_718 6 rfl ?_
  refine j_iload C0 dL_law_719 1 rfl ?_
  refine j_iconst C0 dL_law_721 ((1 : Int32)) (by decide) ?_
  refine j_iadd C0 dL_law_722 ?_
  refine jt_eqI (b := nI (p + 1)) (add_nI p 1) ?_
  refine jl_sld S9 dL_law_723 (p := p + 1) (by omega) (by omega) ?_
  refine jm_callV CV X (c_X6_gasOf 2000 G σ1 41 (xs (p + 1)) ok41 _ _ e2) dL_law_724 (gVm9 v_360 v_361 v_362 v_219 v_363) rfl hy_X6_gasOf rfl ok41 rfl (ci := 10) rfl rfl rfl ⟨Nat.le_of_ble_eq_true rfl, Nat.le_of_ble_eq_true rfl⟩ (Nat.le_of_ble_eq_true rfl) (Nat.le_of_ble_eq_true rfl) (Nat.le_of_ble_eq_true rfl) (show kc + 60 + 60 ≤ 892405 ∧ ns + 2100 + 2100 ≤ 6351306 by omega) ?_
  show J x [(6, .int (t)), (5, .int (nI p)), (4, .ref (G.2.2 50)), (3, .ref (G.2.2 49)), (2, .ref (G.2.2 41)), (1, .ref (G.2.2 40)), (0, .ref b)] [.int (r)] (wsF G σ2 ++ T) 727 (kc + 120) (ns + 4200)
  refine j_istore C0 dL_law_727 (by decide) [(7, .int (r)), (6, .int (t)), (5, .int (nI p)), (4, .ref (G.2.2 50)), (3, .ref (G.2.2 49)), (2, .ref (G.2.2 41)), (1, .ref (G.2.2 40)), (0, .ref b)] rfl ?_
  refine j_aload_n C0 dL_law_729 5 rfl ?_
  refine jm_callV CV X (c_X6_thrown 2000 G σ2 41 ok41 _ _ rfl) dL_law_730 (gVm9 v_303 v_304 v_305 v_219 v_306) rfl hy_X6_thrown rfl ok41 rfl (ci := 10) rfl rfl rfl ⟨Nat.le_of_ble_eq_true rfl, Nat.le_of_ble_eq_true rfl⟩ (Nat.le_of_ble_eq_true rfl) (Nat.le_of_ble_eq_true rfl) (Nat.le_of_ble_eq_true rfl) (show kc + 120 + 60 ≤ 892405 ∧ ns + 4200 + 2100 ≤ 6351306 by omega) ?_
  refine jt_eqI (b := t) e3 ?_
  show J x [(7, .int (r)), (6, .int (t)), (5, .int (nI p)), (4, .ref (G.2.2 50)), (3, .ref (G.2.2 49)), (2, .ref (G.2.2 41)), (1, .ref (G.2.2 40)), (0, .ref b)] [.int (t)] (wsF G σ2 ++ T) 733 (kc + 180) (ns + 6300)
  refine j_iload C0 dL_law_733 1 rfl ?_
  refine j_icmp_eq C0 dL_law_735 740 (by decide) (fun _ => ?_) (fun h => absurd rfl h)
  refine j_iload C0 dL_law_740 1 rfl ?_
  refine j_if_ne C0 dL_law_742 757 (by decide) (fun h0 => ?_) (fun h0 => ?_)
  · refine j_goto C0 dL_law_757 2115 (by decide) ?_
    refine j_sub [2, 3, 4, 5, 6, 7] (lo5 G b p) rfl ?_
    exact j_widen C0 (show kc + 180 ≤ kc + 1000 by omega) (show ns + 6300 ≤ ns + 10000 by omega) (hk σ2 T (hI.to (e5.mono (Nat.le_succ B)) e6))
  · refine j_aload_n C0 dL_law_745 4 rfl ?_
    refine j_iconst C0 dL_law_746 ((0 : Int32)) (by decide) ?_
    refine jl_lald C0 X dL_law_747 ?_
    rw [e4 h0]
    refine j_iload C0 dL_law_748 0 rfl ?_
    refine j_i2l C0 dL_law_750 ?_
    refine j_lcmp C0 dL_law_751 ?_
    refine jt_eqI (b := (0 : Int32)) (lg_cmp_self _) ?_
    refine j_if_eq C0 dL_law_752 757 (by decide) (fun _ => ?_) (fun h => absurd h (by decide))
    refine j_goto C0 dL_law_757 2115 (by decide) ?_
    refine j_sub [2, 3, 4, 5, 6, 7] (lo5 G b p) rfl ?_
    exact j_widen C0 (show kc + 180 ≤ kc + 1000 by omega) (show ns + 6300 ≤ ns + 10000 by omega) (hk σ2 T (hI.to (e5.mono (Nat.le_succ B)) e6))
set_option maxRecDepth 20000 in
set_option maxHeartbeats 2000000 in
theorem cs_9 {tab : List ExceptionTableEntry} {K : Nat → Nat} {x : Xt Tx} {G : Gt} {cB : ClassId} {b L : Nat} {xs : Nat → Int32} (C0 : Cx x code 9 RL (some .boolean) tab wsL room_1 G.1 (tys9 G cB)) (CV : Cv K x code 9 RL (some .boolean) tab wsL room_1 G.1 (tys9 G cB)) (X : Wt x G.1) (S9 : CS9 x b L xs) {B kc ns p : Nat} {σ : Mem} {T : Tx} (hI : LI K cB B σ T) (hB : B ≤ 600) (hp : p + 5 ≤ L) (hL : L ≤ 2560) (hr : kc + 1000 ≤ 892405 ∧ ns + 10000 ≤ 6351306) (hk : ∀ σ1 T1, LI K cB (B + 1) σ1 T1 → J x (lo5 G b p) [] (wsF G σ1 ++ T1) 2115 (kc + 1000) (ns + 10000)) : J x (lo5 G b p) [] (wsF G σ ++ T) 760 kc ns := by
  obtain ⟨t, σ1, r, σ2, e1, e2, e3, e4, e5, e6⟩ := join_G2 (fun _ _ h => op_gasShare (n := 2000) (n' := 2000) (xs (p + 1)) h) hI.1
  show J x [(5, .int (nI p)), (4, .ref (G.2.2 50)), (3, .ref (G.2.2 49)), (2, .ref (G.2.2 41)), (1, .ref (G.2.2 40)), (0, .ref b)] [] (wsF G σ ++ T) 760 (kc + 0) (ns + 0)
  refine j_aload_n C0 dL_law_760 4 rfl ?_
  refine j_aload_n C0 dL_law_761 5 rfl ?_
  refine j_iload C0 dL_law_762 0 rfl ?_
  refine j_iconst C0 dL_law_764 ((1 : Int32)) (by decide) ?_
  refine j_iadd C0 dL_law_765 ?_
  refine jt_eqI (b := nI (p + 1)) (add_nI p 1) ?_
  refine jl_sld S9 dL_law_766 (p := p + 1) (by omega) (by omega) ?_
  refine j_aload_n C0 dL_law_767 2 rfl ?_
  refine jm_callSX CV X (c_L_gasShare 2000 G σ 40 (xs (p + 1)) 49 ok40 ok49 _ _ e1) dL_law_768 (gSm9 v_364 v_365 v_297 v_366) rfl hy_L_gasShare rfl rfl ⟨Nat.le_of_ble_eq_true rfl, Nat.le_of_ble_eq_true rfl⟩ (Nat.le_of_ble_eq_true rfl) (Nat.le_of_ble_eq_true rfl) (Nat.le_of_ble_eq_true rfl) (show kc + 0 + 60 ≤ 892405 ∧ ns + 0 + 2100 ≤ 6351306 by omega) ?_
  show J x [(5, .int (nI p)), (4, .ref (G.2.2 50)), (3, .ref (G.2.2 49)), (2, .ref (G.2.2 41)), (1, .ref (G.2.2 40)), (0, .ref b)] [.int (t)] (wsF G σ1 ++ T) 771 (kc + 60) (ns + 2100)
  refine j_istore C0 dL_law_771 (by decide) [(6, .int (t)), (5, .int (nI p)), (4, .ref (G.2.2 50)), (3, .ref (G.2.2 49)), (2, .ref (G.2.2 41)), (1, .ref (G.2.2 40)), (0, .ref b)] rfl ?_
  refine j_aload_n C0 dL_law_773 4 rfl ?_
  refine j_aload_n C0 dL_law_774 6 rfl ?_
  refine j_iload C0 dL_law_775 1 rfl ?_
  refine j_iconst C0 dL_law_777 ((1 : Int32)) (by decide) ?_
  refine j_iadd C0 dL_law_778 ?_
  refine jt_eqI (b := nI (p + 1)) (add_nI p 1) ?_
  refine jl_sld S9 dL_law_779 (p := p + 1) (by omega) (by omega) ?_
  refine jm_callV CV X (c_X6_gasShare 2000 G σ1 41 (xs (p + 1)) ok41 _ _ e2) dL_law_780 (gVm9 v_367 v_368 v_369 v_219 v_370) rfl hy_X6_gasShare rfl ok41 rfl (ci := 10) rfl rfl rfl ⟨Nat.le_of_ble_eq_true rfl, Nat.le_of_ble_eq_true rfl⟩ (Nat.le_of_ble_eq_true rfl) (Nat.le_of_ble_eq_true rfl) (Nat.le_of_ble_eq_true rfl) (show kc + 60 + 60 ≤ 892405 ∧ ns + 2100 + 2100 ≤ 6351306 by omega) ?_
  show J x [(6, .int (t)), (5, .int (nI p)), (4, .ref (G.2.2 50)), (3, .ref (G.2.2 49)), (2, .ref (G.2.2 41)), (1, .ref (G.2.2 40)), (0, .ref b)] [.int (r)] (wsF G σ2 ++ T) 783 (kc + 120) (ns + 4200)
  refine j_istore C0 dL_law_783 (by decide) [(7, .int (r)), (6, .int (t)), (5, .int (nI p)), (4, .ref (G.2.2 50)), (3, .ref (G.2.2 49)), (2, .ref (G.2.2 41)), (1, .ref (G.2.2 40)), (0, .ref b)] rfl ?_
  refine j_aload_n C0 dL_law_785 5 rfl ?_
  refine jm_callV CV X (c_X6_thrown 2000 G σ2 41 ok41 _ _ rfl) dL_law_786 (gVm9 v_303 v_304 v_305 v_219 v_306) rfl hy_X6_thrown rfl ok41 rfl (ci := 10) rfl rfl rfl ⟨Nat.le_of_ble_eq_true rfl, Nat.le_of_ble_eq_true rfl⟩ (Nat.le_of_ble_eq_true rfl) (Nat.le_of_ble_eq_true rfl) (Nat.le_of_ble_eq_true rfl) (show kc + 120 + 60 ≤ 892405 ∧ ns + 4200 + 2100 ≤ 6351306 by omega) ?_
  refine jt_eqI (b := t) e3 ?_
  show J x [(7, .int (r)), (6, .int (t)), (5, .int (nI p)), (4, .ref (G.2.2 50)), (3, .ref (G.2.2 49)), (2, .ref (G.2.2 41)), (1, .ref (G.2.2 40)), (0, .ref b)] [.int (t)] (wsF G σ2 ++ T) 789 (kc + 180) (ns + 6300)
  refine j_iload C0 dL_law_789 1 rfl ?_
  refine j_icmp_eq C0 dL_law_791 796 (by decide) (fun _ => ?_) (fun h => absurd rfl h)
  refine j_iload C0 dL_law_796 1 rfl ?_
  refine j_if_ne C0 dL_law_798 813 (by decide) (fun h0 => ?_) (fun h0 => ?_)
  · refine j_goto C0 dL_law_813 2115 (by decide) ?_
    refine j_sub [2, 3, 4, 5, 6, 7] (lo5 G b p) rfl ?_
    exact j_widen C0 (show kc + 180 ≤ kc + 1000 by omega) (show ns + 6300 ≤ ns + 10000 by omega) (hk σ2 T (hI.to (e5.mono (Nat.le_succ B)) e6))
  · refine j_aload_n C0 dL_law_801 4 rfl ?_
    refine j_iconst C0 dL_law_802 ((0 : Int32)) (by decide) ?_
    refine jl_lald C0 X dL_law_803 ?_
    rw [e4 h0]
    refine j_iload C0 dL_law_804 0 rfl ?_
    refine j_i2l C0 dL_law_806 ?_
    refine j_lcmp C0 dL_law_807 ?_
    refine jt_eqI (b := (0 : Int32)) (lg_cmp_self _) ?_
    refine j_if_eq C0 dL_law_808 813 (by decide) (fun _ => ?_) (fun h => absurd h (by decide))
    refine j_goto C0 dL_law_813 2115 (by decide) ?_
    refine j_sub [2, 3, 4, 5, 6, 7] (lo5 G b p) rfl ?_
    exact j_widen C0 (show kc + 180 ≤ kc + 1000 by omega) (show ns + 6300 ≤ ns + 10000 by omega) (hk σ2 T (hI.to (e5.mono (Nat.le_succ B)) e6))
set_option maxRecDepth 20000 in
set_option maxHeartbeats 2000000 in
theorem cs_10 {tab : List ExceptionTableEntry} {K : Nat → Nat} {x : Xt Tx} {G : Gt} {cB : ClassId} {b L : Nat} {xs : Nat → Int32} (C0 : Cx x code 9 RL (some .boolean) tab wsL room_1 G.1 (tys9 G cB)) (CV : Cv K x code 9 RL (some .boolean) tab wsL room_1 G.1 (tys9 G cB)) (X : Wt x G.1) (S9 : CS9 x b L xs) {B kc ns p : Nat} {σ : Mem} {T : Tx} (hI : LI K cB B σ T) (hB : B ≤ 600) (hp : p + 5 ≤ L) (hL : L ≤ 2560) (hr : kc + 1000 ≤ 892405 ∧ ns + 10000 ≤ 6351306) (hk : ∀ σ1 T1, LI K cB (B + 1) σ1 T1 → J x (lo5 G b p) [] (wsF G σ1 ++ T1) 2115 (kc + 1000) (ns + 10000)) : J x (lo5 G b p) [] (wsF G σ ++ T) 816 kc ns := by
  obtain ⟨t, σ1, r, σ2, e1, e2, e3, e4, e5, e6⟩ := join_G2 (fun _ _ h => op_isAlarm (n := 2000) (n' := 2000) (xs (p + 1)) h) hI.1
  rcases z_isAlarm e2 with hz | hz <;> subst hz
  · show J x [(5, .int (nI p)), (4, .ref (G.2.2 50)), (3, .ref (G.2.2 49)), (2, .ref (G.2.2 41)), (1, .ref (G.2.2 40)), (0, .ref b)] [] (wsF G σ ++ T) 816 (kc + 0) (ns + 0)
    refine j_aload_n C0 dL_law_816 4 rfl ?_
    refine j_aload_n C0 dL_law_817 5 rfl ?_
    refine j_iload C0 dL_law_818 0 rfl ?_
    refine j_iconst C0 dL_law_820 ((1 : Int32)) (by decide) ?_
    refine j_iadd C0 dL_law_821 ?_
    refine jt_eqI (b := nI (p + 1)) (add_nI p 1) ?_
    refine jl_sld S9 dL_law_822 (p := p + 1) (by omega) (by omega) ?_
    refine j_aload_n C0 dL_law_823 2 rfl ?_
    refine jm_callSX CV X (c_L_isAlarm 2000 G σ 40 (xs (p + 1)) 49 ok40 ok49 _ _ e1) dL_law_824 (gSm9 v_371 v_372 v_297 v_373) rfl hy_L_isAlarm rfl rfl ⟨Nat.le_of_ble_eq_true rfl, Nat.le_of_ble_eq_true rfl⟩ (Nat.le_of_ble_eq_true rfl) (Nat.le_of_ble_eq_true rfl) (Nat.le_of_ble_eq_true rfl) (show kc + 0 + 60 ≤ 892405 ∧ ns + 0 + 2100 ≤ 6351306 by omega) ?_
    show J x [(5, .int (nI p)), (4, .ref (G.2.2 50)), (3, .ref (G.2.2 49)), (2, .ref (G.2.2 41)), (1, .ref (G.2.2 40)), (0, .ref b)] [.int (t)] (wsF G σ1 ++ T) 827 (kc + 60) (ns + 2100)
    refine j_istore C0 dL_law_827 (by decide) [(6, .int (t)), (5, .int (nI p)), (4, .ref (G.2.2 50)), (3, .ref (G.2.2 49)), (2, .ref (G.2.2 41)), (1, .ref (G.2.2 40)), (0, .ref b)] rfl ?_
    refine j_aload_n C0 dL_law_829 4 rfl ?_
    refine j_aload_n C0 dL_law_830 6 rfl ?_
    refine j_iload C0 dL_law_831 1 rfl ?_
    refine j_iconst C0 dL_law_833 ((1 : Int32)) (by decide) ?_
    refine j_iadd C0 dL_law_834 ?_
    refine jt_eqI (b := nI (p + 1)) (add_nI p 1) ?_
    refine jl_sld S9 dL_law_835 (p := p + 1) (by omega) (by omega) ?_
    refine jm_callV CV X (c_X6_isAlarm 2000 G σ1 41 (xs (p + 1)) ok41 _ _ e2) dL_law_836 (gVm9 v_374 v_375 v_376 v_219 v_377) rfl hy_X6_isAlarm rfl ok41 rfl (ci := 10) rfl rfl rfl ⟨Nat.le_of_ble_eq_true rfl, Nat.le_of_ble_eq_true rfl⟩ (Nat.le_of_ble_eq_true rfl) (Nat.le_of_ble_eq_true rfl) (Nat.le_of_ble_eq_true rfl) (show kc + 60 + 60 ≤ 892405 ∧ ns + 2100 + 2100 ≤ 6351306 by omega) ?_
    show J x [(6, .int (t)), (5, .int (nI p)), (4, .ref (G.2.2 50)), (3, .ref (G.2.2 49)), (2, .ref (G.2.2 41)), (1, .ref (G.2.2 40)), (0, .ref b)] [.int ((0 : Int32))] (wsF G σ2 ++ T) 839 (kc + 120) (ns + 4200)
    refine j_istore C0 dL_law_839 (by decide) [(7, .int ((0 : Int32))), (6, .int (t)), (5, .int (nI p)), (4, .ref (G.2.2 50)), (3, .ref (G.2.2 49)), (2, .ref (G.2.2 41)), (1, .ref (G.2.2 40)), (0, .ref b)] rfl ?_
    refine j_aload_n C0 dL_law_841 5 rfl ?_
    refine jm_callV CV X (c_X6_thrown 2000 G σ2 41 ok41 _ _ rfl) dL_law_842 (gVm9 v_303 v_304 v_305 v_219 v_306) rfl hy_X6_thrown rfl ok41 rfl (ci := 10) rfl rfl rfl ⟨Nat.le_of_ble_eq_true rfl, Nat.le_of_ble_eq_true rfl⟩ (Nat.le_of_ble_eq_true rfl) (Nat.le_of_ble_eq_true rfl) (Nat.le_of_ble_eq_true rfl) (show kc + 120 + 60 ≤ 892405 ∧ ns + 4200 + 2100 ≤ 6351306 by omega) ?_
    refine jt_eqI (b := t) e3 ?_
    show J x [(7, .int ((0 : Int32))), (6, .int (t)), (5, .int (nI p)), (4, .ref (G.2.2 50)), (3, .ref (G.2.2 49)), (2, .ref (G.2.2 41)), (1, .ref (G.2.2 40)), (0, .ref b)] [.int (t)] (wsF G σ2 ++ T) 845 (kc + 180) (ns + 6300)
    refine j_iload C0 dL_law_845 1 rfl ?_
    refine j_icmp_eq C0 dL_law_847 852 (by decide) (fun _ => ?_) (fun h => absurd rfl h)
    refine j_iload C0 dL_law_852 1 rfl ?_
    refine j_if_ne C0 dL_law_854 876 (by decide) (fun h0 => ?_) (fun h0 => ?_)
    · refine j_goto C0 dL_law_876 2115 (by decide) ?_
      refine j_sub [2, 3, 4, 5, 6, 7] (lo5 G b p) rfl ?_
      exact j_widen C0 (show kc + 180 ≤ kc + 1000 by omega) (show ns + 6300 ≤ ns + 10000 by omega) (hk σ2 T (hI.to (e5.mono (Nat.le_succ B)) e6))
    · refine j_aload_n C0 dL_law_857 4 rfl ?_
      refine j_iconst C0 dL_law_858 ((0 : Int32)) (by decide) ?_
      refine jl_lald C0 X dL_law_859 ?_
      rw [e4 h0]
      refine j_iload C0 dL_law_860 0 rfl ?_
      refine j_if_eq C0 dL_law_862 869 (by decide) (fun _ => ?_) (fun h => absurd h (by decide))
      refine j_lconst C0 dL_law_869 ((0 : Int32).toInt64) (by decide) ?_
      refine j_lcmp C0 dL_law_870 ?_
      refine jt_eqI (b := (0 : Int32)) (lg_cmp_self _) ?_
      refine j_if_eq C0 dL_law_871 876 (by decide) (fun _ => ?_) (fun h => absurd h (by decide))
      refine j_goto C0 dL_law_876 2115 (by decide) ?_
      refine j_sub [2, 3, 4, 5, 6, 7] (lo5 G b p) rfl ?_
      exact j_widen C0 (show kc + 180 ≤ kc + 1000 by omega) (show ns + 6300 ≤ ns + 10000 by omega) (hk σ2 T (hI.to (e5.mono (Nat.le_succ B)) e6))
  · show J x [(5, .int (nI p)), (4, .ref (G.2.2 50)), (3, .ref (G.2.2 49)), (2, .ref (G.2.2 41)), (1, .ref (G.2.2 40)), (0, .ref b)] [] (wsF G σ ++ T) 816 (kc + 0) (ns + 0)
    refine j_aload_n C0 dL_law_816 4 rfl ?_
    refine j_aload_n C0 dL_law_817 5 rfl ?_
    refine j_iload C0 dL_law_818 0 rfl ?_
    refine j_iconst C0 dL_law_820 ((1 : Int32)) (by decide) ?_
    refine j_iadd C0 dL_law_821 ?_
    refine jt_eqI (b := nI (p + 1)) (add_nI p 1) ?_
    refine jl_sld S9 dL_law_822 (p := p + 1) (by omega) (by omega) ?_
    refine j_aload_n C0 dL_law_823 2 rfl ?_
    refine jm_callSX CV X (c_L_isAlarm 2000 G σ 40 (xs (p + 1)) 49 ok40 ok49 _ _ e1) dL_law_824 (gSm9 v_371 v_372 v_297 v_373) rfl hy_L_isAlarm rfl rfl ⟨Nat.le_of_ble_eq_true rfl, Nat.le_of_ble_eq_true rfl⟩ (Nat.le_of_ble_eq_true rfl) (Nat.le_of_ble_eq_true rfl) (Nat.le_of_ble_eq_true rfl) (show kc + 0 + 60 ≤ 892405 ∧ ns + 0 + 2100 ≤ 6351306 by omega) ?_
    show J x [(5, .int (nI p)), (4, .ref (G.2.2 50)), (3, .ref (G.2.2 49)), (2, .ref (G.2.2 41)), (1, .ref (G.2.2 40)), (0, .ref b)] [.int (t)] (wsF G σ1 ++ T) 827 (kc + 60) (ns + 2100)
    refine j_istore C0 dL_law_827 (by decide) [(6, .int (t)), (5, .int (nI p)), (4, .ref (G.2.2 50)), (3, .ref (G.2.2 49)), (2, .ref (G.2.2 41)), (1, .ref (G.2.2 40)), (0, .ref b)] rfl ?_
    refine j_aload_n C0 dL_law_829 4 rfl ?_
    refine j_aload_n C0 dL_law_830 6 rfl ?_
    refine j_iload C0 dL_law_831 1 rfl ?_
    refine j_iconst C0 dL_law_833 ((1 : Int32)) (by decide) ?_
    refine j_iadd C0 dL_law_834 ?_
    refine jt_eqI (b := nI (p + 1)) (add_nI p 1) ?_
    refine jl_sld S9 dL_law_835 (p := p + 1) (by omega) (by omega) ?_
    refine jm_callV CV X (c_X6_isAlarm 2000 G σ1 41 (xs (p + 1)) ok41 _ _ e2) dL_law_836 (gVm9 v_374 v_375 v_376 v_219 v_377) rfl hy_X6_isAlarm rfl ok41 rfl (ci := 10) rfl rfl rfl ⟨Nat.le_of_ble_eq_true rfl, Nat.le_of_ble_eq_true rfl⟩ (Nat.le_of_ble_eq_true rfl) (Nat.le_of_ble_eq_true rfl) (Nat.le_of_ble_eq_true rfl) (show kc + 60 + 60 ≤ 892405 ∧ ns + 2100 + 2100 ≤ 6351306 by omega) ?_
    show J x [(6, .int (t)), (5, .int (nI p)), (4, .ref (G.2.2 50)), (3, .ref (G.2.2 49)), (2, .ref (G.2.2 41)), (1, .ref (G.2.2 40)), (0, .ref b)] [.int ((1 : Int32))] (wsF G σ2 ++ T) 839 (kc + 120) (ns + 4200)
    refine j_istore C0 dL_law_839 (by decide) [(7, .int ((1 : Int32))), (6, .int (t)), (5, .int (nI p)), (4, .ref (G.2.2 50)), (3, .ref (G.2.2 49)), (2, .ref (G.2.2 41)), (1, .ref (G.2.2 40)), (0, .ref b)] rfl ?_
    refine j_aload_n C0 dL_law_841 5 rfl ?_
    refine jm_callV CV X (c_X6_thrown 2000 G σ2 41 ok41 _ _ rfl) dL_law_842 (gVm9 v_303 v_304 v_305 v_219 v_306) rfl hy_X6_thrown rfl ok41 rfl (ci := 10) rfl rfl rfl ⟨Nat.le_of_ble_eq_true rfl, Nat.le_of_ble_eq_true rfl⟩ (Nat.le_of_ble_eq_true rfl) (Nat.le_of_ble_eq_true rfl) (Nat.le_of_ble_eq_true rfl) (show kc + 120 + 60 ≤ 892405 ∧ ns + 4200 + 2100 ≤ 6351306 by omega) ?_
    refine jt_eqI (b := t) e3 ?_
    show J x [(7, .int ((1 : Int32))), (6, .int (t)), (5, .int (nI p)), (4, .ref (G.2.2 50)), (3, .ref (G.2.2 49)), (2, .ref (G.2.2 41)), (1, .ref (G.2.2 40)), (0, .ref b)] [.int (t)] (wsF G σ2 ++ T) 845 (kc + 180) (ns + 6300)
    refine j_iload C0 dL_law_845 1 rfl ?_
    refine j_icmp_eq C0 dL_law_847 852 (by decide) (fun _ => ?_) (fun h => absurd rfl h)
    refine j_iload C0 dL_law_852 1 rfl ?_
    refine j_if_ne C0 dL_law_854 876 (by decide) (fun h0 => ?_) (fun h0 => ?_)
    · refine j_goto C0 dL_law_876 2115 (by decide) ?_
      refine j_sub [2, 3, 4, 5, 6, 7] (lo5 G b p) rfl ?_
      exact j_widen C0 (show kc + 180 ≤ kc + 1000 by omega) (show ns + 6300 ≤ ns + 10000 by omega) (hk σ2 T (hI.to (e5.mono (Nat.le_succ B)) e6))
    · refine j_aload_n C0 dL_law_857 4 rfl ?_
      refine j_iconst C0 dL_law_858 ((0 : Int32)) (by decide) ?_
      refine jl_lald C0 X dL_law_859 ?_
      rw [e4 h0]
      refine j_iload C0 dL_law_860 0 rfl ?_
      refine j_if_eq C0 dL_law_862 869 (by decide) (fun h => absurd h (by decide)) (fun _ => ?_)
      refine j_lconst C0 dL_law_865 ((1 : Int32).toInt64) (by decide) ?_
      refine j_goto C0 dL_law_866 870 (by decide) ?_
      refine j_lcmp C0 dL_law_870 ?_
      refine jt_eqI (b := (0 : Int32)) (lg_cmp_self _) ?_
      refine j_if_eq C0 dL_law_871 876 (by decide) (fun _ => ?_) (fun h => absurd h (by decide))
      refine j_goto C0 dL_law_876 2115 (by decide) ?_
      refine j_sub [2, 3, 4, 5, 6, 7] (lo5 G b p) rfl ?_
      exact j_widen C0 (show kc + 180 ≤ kc + 1000 by omega) (show ns + 6300 ≤ ns + 10000 by omega) (hk σ2 T (hI.to (e5.mono (Nat.le_succ B)) e6))
set_option maxRecDepth 20000 in
set_option maxHeartbeats 2000000 in
theorem cs_11 {tab : List ExceptionTableEntry} {K : Nat → Nat} {x : Xt Tx} {G : Gt} {cB : ClassId} {b L : Nat} {xs : Nat → Int32} (C0 : Cx x code 9 RL (some .boolean) tab wsL room_1 G.1 (tys9 G cB)) (CV : Cv K x code 9 RL (some .boolean) tab wsL room_1 G.1 (tys9 G cB)) (X : Wt x G.1) (S9 : CS9 x b L xs) {B kc ns p : Nat} {σ : Mem} {T : Tx} (hI : LI K cB B σ T) (hB : B ≤ 600) (hp : p + 5 ≤ L) (hL : L ≤ 2560) (hr : kc + 1000 ≤ 892405 ∧ ns + 10000 ≤ 6351306) (hk : ∀ σ1 T1, LI K cB (B + 1) σ1 T1 → J x (lo5 G b p) [] (wsF G σ1 ++ T1) 2115 (kc + 1000) (ns + 10000)) : J x (lo5 G b p) [] (wsF G σ ++ T) 879 kc ns := by
  obtain ⟨r, σ1, σ2, e1, e2, e3, e5, e6⟩ := join_N2 (fun _ _ h => op_gasTotal (n := 2000) (n' := 2000) h) hI.1
  show J x [(5, .int (nI p)), (4, .ref (G.2.2 50)), (3, .ref (G.2.2 49)), (2, .ref (G.2.2 41)), (1, .ref (G.2.2 40)), (0, .ref b)] [] (wsF G σ ++ T) 879 (kc + 0) (ns + 0)
  refine j_aload_n C0 dL_law_879 4 rfl ?_
  refine jm_callV CV X (c_X5_gasTotal 2000 G σ 40 ok40 _ _ e1) dL_law_880 (gVm9 v_378 v_379 v_380 v_234 v_381) rfl hy_X5_gasTotal rfl ok40 rfl (ci := 9) rfl rfl rfl ⟨Nat.le_of_ble_eq_true rfl, Nat.le_of_ble_eq_true rfl⟩ (Nat.le_of_ble_eq_true rfl) (Nat.le_of_ble_eq_true rfl) (Nat.le_of_ble_eq_true rfl) (show kc + 0 + 60 ≤ 892405 ∧ ns + 0 + 2100 ≤ 6351306 by omega) ?_
  show J x [(5, .int (nI p)), (4, .ref (G.2.2 50)), (3, .ref (G.2.2 49)), (2, .ref (G.2.2 41)), (1, .ref (G.2.2 40)), (0, .ref b)] [.int (r)] (wsF G σ1 ++ T) 883 (kc + 60) (ns + 2100)
  refine j_aload_n C0 dL_law_883 3 rfl ?_
  refine jm_callV CV X (c_X6_gasTotal 2000 G σ1 41 ok41 _ _ e2) dL_law_884 (gVm9 v_382 v_383 v_384 v_219 v_385) rfl hy_X6_gasTotal rfl ok41 rfl (ci := 10) rfl rfl rfl ⟨Nat.le_of_ble_eq_true rfl, Nat.le_of_ble_eq_true rfl⟩ (Nat.le_of_ble_eq_true rfl) (Nat.le_of_ble_eq_true rfl) (Nat.le_of_ble_eq_true rfl) (show kc + 60 + 60 ≤ 892405 ∧ ns + 2100 + 2100 ≤ 6351306 by omega) ?_
  show J x [(5, .int (nI p)), (4, .ref (G.2.2 50)), (3, .ref (G.2.2 49)), (2, .ref (G.2.2 41)), (1, .ref (G.2.2 40)), (0, .ref b)] [.int (r), .int (r)] (wsF G σ2 ++ T) 887 (kc + 120) (ns + 4200)
  refine j_icmp_eq C0 dL_law_887 2115 (by decide) (fun _ => ?_) (fun h => absurd rfl h)
  refine j_sub [0, 1, 2, 3, 4, 5] (lo5 G b p) rfl ?_
  exact j_widen C0 (show kc + 120 ≤ kc + 1000 by omega) (show ns + 4200 ≤ ns + 10000 by omega) (hk σ2 T (hI.to (e5.mono (Nat.le_succ B)) e6))
set_option maxRecDepth 20000 in
set_option maxHeartbeats 2000000 in
theorem cs_12 {tab : List ExceptionTableEntry} {K : Nat → Nat} {x : Xt Tx} {G : Gt} {cB : ClassId} {b L : Nat} {xs : Nat → Int32} (C0 : Cx x code 9 RL (some .boolean) tab wsL room_1 G.1 (tys9 G cB)) (CV : Cv K x code 9 RL (some .boolean) tab wsL room_1 G.1 (tys9 G cB)) (X : Wt x G.1) (S9 : CS9 x b L xs) {B kc ns p : Nat} {σ : Mem} {T : Tx} (hI : LI K cB B σ T) (hB : B ≤ 600) (hp : p + 5 ≤ L) (hL : L ≤ 2560) (hr : kc + 1000 ≤ 892405 ∧ ns + 10000 ≤ 6351306) (hk : ∀ σ1 T1, LI K cB (B + 1) σ1 T1 → J x (lo5 G b p) [] (wsF G σ1 ++ T1) 2115 (kc + 1000) (ns + 10000)) : J x (lo5 G b p) [] (wsF G σ ++ T) 892 kc ns := by
  obtain ⟨r, σ1, σ2, e1, e2, e3, e5, e6⟩ := join_N2 (fun _ _ h => op_ventedTotal (n := 2000) (n' := 2000) h) hI.1
  show J x [(5, .int (nI p)), (4, .ref (G.2.2 50)), (3, .ref (G.2.2 49)), (2, .ref (G.2.2 41)), (1, .ref (G.2.2 40)), (0, .ref b)] [] (wsF G σ ++ T) 892 (kc + 0) (ns + 0)
  refine j_aload_n C0 dL_law_892 4 rfl ?_
  refine jm_callV CV X (c_X5_ventedTotal 2000 G σ 40 ok40 _ _ e1) dL_law_893 (gVm9 v_386 v_387 v_388 v_234 v_389) rfl hy_X5_ventedTotal rfl ok40 rfl (ci := 9) rfl rfl rfl ⟨Nat.le_of_ble_eq_true rfl, Nat.le_of_ble_eq_true rfl⟩ (Nat.le_of_ble_eq_true rfl) (Nat.le_of_ble_eq_true rfl) (Nat.le_of_ble_eq_true rfl) (show kc + 0 + 60 ≤ 892405 ∧ ns + 0 + 2100 ≤ 6351306 by omega) ?_
  show J x [(5, .int (nI p)), (4, .ref (G.2.2 50)), (3, .ref (G.2.2 49)), (2, .ref (G.2.2 41)), (1, .ref (G.2.2 40)), (0, .ref b)] [.int (r)] (wsF G σ1 ++ T) 896 (kc + 60) (ns + 2100)
  refine j_aload_n C0 dL_law_896 3 rfl ?_
  refine jm_callV CV X (c_X6_ventedTotal 2000 G σ1 41 ok41 _ _ e2) dL_law_897 (gVm9 v_390 v_391 v_392 v_219 v_393) rfl hy_X6_ventedTotal rfl ok41 rfl (ci := 10) rfl rfl rfl ⟨Nat.le_of_ble_eq_true rfl, Nat.le_of_ble_eq_true rfl⟩ (Nat.le_of_ble_eq_true rfl) (Nat.le_of_ble_eq_true rfl) (Nat.le_of_ble_eq_true rfl) (show kc + 60 + 60 ≤ 892405 ∧ ns + 2100 + 2100 ≤ 6351306 by omega) ?_
  show J x [(5, .int (nI p)), (4, .ref (G.2.2 50)), (3, .ref (G.2.2 49)), (2, .ref (G.2.2 41)), (1, .ref (G.2.2 40)), (0, .ref b)] [.int (r), .int (r)] (wsF G σ2 ++ T) 900 (kc + 120) (ns + 4200)
  refine j_icmp_eq C0 dL_law_900 2115 (by decide) (fun _ => ?_) (fun h => absurd rfl h)
  refine j_sub [0, 1, 2, 3, 4, 5] (lo5 G b p) rfl ?_
  exact j_widen C0 (show kc + 120 ≤ kc + 1000 by omega) (show ns + 4200 ≤ ns + 10000 by omega) (hk σ2 T (hI.to (e5.mono (Nat.le_succ B)) e6))
set_option maxRecDepth 20000 in
set_option maxHeartbeats 2000000 in
theorem cs_13 {tab : List ExceptionTableEntry} {K : Nat → Nat} {x : Xt Tx} {G : Gt} {cB : ClassId} {b L : Nat} {xs : Nat → Int32} (C0 : Cx x code 9 RL (some .boolean) tab wsL room_1 G.1 (tys9 G cB)) (CV : Cv K x code 9 RL (some .boolean) tab wsL room_1 G.1 (tys9 G cB)) (X : Wt x G.1) (S9 : CS9 x b L xs) {B kc ns p : Nat} {σ : Mem} {T : Tx} (hI : LI K cB B σ T) (hB : B ≤ 600) (hp : p + 5 ≤ L) (hL : L ≤ 2560) (hr : kc + 1000 ≤ 892405 ∧ ns + 10000 ≤ 6351306) (hk : ∀ σ1 T1, LI K cB (B + 1) σ1 T1 → J x (lo5 G b p) [] (wsF G σ1 ++ T1) 2115 (kc + 1000) (ns + 10000)) : J x (lo5 G b p) [] (wsF G σ ++ T) 905 kc ns := by
  obtain ⟨t, σ1, r, σ2, e1, e2, e3, e4, e5, e6⟩ := join_D2 (fun _ _ h => op_meanShare (n := 2000) (n' := 2000) (by decide) (by decide) h) hI.1
  show J x [(5, .int (nI p)), (4, .ref (G.2.2 50)), (3, .ref (G.2.2 49)), (2, .ref (G.2.2 41)), (1, .ref (G.2.2 40)), (0, .ref b)] [] (wsF G σ ++ T) 905 (kc + 0) (ns + 0)
  refine j_aload_n C0 dL_law_905 4 rfl ?_
  refine j_aload C0 dL_law_906 1 rfl ?_
  refine jm_callSX CV X (c_L_meanShare 2000 G σ 40 50 ok40 ok50 _ _ e1) dL_law_908 (gSm9 v_394 v_395 v_297 v_396) rfl hy_L_meanShare rfl rfl ⟨Nat.le_of_ble_eq_true rfl, Nat.le_of_ble_eq_true rfl⟩ (Nat.le_of_ble_eq_true rfl) (Nat.le_of_ble_eq_true rfl) (Nat.le_of_ble_eq_true rfl) (show kc + 0 + 60 ≤ 892405 ∧ ns + 0 + 2100 ≤ 6351306 by omega) ?_
  show J x [(5, .int (nI p)), (4, .ref (G.2.2 50)), (3, .ref (G.2.2 49)), (2, .ref (G.2.2 41)), (1, .ref (G.2.2 40)), (0, .ref b)] [.int (t)] (wsF G σ1 ++ T) 911 (kc + 60) (ns + 2100)
  refine j_istore C0 dL_law_911 (by decide) [(6, .int (t)), (5, .int (nI p)), (4, .ref (G.2.2 50)), (3, .ref (G.2.2 49)), (2, .ref (G.2.2 41)), (1, .ref (G.2.2 40)), (0, .ref b)] rfl ?_
  refine j_aload_n C0 dL_law_913 4 rfl ?_
  refine jm_callV CV X (c_X6_meanShare 2000 G σ1 41 ok41 _ _ e2) dL_law_914 (gVm9 v_397 v_398 v_399 v_219 v_400) rfl hy_X6_meanShare rfl ok41 rfl (ci := 10) rfl rfl rfl ⟨Nat.le_of_ble_eq_true rfl, Nat.le_of_ble_eq_true rfl⟩ (Nat.le_of_ble_eq_true rfl) (Nat.le_of_ble_eq_true rfl) (Nat.le_of_ble_eq_true rfl) (show kc + 60 + 60 ≤ 892405 ∧ ns + 2100 + 2100 ≤ 6351306 by omega) ?_
  show J x [(6, .int (t)), (5, .int (nI p)), (4, .ref (G.2.2 50)), (3, .ref (G.2.2 49)), (2, .ref (G.2.2 41)), (1, .ref (G.2.2 40)), (0, .ref b)] [.double (dq (r.1) (r.2))] (wsF G σ2 ++ T) 917 (kc + 120) (ns + 4200)
  refine j_dstore C0 dL_law_917 (by decide) [(7, .double (dq (r.1) (r.2))), (6, .int (t)), (5, .int (nI p)), (4, .ref (G.2.2 50)), (3, .ref (G.2.2 49)), (2, .ref (G.2.2 41)), (1, .ref (G.2.2 40)), (0, .ref b)] rfl ?_
  refine j_aload_n C0 dL_law_919 5 rfl ?_
  refine jm_callV CV X (c_X6_thrown 2000 G σ2 41 ok41 _ _ rfl) dL_law_920 (gVm9 v_303 v_304 v_305 v_219 v_306) rfl hy_X6_thrown rfl ok41 rfl (ci := 10) rfl rfl rfl ⟨Nat.le_of_ble_eq_true rfl, Nat.le_of_ble_eq_true rfl⟩ (Nat.le_of_ble_eq_true rfl) (Nat.le_of_ble_eq_true rfl) (Nat.le_of_ble_eq_true rfl) (show kc + 120 + 60 ≤ 892405 ∧ ns + 4200 + 2100 ≤ 6351306 by omega) ?_
  refine jt_eqI (b := t) e3 ?_
  show J x [(7, .double (dq (r.1) (r.2))), (6, .int (t)), (5, .int (nI p)), (4, .ref (G.2.2 50)), (3, .ref (G.2.2 49)), (2, .ref (G.2.2 41)), (1, .ref (G.2.2 40)), (0, .ref b)] [.int (t)] (wsF G σ2 ++ T) 923 (kc + 180) (ns + 6300)
  refine j_iload C0 dL_law_923 1 rfl ?_
  refine j_icmp_eq C0 dL_law_925 930 (by decide) (fun _ => ?_) (fun h => absurd rfl h)
  refine j_iload C0 dL_law_930 1 rfl ?_
  refine j_if_ne C0 dL_law_932 967 (by decide) (fun h0 => ?_) (fun h0 => ?_)
  · refine j_goto C0 dL_law_967 2115 (by decide) ?_
    refine j_sub [2, 3, 4, 5, 6, 7] (lo5 G b p) rfl ?_
    exact j_widen C0 (show kc + 180 ≤ kc + 1000 by omega) (show ns + 6300 ≤ ns + 10000 by omega) (hk σ2 T (hI.to (e5.mono (Nat.le_succ B)) e6))
  · refine j_aload C0 dL_law_935 3 rfl ?_
    refine j_iconst C0 dL_law_937 ((0 : Int32)) (by decide) ?_
    refine jl_dald C0 X dL_law_938 ?_
    rw [(e4 h0).1, (e4 h0).2.1]
    refine j_dload C0 dL_law_939 0 rfl ?_
    refine j_dcmp C0 dL_law_941 ?_
    refine jt_eqI (b := (0 : Int32)) (dc_self (e4 h0).2.2 _) ?_
    refine j_if_eq C0 dL_law_942 967 (by decide) (fun _ => ?_) (fun h => absurd h (by decide))
    refine j_goto C0 dL_law_967 2115 (by decide) ?_
    refine j_sub [2, 3, 4, 5, 6, 7] (lo5 G b p) rfl ?_
    exact j_widen C0 (show kc + 180 ≤ kc + 1000 by omega) (show ns + 6300 ≤ ns + 10000 by omega) (hk σ2 T (hI.to (e5.mono (Nat.le_succ B)) e6))
set_option maxRecDepth 20000 in
set_option maxHeartbeats 2000000 in
theorem cs_14 {tab : List ExceptionTableEntry} {K : Nat → Nat} {x : Xt Tx} {G : Gt} {cB : ClassId} {b L : Nat} {xs : Nat → Int32} (C0 : Cx x code 9 RL (some .boolean) tab wsL room_1 G.1 (tys9 G cB)) (CV : Cv K x code 9 RL (some .boolean) tab wsL room_1 G.1 (tys9 G cB)) (X : Wt x G.1) (S9 : CS9 x b L xs) {B kc ns p : Nat} {σ : Mem} {T : Tx} (hI : LI K cB B σ T) (hB : B ≤ 600) (hp : p + 5 ≤ L) (hL : L ≤ 2560) (hr : kc + 1000 ≤ 892405 ∧ ns + 10000 ≤ 6351306) (hk : ∀ σ1 T1, LI K cB (B + 1) σ1 T1 → J x (lo5 G b p) [] (wsF G σ1 ++ T1) 2115 (kc + 1000) (ns + 10000)) : J x (lo5 G b p) [] (wsF G σ ++ T) 970 kc ns := by
  obtain ⟨t, σ1, r, σ2, e1, e2, e3, e4, e5, e6⟩ := join_G2 (fun _ _ h => op_minutesToAlarm (n := 2000) (n' := 2000) (by decide) (by decide) (xs (p + 1)) h) hI.1
  show J x [(5, .int (nI p)), (4, .ref (G.2.2 50)), (3, .ref (G.2.2 49)), (2, .ref (G.2.2 41)), (1, .ref (G.2.2 40)), (0, .ref b)] [] (wsF G σ ++ T) 970 (kc + 0) (ns + 0)
  refine j_aload_n C0 dL_law_970 4 rfl ?_
  refine j_aload_n C0 dL_law_971 5 rfl ?_
  refine j_iload C0 dL_law_972 0 rfl ?_
  refine j_iconst C0 dL_law_974 ((1 : Int32)) (by decide) ?_
  refine j_iadd C0 dL_law_975 ?_
  refine jt_eqI (b := nI (p + 1)) (add_nI p 1) ?_
  refine jl_sld S9 dL_law_976 (p := p + 1) (by omega) (by omega) ?_
  refine j_aload_n C0 dL_law_977 2 rfl ?_
  refine jm_callSX CV X (c_L_minutesToAlarm 2000 G σ 40 (xs (p + 1)) 49 ok40 ok49 _ _ e1) dL_law_978 (gSm9 v_401 v_402 v_297 v_403) rfl hy_L_minutesToAlarm rfl rfl ⟨Nat.le_of_ble_eq_true rfl, Nat.le_of_ble_eq_true rfl⟩ (Nat.le_of_ble_eq_true rfl) (Nat.le_of_ble_eq_true rfl) (Nat.le_of_ble_eq_true rfl) (show kc + 0 + 60 ≤ 892405 ∧ ns + 0 + 2100 ≤ 6351306 by omega) ?_
  show J x [(5, .int (nI p)), (4, .ref (G.2.2 50)), (3, .ref (G.2.2 49)), (2, .ref (G.2.2 41)), (1, .ref (G.2.2 40)), (0, .ref b)] [.int (t)] (wsF G σ1 ++ T) 981 (kc + 60) (ns + 2100)
  refine j_istore C0 dL_law_981 (by decide) [(6, .int (t)), (5, .int (nI p)), (4, .ref (G.2.2 50)), (3, .ref (G.2.2 49)), (2, .ref (G.2.2 41)), (1, .ref (G.2.2 40)), (0, .ref b)] rfl ?_
  refine j_aload_n C0 dL_law_983 4 rfl ?_
  refine j_aload_n C0 dL_law_984 6 rfl ?_
  refine j_iload C0 dL_law_985 1 rfl ?_
  refine j_iconst C0 dL_law_987 ((1 : Int32)) (by decide) ?_
  refine j_iadd C0 dL_law_988 ?_
  refine jt_eqI (b := nI (p + 1)) (add_nI p 1) ?_
  refine jl_sld S9 dL_law_989 (p := p + 1) (by omega) (by omega) ?_
  refine jm_callV CV X (c_X6_minutesToAlarm 2000 G σ1 41 (xs (p + 1)) ok41 _ _ e2) dL_law_990 (gVm9 v_404 v_405 v_406 v_219 v_407) rfl hy_X6_minutesToAlarm rfl ok41 rfl (ci := 10) rfl rfl rfl ⟨Nat.le_of_ble_eq_true rfl, Nat.le_of_ble_eq_true rfl⟩ (Nat.le_of_ble_eq_true rfl) (Nat.le_of_ble_eq_true rfl) (Nat.le_of_ble_eq_true rfl) (show kc + 60 + 60 ≤ 892405 ∧ ns + 2100 + 2100 ≤ 6351306 by omega) ?_
  show J x [(6, .int (t)), (5, .int (nI p)), (4, .ref (G.2.2 50)), (3, .ref (G.2.2 49)), (2, .ref (G.2.2 41)), (1, .ref (G.2.2 40)), (0, .ref b)] [.int (r)] (wsF G σ2 ++ T) 993 (kc + 120) (ns + 4200)
  refine j_istore C0 dL_law_993 (by decide) [(7, .int (r)), (6, .int (t)), (5, .int (nI p)), (4, .ref (G.2.2 50)), (3, .ref (G.2.2 49)), (2, .ref (G.2.2 41)), (1, .ref (G.2.2 40)), (0, .ref b)] rfl ?_
  refine j_aload_n C0 dL_law_995 5 rfl ?_
  refine jm_callV CV X (c_X6_thrown 2000 G σ2 41 ok41 _ _ rfl) dL_law_996 (gVm9 v_303 v_304 v_305 v_219 v_306) rfl hy_X6_thrown rfl ok41 rfl (ci := 10) rfl rfl rfl ⟨Nat.le_of_ble_eq_true rfl, Nat.le_of_ble_eq_true rfl⟩ (Nat.le_of_ble_eq_true rfl) (Nat.le_of_ble_eq_true rfl) (Nat.le_of_ble_eq_true rfl) (show kc + 120 + 60 ≤ 892405 ∧ ns + 4200 + 2100 ≤ 6351306 by omega) ?_
  refine jt_eqI (b := t) e3 ?_
  show J x [(7, .int (r)), (6, .int (t)), (5, .int (nI p)), (4, .ref (G.2.2 50)), (3, .ref (G.2.2 49)), (2, .ref (G.2.2 41)), (1, .ref (G.2.2 40)), (0, .ref b)] [.int (t)] (wsF G σ2 ++ T) 999 (kc + 180) (ns + 6300)
  refine j_iload C0 dL_law_999 1 rfl ?_
  refine j_icmp_eq C0 dL_law_1001 1006 (by decide) (fun _ => ?_) (fun h => absurd rfl h)
  refine j_iload C0 dL_law_1006 1 rfl ?_
  refine j_if_ne C0 dL_law_1008 1023 (by decide) (fun h0 => ?_) (fun h0 => ?_)
  · refine j_goto C0 dL_law_1023 2115 (by decide) ?_
    refine j_sub [2, 3, 4, 5, 6, 7] (lo5 G b p) rfl ?_
    exact j_widen C0 (show kc + 180 ≤ kc + 1000 by omega) (show ns + 6300 ≤ ns + 10000 by omega) (hk σ2 T (hI.to (e5.mono (Nat.le_succ B)) e6))
  · refine j_aload_n C0 dL_law_1011 4 rfl ?_
    refine j_iconst C0 dL_law_1012 ((0 : Int32)) (by decide) ?_
    refine jl_lald C0 X dL_law_1013 ?_
    rw [e4 h0]
    refine j_iload C0 dL_law_1014 0 rfl ?_
    refine j_i2l C0 dL_law_1016 ?_
    refine j_lcmp C0 dL_law_1017 ?_
    refine jt_eqI (b := (0 : Int32)) (lg_cmp_self _) ?_
    refine j_if_eq C0 dL_law_1018 1023 (by decide) (fun _ => ?_) (fun h => absurd h (by decide))
    refine j_goto C0 dL_law_1023 2115 (by decide) ?_
    refine j_sub [2, 3, 4, 5, 6, 7] (lo5 G b p) rfl ?_
    exact j_widen C0 (show kc + 180 ≤ kc + 1000 by omega) (show ns + 6300 ≤ ns + 10000 by omega) (hk σ2 T (hI.to (e5.mono (Nat.le_succ B)) e6))
set_option maxRecDepth 20000 in
set_option maxHeartbeats 2000000 in
theorem cs_15 {tab : List ExceptionTableEntry} {K : Nat → Nat} {x : Xt Tx} {G : Gt} {cB : ClassId} {b L : Nat} {xs : Nat → Int32} (C0 : Cx x code 9 RL (some .boolean) tab wsL room_1 G.1 (tys9 G cB)) (CV : Cv K x code 9 RL (some .boolean) tab wsL room_1 G.1 (tys9 G cB)) (X : Wt x G.1) (S9 : CS9 x b L xs) {B kc ns p : Nat} {σ : Mem} {T : Tx} (hI : LI K cB B σ T) (hB : B ≤ 600) (hp : p + 5 ≤ L) (hL : L ≤ 2560) (hr : kc + 1000 ≤ 892405 ∧ ns + 10000 ≤ 6351306) (hk : ∀ σ1 T1, LI K cB (B + 1) σ1 T1 → J x (lo5 G b p) [] (wsF G σ1 ++ T1) 2115 (kc + 1000) (ns + 10000)) : J x (lo5 G b p) [] (wsF G σ ++ T) 1026 kc ns := by
  obtain ⟨t, σ1, r, σ2, e1, e2, e3, e4, e5, e6⟩ := join_G2 (fun _ _ h => op_hire (n := 2000) (n' := 2000) (by decide) (xs (p + 1)) h) hI.1
  show J x [(5, .int (nI p)), (4, .ref (G.2.2 50)), (3, .ref (G.2.2 49)), (2, .ref (G.2.2 41)), (1, .ref (G.2.2 40)), (0, .ref b)] [] (wsF G σ ++ T) 1026 (kc + 0) (ns + 0)
  refine j_aload_n C0 dL_law_1026 4 rfl ?_
  refine j_aload_n C0 dL_law_1027 5 rfl ?_
  refine j_iload C0 dL_law_1028 0 rfl ?_
  refine j_iconst C0 dL_law_1030 ((1 : Int32)) (by decide) ?_
  refine j_iadd C0 dL_law_1031 ?_
  refine jt_eqI (b := nI (p + 1)) (add_nI p 1) ?_
  refine jl_sld S9 dL_law_1032 (p := p + 1) (by omega) (by omega) ?_
  refine j_aload_n C0 dL_law_1033 2 rfl ?_
  refine jm_callSX CV X (c_L_hire 2000 G σ 40 (xs (p + 1)) 49 ok40 ok49 _ _ e1) dL_law_1034 (gSm9 v_408 v_409 v_297 v_410) rfl hy_L_hire rfl rfl ⟨Nat.le_of_ble_eq_true rfl, Nat.le_of_ble_eq_true rfl⟩ (Nat.le_of_ble_eq_true rfl) (Nat.le_of_ble_eq_true rfl) (Nat.le_of_ble_eq_true rfl) (show kc + 0 + 60 ≤ 892405 ∧ ns + 0 + 2100 ≤ 6351306 by omega) ?_
  show J x [(5, .int (nI p)), (4, .ref (G.2.2 50)), (3, .ref (G.2.2 49)), (2, .ref (G.2.2 41)), (1, .ref (G.2.2 40)), (0, .ref b)] [.int (t)] (wsF G σ1 ++ T) 1037 (kc + 60) (ns + 2100)
  refine j_istore C0 dL_law_1037 (by decide) [(6, .int (t)), (5, .int (nI p)), (4, .ref (G.2.2 50)), (3, .ref (G.2.2 49)), (2, .ref (G.2.2 41)), (1, .ref (G.2.2 40)), (0, .ref b)] rfl ?_
  refine j_aload_n C0 dL_law_1039 4 rfl ?_
  refine j_aload_n C0 dL_law_1040 6 rfl ?_
  refine j_iload C0 dL_law_1041 1 rfl ?_
  refine j_iconst C0 dL_law_1043 ((1 : Int32)) (by decide) ?_
  refine j_iadd C0 dL_law_1044 ?_
  refine jt_eqI (b := nI (p + 1)) (add_nI p 1) ?_
  refine jl_sld S9 dL_law_1045 (p := p + 1) (by omega) (by omega) ?_
  refine jm_callV CV X (c_X6_hire 2000 G σ1 41 (xs (p + 1)) ok41 _ _ e2) dL_law_1046 (gVm9 v_411 v_412 v_413 v_219 v_414) rfl hy_X6_hire rfl ok41 rfl (ci := 10) rfl rfl rfl ⟨Nat.le_of_ble_eq_true rfl, Nat.le_of_ble_eq_true rfl⟩ (Nat.le_of_ble_eq_true rfl) (Nat.le_of_ble_eq_true rfl) (Nat.le_of_ble_eq_true rfl) (show kc + 60 + 60 ≤ 892405 ∧ ns + 2100 + 2100 ≤ 6351306 by omega) ?_
  show J x [(6, .int (t)), (5, .int (nI p)), (4, .ref (G.2.2 50)), (3, .ref (G.2.2 49)), (2, .ref (G.2.2 41)), (1, .ref (G.2.2 40)), (0, .ref b)] [.int (r)] (wsF G σ2 ++ T) 1049 (kc + 120) (ns + 4200)
  refine j_istore C0 dL_law_1049 (by decide) [(7, .int (r)), (6, .int (t)), (5, .int (nI p)), (4, .ref (G.2.2 50)), (3, .ref (G.2.2 49)), (2, .ref (G.2.2 41)), (1, .ref (G.2.2 40)), (0, .ref b)] rfl ?_
  refine j_aload_n C0 dL_law_1051 5 rfl ?_
  refine jm_callV CV X (c_X6_thrown 2000 G σ2 41 ok41 _ _ rfl) dL_law_1052 (gVm9 v_303 v_304 v_305 v_219 v_306) rfl hy_X6_thrown rfl ok41 rfl (ci := 10) rfl rfl rfl ⟨Nat.le_of_ble_eq_true rfl, Nat.le_of_ble_eq_true rfl⟩ (Nat.le_of_ble_eq_true rfl) (Nat.le_of_ble_eq_true rfl) (Nat.le_of_ble_eq_true rfl) (show kc + 120 + 60 ≤ 892405 ∧ ns + 4200 + 2100 ≤ 6351306 by omega) ?_
  refine jt_eqI (b := t) e3 ?_
  show J x [(7, .int (r)), (6, .int (t)), (5, .int (nI p)), (4, .ref (G.2.2 50)), (3, .ref (G.2.2 49)), (2, .ref (G.2.2 41)), (1, .ref (G.2.2 40)), (0, .ref b)] [.int (t)] (wsF G σ2 ++ T) 1055 (kc + 180) (ns + 6300)
  refine j_iload C0 dL_law_1055 1 rfl ?_
  refine j_icmp_eq C0 dL_law_1057 1062 (by decide) (fun _ => ?_) (fun h => absurd rfl h)
  refine j_iload C0 dL_law_1062 1 rfl ?_
  refine j_if_ne C0 dL_law_1064 1079 (by decide) (fun h0 => ?_) (fun h0 => ?_)
  · refine j_goto C0 dL_law_1079 2115 (by decide) ?_
    refine j_sub [2, 3, 4, 5, 6, 7] (lo5 G b p) rfl ?_
    exact j_widen C0 (show kc + 180 ≤ kc + 1000 by omega) (show ns + 6300 ≤ ns + 10000 by omega) (hk σ2 T (hI.to (e5.mono (Nat.le_succ B)) e6))
  · refine j_aload_n C0 dL_law_1067 4 rfl ?_
    refine j_iconst C0 dL_law_1068 ((0 : Int32)) (by decide) ?_
    refine jl_lald C0 X dL_law_1069 ?_
    rw [e4 h0]
    refine j_iload C0 dL_law_1070 0 rfl ?_
    refine j_i2l C0 dL_law_1072 ?_
    refine j_lcmp C0 dL_law_1073 ?_
    refine jt_eqI (b := (0 : Int32)) (lg_cmp_self _) ?_
    refine j_if_eq C0 dL_law_1074 1079 (by decide) (fun _ => ?_) (fun h => absurd h (by decide))
    refine j_goto C0 dL_law_1079 2115 (by decide) ?_
    refine j_sub [2, 3, 4, 5, 6, 7] (lo5 G b p) rfl ?_
    exact j_widen C0 (show kc + 180 ≤ kc + 1000 by omega) (show ns + 6300 ≤ ns + 10000 by omega) (hk σ2 T (hI.to (e5.mono (Nat.le_succ B)) e6))
