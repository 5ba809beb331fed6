set_option maxRecDepth 20000 in
set_option maxHeartbeats 2000000 in
theorem cs_32 {tab : List ExceptionTableEntry} {K : Nat → Nat} {x : Xt Tx} {G : Gt} {cB : ClassId} {b L : Nat} {xs : Nat → Int32} (C0 : Cx x code 9 RL (some .boolean) tab wsL room_1 G.1 (tys9 G cB)) (CV : Cv K x code 9 RL (some .boolean) tab wsL room_1 G.1 (tys9 G cB)) (X : Wt x G.1) (S9 : CS9 x b L xs) {B kc ns p : Nat} {σ : Mem} {T : Tx} (hI : LI K cB B σ T) (hB : B ≤ 600) (hp : p + 5 ≤ L) (hL : L ≤ 2560) (hr : kc + 1000 ≤ 892405 ∧ ns + 10000 ≤ 6351306) (hk : ∀ σ1 T1, LI K cB (B + 1) σ1 T1 → J x (lo5 G b p) [] (wsF G σ1 ++ T1) 2115 (kc + 1000) (ns + 10000)) : J x (lo5 G b p) [] (wsF G σ ++ T) 1806 kc ns := by
  obtain ⟨t, σ1, r, σ2, e1, e2, e3, e4, e5, e6⟩ := join_G2 (fun _ _ h => op_tripLevel (n := 2000) (n' := 2000) h) hI.1
  show J x [(5, .int (nI p)), (4, .ref (G.2.2 50)), (3, .ref (G.2.2 49)), (2, .ref (G.2.2 41)), (1, .ref (G.2.2 40)), (0, .ref b)] [] (wsF G σ ++ T) 1806 (kc + 0) (ns + 0)
  refine j_aload_n C0 dL_law_1806 4 rfl ?_
  refine j_aload_n C0 dL_law_1807 2 rfl ?_
  refine jm_callSX CV X (c_L_tripLevel 2000 G σ 40  49 ok40 ok49 _ _ e1) dL_law_1808 (gSm9 v_532 v_533 v_297 v_534) rfl hy_L_tripLevel rfl rfl ⟨Nat.le_of_ble_eq_true rfl, Nat.le_of_ble_eq_true rfl⟩ (Nat.le_of_ble_eq_true rfl) (Nat.le_of_ble_eq_true rfl) (Nat.le_of_ble_eq_true rfl) (show kc + 0 + 60 ≤ 892405 ∧ ns + 0 + 2100 ≤ 6351306 by omega) ?_
  show J x [(5, .int (nI p)), (4, .ref (G.2.2 50)), (3, .ref (G.2.2 49)), (2, .ref (G.2.2 41)), (1, .ref (G.2.2 40)), (0, .ref b)] [.int (t)] (wsF G σ1 ++ T) 1811 (kc + 60) (ns + 2100)
  refine j_istore C0 dL_law_1811 (by decide) [(6, .int (t)), (5, .int (nI p)), (4, .ref (G.2.2 50)), (3, .ref (G.2.2 49)), (2, .ref (G.2.2 41)), (1, .ref (G.2.2 40)), (0, .ref b)] rfl ?_
  refine j_aload_n C0 dL_law_1813 4 rfl ?_
  refine jm_callV CV X (c_X6_tripLevel 2000 G σ1 41  ok41 _ _ e2) dL_law_1814 (gVm9 v_535 v_536 v_537 v_219 v_538) rfl hy_X6_tripLevel rfl ok41 rfl (ci := 10) rfl rfl rfl ⟨Nat.le_of_ble_eq_true rfl, Nat.le_of_ble_eq_true rfl⟩ (Nat.le_of_ble_eq_true rfl) (Nat.le_of_ble_eq_true rfl) (Nat.le_of_ble_eq_true rfl) (show kc + 60 + 60 ≤ 892405 ∧ ns + 2100 + 2100 ≤ 6351306 by omega) ?_
  show J x [(6, .int (t)), (5, .int (nI p)), (4, .ref (G.2.2 50)), (3, .ref (G.2.2 49)), (2, .ref (G.2.2 41)), (1, .ref (G.2.2 40)), (0, .ref b)] [.int (r)] (wsF G σ2 ++ T) 1817 (kc + 120) (ns + 4200)
  refine j_istore C0 dL_law_1817 (by decide) [(7, .int (r)), (6, .int (t)), (5, .int (nI p)), (4, .ref (G.2.2 50)), (3, .ref (G.2.2 49)), (2, .ref (G.2.2 41)), (1, .ref (G.2.2 40)), (0, .ref b)] rfl ?_
  refine j_aload_n C0 dL_law_1819 5 rfl ?_
  refine jm_callV CV X (c_X6_thrown 2000 G σ2 41 ok41 _ _ rfl) dL_law_1820 (gVm9 v_303 v_304 v_305 v_219 v_306) rfl hy_X6_thrown rfl ok41 rfl (ci := 10) rfl rfl rfl ⟨Nat.le_of_ble_eq_true rfl, Nat.le_of_ble_eq_true rfl⟩ (Nat.le_of_ble_eq_true rfl) (Nat.le_of_ble_eq_true rfl) (Nat.le_of_ble_eq_true rfl) (show kc + 120 + 60 ≤ 892405 ∧ ns + 4200 + 2100 ≤ 6351306 by omega) ?_
  refine jt_eqI (b := t) e3 ?_
  show J x [(7, .int (r)), (6, .int (t)), (5, .int (nI p)), (4, .ref (G.2.2 50)), (3, .ref (G.2.2 49)), (2, .ref (G.2.2 41)), (1, .ref (G.2.2 40)), (0, .ref b)] [.int (t)] (wsF G σ2 ++ T) 1823 (kc + 180) (ns + 6300)
  refine j_iload C0 dL_law_1823 1 rfl ?_
  refine j_icmp_eq C0 dL_law_1825 1830 (by decide) (fun _ => ?_) (fun h => absurd rfl h)
  refine j_iload C0 dL_law_1830 1 rfl ?_
  refine j_if_ne C0 dL_law_1832 1847 (by decide) (fun h0 => ?_) (fun h0 => ?_)
  · refine j_goto C0 dL_law_1847 2115 (by decide) ?_
    refine j_sub [2, 3, 4, 5, 6, 7] (lo5 G b p) rfl ?_
    exact j_widen C0 (show kc + 180 ≤ kc + 1000 by omega) (show ns + 6300 ≤ ns + 10000 by omega) (hk σ2 T (hI.to (e5.mono (Nat.le_succ B)) e6))
  · refine j_aload_n C0 dL_law_1835 4 rfl ?_
    refine j_iconst C0 dL_law_1836 ((0 : Int32)) (by decide) ?_
    refine jl_lald C0 X dL_law_1837 ?_
    rw [e4 h0]
    refine j_iload C0 dL_law_1838 0 rfl ?_
    refine j_i2l C0 dL_law_1840 ?_
    refine j_lcmp C0 dL_law_1841 ?_
    refine jt_eqI (b := (0 : Int32)) (lg_cmp_self _) ?_
    refine j_if_eq C0 dL_law_1842 1847 (by decide) (fun _ => ?_) (fun h => absurd h (by decide))
    refine j_goto C0 dL_law_1847 2115 (by decide) ?_
    refine j_sub [2, 3, 4, 5, 6, 7] (lo5 G b p) rfl ?_
    exact j_widen C0 (show kc + 180 ≤ kc + 1000 by omega) (show ns + 6300 ≤ ns + 10000 by omega) (hk σ2 T (hI.to (e5.mono (Nat.le_succ B)) e6))
set_option maxRecDepth 20000 in
set_option maxHeartbeats 2000000 in
theorem cs_33 {tab : List ExceptionTableEntry} {K : Nat → Nat} {x : Xt Tx} {G : Gt} {cB : ClassId} {b L : Nat} {xs : Nat → Int32} (C0 : Cx x code 9 RL (some .boolean) tab wsL room_1 G.1 (tys9 G cB)) (CV : Cv K x code 9 RL (some .boolean) tab wsL room_1 G.1 (tys9 G cB)) (X : Wt x G.1) (S9 : CS9 x b L xs) {B kc ns p : Nat} {σ : Mem} {T : Tx} (hI : LI K cB B σ T) (hB : B ≤ 600) (hp : p + 5 ≤ L) (hL : L ≤ 2560) (hr : kc + 1000 ≤ 892405 ∧ ns + 10000 ≤ 6351306) (hk : ∀ σ1 T1, LI K cB (B + 1) σ1 T1 → J x (lo5 G b p) [] (wsF G σ1 ++ T1) 2115 (kc + 1000) (ns + 10000)) : J x (lo5 G b p) [] (wsF G σ ++ T) 1850 kc ns := by
  obtain ⟨t, σ1, r, σ2, e1, e2, e3, e4, e5, e6⟩ := join_G2 (fun _ _ h => op_tripLoad (n := 2000) (n' := 2000) h) hI.1
  show J x [(5, .int (nI p)), (4, .ref (G.2.2 50)), (3, .ref (G.2.2 49)), (2, .ref (G.2.2 41)), (1, .ref (G.2.2 40)), (0, .ref b)] [] (wsF G σ ++ T) 1850 (kc + 0) (ns + 0)
  refine j_aload_n C0 dL_law_1850 4 rfl ?_
  refine j_aload_n C0 dL_law_1851 2 rfl ?_
  refine jm_callSX CV X (c_L_tripLoad 2000 G σ 40  49 ok40 ok49 _ _ e1) dL_law_1852 (gSm9 v_539 v_540 v_297 v_541) rfl hy_L_tripLoad rfl rfl ⟨Nat.le_of_ble_eq_true rfl, Nat.le_of_ble_eq_true rfl⟩ (Nat.le_of_ble_eq_true rfl) (Nat.le_of_ble_eq_true rfl) (Nat.le_of_ble_eq_true rfl) (show kc + 0 + 60 ≤ 892405 ∧ ns + 0 + 2100 ≤ 6351306 by omega) ?_
  show J x [(5, .int (nI p)), (4, .ref (G.2.2 50)), (3, .ref (G.2.2 49)), (2, .ref (G.2.2 41)), (1, .ref (G.2.2 40)), (0, .ref b)] [.int (t)] (wsF G σ1 ++ T) 1855 (kc + 60) (ns + 2100)
  refine j_istore C0 dL_law_1855 (by decide) [(6, .int (t)), (5, .int (nI p)), (4, .ref (G.2.2 50)), (3, .ref (G.2.2 49)), (2, .ref (G.2.2 41)), (1, .ref (G.2.2 40)), (0, .ref b)] rfl ?_
  refine j_aload_n C0 dL_law_1857 4 rfl ?_
  refine jm_callV CV X (c_X6_tripLoad 2000 G σ1 41  ok41 _ _ e2) dL_law_1858 (gVm9 v_542 v_543 v_544 v_219 v_545) rfl hy_X6_tripLoad rfl ok41 rfl (ci := 10) rfl rfl rfl ⟨Nat.le_of_ble_eq_true rfl, Nat.le_of_ble_eq_true rfl⟩ (Nat.le_of_ble_eq_true rfl) (Nat.le_of_ble_eq_true rfl) (Nat.le_of_ble_eq_true rfl) (show kc + 60 + 60 ≤ 892405 ∧ ns + 2100 + 2100 ≤ 6351306 by omega) ?_
  show J x [(6, .int (t)), (5, .int (nI p)), (4, .ref (G.2.2 50)), (3, .ref (G.2.2 49)), (2, .ref (G.2.2 41)), (1, .ref (G.2.2 40)), (0, .ref b)] [.int (r)] (wsF G σ2 ++ T) 1861 (kc + 120) (ns + 4200)
  refine j_istore C0 dL_law_1861 (by decide) [(7, .int (r)), (6, .int (t)), (5, .int (nI p)), (4, .ref (G.2.2 50)), (3, .ref (G.2.2 49)), (2, .ref (G.2.2 41)), (1, .ref (G.2.2 40)), (0, .ref b)] rfl ?_
  refine j_aload_n C0 dL_law_1863 5 rfl ?_
  refine jm_callV CV X (c_X6_thrown 2000 G σ2 41 ok41 _ _ rfl) dL_law_1864 (gVm9 v_303 v_304 v_305 v_219 v_306) rfl hy_X6_thrown rfl ok41 rfl (ci := 10) rfl rfl rfl ⟨Nat.le_of_ble_eq_true rfl, Nat.le_of_ble_eq_true rfl⟩ (Nat.le_of_ble_eq_true rfl) (Nat.le_of_ble_eq_true rfl) (Nat.le_of_ble_eq_true rfl) (show kc + 120 + 60 ≤ 892405 ∧ ns + 4200 + 2100 ≤ 6351306 by omega) ?_
  refine jt_eqI (b := t) e3 ?_
  show J x [(7, .int (r)), (6, .int (t)), (5, .int (nI p)), (4, .ref (G.2.2 50)), (3, .ref (G.2.2 49)), (2, .ref (G.2.2 41)), (1, .ref (G.2.2 40)), (0, .ref b)] [.int (t)] (wsF G σ2 ++ T) 1867 (kc + 180) (ns + 6300)
  refine j_iload C0 dL_law_1867 1 rfl ?_
  refine j_icmp_eq C0 dL_law_1869 1874 (by decide) (fun _ => ?_) (fun h => absurd rfl h)
  refine j_iload C0 dL_law_1874 1 rfl ?_
  refine j_if_ne C0 dL_law_1876 1891 (by decide) (fun h0 => ?_) (fun h0 => ?_)
  · refine j_goto C0 dL_law_1891 2115 (by decide) ?_
    refine j_sub [2, 3, 4, 5, 6, 7] (lo5 G b p) rfl ?_
    exact j_widen C0 (show kc + 180 ≤ kc + 1000 by omega) (show ns + 6300 ≤ ns + 10000 by omega) (hk σ2 T (hI.to (e5.mono (Nat.le_succ B)) e6))
  · refine j_aload_n C0 dL_law_1879 4 rfl ?_
    refine j_iconst C0 dL_law_1880 ((0 : Int32)) (by decide) ?_
    refine jl_lald C0 X dL_law_1881 ?_
    rw [e4 h0]
    refine j_iload C0 dL_law_1882 0 rfl ?_
    refine j_i2l C0 dL_law_1884 ?_
    refine j_lcmp C0 dL_law_1885 ?_
    refine jt_eqI (b := (0 : Int32)) (lg_cmp_self _) ?_
    refine j_if_eq C0 dL_law_1886 1891 (by decide) (fun _ => ?_) (fun h => absurd h (by decide))
    refine j_goto C0 dL_law_1891 2115 (by decide) ?_
    refine j_sub [2, 3, 4, 5, 6, 7] (lo5 G b p) rfl ?_
    exact j_widen C0 (show kc + 180 ≤ kc + 1000 by omega) (show ns + 6300 ≤ ns + 10000 by omega) (hk σ2 T (hI.to (e5.mono (Nat.le_succ B)) e6))
set_option maxRecDepth 20000 in
set_option maxHeartbeats 2000000 in
theorem cs_34 {tab : List ExceptionTableEntry} {K : Nat → Nat} {x : Xt Tx} {G : Gt} {cB : ClassId} {b L : Nat} {xs : Nat → Int32} (C0 : Cx x code 9 RL (some .boolean) tab wsL room_1 G.1 (tys9 G cB)) (CV : Cv K x code 9 RL (some .boolean) tab wsL room_1 G.1 (tys9 G cB)) (X : Wt x G.1) (S9 : CS9 x b L xs) {B kc ns p : Nat} {σ : Mem} {T : Tx} (hI : LI K cB B σ T) (hB : B ≤ 600) (hp : p + 5 ≤ L) (hL : L ≤ 2560) (hr : kc + 1000 ≤ 892405 ∧ ns + 10000 ≤ 6351306) (hk : ∀ σ1 T1, LI K cB (B + 1) σ1 T1 → J x (lo5 G b p) [] (wsF G σ1 ++ T1) 2115 (kc + 1000) (ns + 10000)) : J x (lo5 G b p) [] (wsF G σ ++ T) 1894 kc ns := by
  obtain ⟨t, σ1, r, σ2, e1, e2, e3, e4, e5, e6⟩ := join_G2 (fun _ _ h => op_tripRest (n := 2000) (n' := 2000) h) hI.1
  show J x [(5, .int (nI p)), (4, .ref (G.2.2 50)), (3, .ref (G.2.2 49)), (2, .ref (G.2.2 41)), (1, .ref (G.2.2 40)), (0, .ref b)] [] (wsF G σ ++ T) 1894 (kc + 0) (ns + 0)
  refine j_aload_n C0 dL_law_1894 4 rfl ?_
  refine j_aload_n C0 dL_law_1895 2 rfl ?_
  refine jm_callSX CV X (c_L_tripRest 2000 G σ 40  49 ok40 ok49 _ _ e1) dL_law_1896 (gSm9 v_546 v_547 v_297 v_548) rfl hy_L_tripRest rfl rfl ⟨Nat.le_of_ble_eq_true rfl, Nat.le_of_ble_eq_true rfl⟩ (Nat.le_of_ble_eq_true rfl) (Nat.le_of_ble_eq_true rfl) (Nat.le_of_ble_eq_true rfl) (show kc + 0 + 60 ≤ 892405 ∧ ns + 0 + 2100 ≤ 6351306 by omega) ?_
  show J x [(5, .int (nI p)), (4, .ref (G.2.2 50)), (3, .ref (G.2.2 49)), (2, .ref (G.2.2 41)), (1, .ref (G.2.2 40)), (0, .ref b)] [.int (t)] (wsF G σ1 ++ T) 1899 (kc + 60) (ns + 2100)
  refine j_istore C0 dL_law_1899 (by decide) [(6, .int (t)), (5, .int (nI p)), (4, .ref (G.2.2 50)), (3, .ref (G.2.2 49)), (2, .ref (G.2.2 41)), (1, .ref (G.2.2 40)), (0, .ref b)] rfl ?_
  refine j_aload_n C0 dL_law_1901 4 rfl ?_
  refine jm_callV CV X (c_X6_tripRest 2000 G σ1 41  ok41 _ _ e2) dL_law_1902 (gVm9 v_549 v_550 v_551 v_219 v_552) rfl hy_X6_tripRest rfl ok41 rfl (ci := 10) rfl rfl rfl ⟨Nat.le_of_ble_eq_true rfl, Nat.le_of_ble_eq_true rfl⟩ (Nat.le_of_ble_eq_true rfl) (Nat.le_of_ble_eq_true rfl) (Nat.le_of_ble_eq_true rfl) (show kc + 60 + 60 ≤ 892405 ∧ ns + 2100 + 2100 ≤ 6351306 by omega) ?_
  show J x [(6, .int (t)), (5, .int (nI p)), (4, .ref (G.2.2 50)), (3, .ref (G.2.2 49)), (2, .ref (G.2.2 41)), (1, .ref (G.2.2 40)), (0, .ref b)] [.int (r)] (wsF G σ2 ++ T) 1905 (kc + 120) (ns + 4200)
  refine j_istore C0 dL_law_1905 (by decide) [(7, .int (r)), (6, .int (t)), (5, .int (nI p)), (4, .ref (G.2.2 50)), (3, .ref (G.2.2 49)), (2, .ref (G.2.2 41)), (1, .ref (G.2.2 40)), (0, .ref b)] rfl ?_
  refine j_aload_n C0 dL_law_1907 5 rfl ?_
  refine jm_callV CV X (c_X6_thrown 2000 G σ2 41 ok41 _ _ rfl) dL_law_1908 (gVm9 v_303 v_304 v_305 v_219 v_306) rfl hy_X6_thrown rfl ok41 rfl (ci := 10) rfl rfl rfl ⟨Nat.le_of_ble_eq_true rfl, Nat.le_of_ble_eq_true rfl⟩ (Nat.le_of_ble_eq_true rfl) (Nat.le_of_ble_eq_true rfl) (Nat.le_of_ble_eq_true rfl) (show kc + 120 + 60 ≤ 892405 ∧ ns + 4200 + 2100 ≤ 6351306 by omega) ?_
  refine jt_eqI (b := t) e3 ?_
  show J x [(7, .int (r)), (6, .int (t)), (5, .int (nI p)), (4, .ref (G.2.2 50)), (3, .ref (G.2.2 49)), (2, .ref (G.2.2 41)), (1, .ref (G.2.2 40)), (0, .ref b)] [.int (t)] (wsF G σ2 ++ T) 1911 (kc + 180) (ns + 6300)
  refine j_iload C0 dL_law_1911 1 rfl ?_
  refine j_icmp_eq C0 dL_law_1913 1918 (by decide) (fun _ => ?_) (fun h => absurd rfl h)
  refine j_iload C0 dL_law_1918 1 rfl ?_
  refine j_if_ne C0 dL_law_1920 1935 (by decide) (fun h0 => ?_) (fun h0 => ?_)
  · refine j_goto C0 dL_law_1935 2115 (by decide) ?_
    refine j_sub [2, 3, 4, 5, 6, 7] (lo5 G b p) rfl ?_
    exact j_widen C0 (show kc + 180 ≤ kc + 1000 by omega) (show ns + 6300 ≤ ns + 10000 by omega) (hk σ2 T (hI.to (e5.mono (Nat.le_succ B)) e6))
  · refine j_aload_n C0 dL_law_1923 4 rfl ?_
    refine j_iconst C0 dL_law_1924 ((0 : Int32)) (by decide) ?_
    refine jl_lald C0 X dL_law_1925 ?_
    rw [e4 h0]
    refine j_iload C0 dL_law_1926 0 rfl ?_
    refine j_i2l C0 dL_law_1928 ?_
    refine j_lcmp C0 dL_law_1929 ?_
    refine jt_eqI (b := (0 : Int32)) (lg_cmp_self _) ?_
    refine j_if_eq C0 dL_law_1930 1935 (by decide) (fun _ => ?_) (fun h => absurd h (by decide))
    refine j_goto C0 dL_law_1935 2115 (by decide) ?_
    refine j_sub [2, 3, 4, 5, 6, 7] (lo5 G b p) rfl ?_
    exact j_widen C0 (show kc + 180 ≤ kc + 1000 by omega) (show ns + 6300 ≤ ns + 10000 by omega) (hk σ2 T (hI.to (e5.mono (Nat.le_succ B)) e6))
set_option maxRecDepth 20000 in
set_option maxHeartbeats 2000000 in
theorem cs_35 {tab : List ExceptionTableEntry} {K : Nat → Nat} {x : Xt Tx} {G : Gt} {cB : ClassId} {b L : Nat} {xs : Nat → Int32} (C0 : Cx x code 9 RL (some .boolean) tab wsL room_1 G.1 (tys9 G cB)) (CV : Cv K x code 9 RL (some .boolean) tab wsL room_1 G.1 (tys9 G cB)) (X : Wt x G.1) (S9 : CS9 x b L xs) {B kc ns p : Nat} {σ : Mem} {T : Tx} (hI : LI K cB B σ T) (hB : B ≤ 600) (hp : p + 5 ≤ L) (hL : L ≤ 2560) (hr : kc + 1000 ≤ 892405 ∧ ns + 10000 ≤ 6351306) (hk : ∀ σ1 T1, LI K cB (B + 1) σ1 T1 → J x (lo5 G b p) [] (wsF G σ1 ++ T1) 2115 (kc + 1000) (ns + 10000)) : J x (lo5 G b p) [] (wsF G σ ++ T) 1938 kc ns := by
  obtain ⟨r, σ1, σ2, e1, e2, e3, e5, e6⟩ := join_N2 (fun _ _ h => op_cageLevel (n := 2000) (n' := 2000) h) hI.1
  show J x [(5, .int (nI p)), (4, .ref (G.2.2 50)), (3, .ref (G.2.2 49)), (2, .ref (G.2.2 41)), (1, .ref (G.2.2 40)), (0, .ref b)] [] (wsF G σ ++ T) 1938 (kc + 0) (ns + 0)
  refine j_aload_n C0 dL_law_1938 4 rfl ?_
  refine jm_callV CV X (c_X5_cageLevel 2000 G σ 40 ok40 _ _ e1) dL_law_1939 (gVm9 v_553 v_554 v_555 v_234 v_556) rfl hy_X5_cageLevel rfl ok40 rfl (ci := 9) rfl rfl rfl ⟨Nat.le_of_ble_eq_true rfl, Nat.le_of_ble_eq_true rfl⟩ (Nat.le_of_ble_eq_true rfl) (Nat.le_of_ble_eq_true rfl) (Nat.le_of_ble_eq_true rfl) (show kc + 0 + 60 ≤ 892405 ∧ ns + 0 + 2100 ≤ 6351306 by omega) ?_
  show J x [(5, .int (nI p)), (4, .ref (G.2.2 50)), (3, .ref (G.2.2 49)), (2, .ref (G.2.2 41)), (1, .ref (G.2.2 40)), (0, .ref b)] [.int (r)] (wsF G σ1 ++ T) 1942 (kc + 60) (ns + 2100)
  refine j_aload_n C0 dL_law_1942 3 rfl ?_
  refine jm_callV CV X (c_X6_cageLevel 2000 G σ1 41 ok41 _ _ e2) dL_law_1943 (gVm9 v_557 v_558 v_559 v_219 v_560) rfl hy_X6_cageLevel rfl ok41 rfl (ci := 10) rfl rfl rfl ⟨Nat.le_of_ble_eq_true rfl, Nat.le_of_ble_eq_true rfl⟩ (Nat.le_of_ble_eq_true rfl) (Nat.le_of_ble_eq_true rfl) (Nat.le_of_ble_eq_true rfl) (show kc + 60 + 60 ≤ 892405 ∧ ns + 2100 + 2100 ≤ 6351306 by omega) ?_
  show J x [(5, .int (nI p)), (4, .ref (G.2.2 50)), (3, .ref (G.2.2 49)), (2, .ref (G.2.2 41)), (1, .ref (G.2.2 40)), (0, .ref b)] [.int (r), .int (r)] (wsF G σ2 ++ T) 1946 (kc + 120) (ns + 4200)
  refine j_icmp_eq C0 dL_law_1946 2115 (by decide) (fun _ => ?_) (fun h => absurd rfl h)
  refine j_sub [0, 1, 2, 3, 4, 5] (lo5 G b p) rfl ?_
  exact j_widen C0 (show kc + 120 ≤ kc + 1000 by omega) (show ns + 4200 ≤ ns + 10000 by omega) (hk σ2 T (hI.to (e5.mono (Nat.le_succ B)) e6))
set_option maxRecDepth 20000 in
set_option maxHeartbeats 2000000 in
theorem cs_36 {tab : List ExceptionTableEntry} {K : Nat → Nat} {x : Xt Tx} {G : Gt} {cB : ClassId} {b L : Nat} {xs : Nat → Int32} (C0 : Cx x code 9 RL (some .boolean) tab wsL room_1 G.1 (tys9 G cB)) (CV : Cv K x code 9 RL (some .boolean) tab wsL room_1 G.1 (tys9 G cB)) (X : Wt x G.1) (S9 : CS9 x b L xs) {B kc ns p : Nat} {σ : Mem} {T : Tx} (hI : LI K cB B σ T) (hB : B ≤ 600) (hp : p + 5 ≤ L) (hL : L ≤ 2560) (hr : kc + 1000 ≤ 892405 ∧ ns + 10000 ≤ 6351306) (hk : ∀ σ1 T1, LI K cB (B + 1) σ1 T1 → J x (lo5 G b p) [] (wsF G σ1 ++ T1) 2115 (kc + 1000) (ns + 10000)) : J x (lo5 G b p) [] (wsF G σ ++ T) 1951 kc ns := by
  obtain ⟨r, σ1, σ2, e1, e2, e3, e5, e6⟩ := join_N2 (fun _ _ h => op_doneCount (n := 2000) (n' := 2000) h) hI.1
  show J x [(5, .int (nI p)), (4, .ref (G.2.2 50)), (3, .ref (G.2.2 49)), (2, .ref (G.2.2 41)), (1, .ref (G.2.2 40)), (0, .ref b)] [] (wsF G σ ++ T) 1951 (kc + 0) (ns + 0)
  refine j_aload_n C0 dL_law_1951 4 rfl ?_
  refine jm_callV CV X (c_X5_doneCount 2000 G σ 40 ok40 _ _ e1) dL_law_1952 (gVm9 v_561 v_562 v_563 v_234 v_564) rfl hy_X5_doneCount rfl ok40 rfl (ci := 9) rfl rfl rfl ⟨Nat.le_of_ble_eq_true rfl, Nat.le_of_ble_eq_true rfl⟩ (Nat.le_of_ble_eq_true rfl) (Nat.le_of_ble_eq_true rfl) (Nat.le_of_ble_eq_true rfl) (show kc + 0 + 60 ≤ 892405 ∧ ns + 0 + 2100 ≤ 6351306 by omega) ?_
  show J x [(5, .int (nI p)), (4, .ref (G.2.2 50)), (3, .ref (G.2.2 49)), (2, .ref (G.2.2 41)), (1, .ref (G.2.2 40)), (0, .ref b)] [.int (r)] (wsF G σ1 ++ T) 1955 (kc + 60) (ns + 2100)
  refine j_aload_n C0 dL_law_1955 3 rfl ?_
  refine jm_callV CV X (c_X6_doneCount 2000 G σ1 41 ok41 _ _ e2) dL_law_1956 (gVm9 v_565 v_566 v_567 v_219 v_568) rfl hy_X6_doneCount rfl ok41 rfl (ci := 10) rfl rfl rfl ⟨Nat.le_of_ble_eq_true rfl, Nat.le_of_ble_eq_true rfl⟩ (Nat.le_of_ble_eq_true rfl) (Nat.le_of_ble_eq_true rfl) (Nat.le_of_ble_eq_true rfl) (show kc + 60 + 60 ≤ 892405 ∧ ns + 2100 + 2100 ≤ 6351306 by omega) ?_
  show J x [(5, .int (nI p)), (4, .ref (G.2.2 50)), (3, .ref (G.2.2 49)), (2, .ref (G.2.2 41)), (1, .ref (G.2.2 40)), (0, .ref b)] [.int (r), .int (r)] (wsF G σ2 ++ T) 1959 (kc + 120) (ns + 4200)
  refine j_icmp_eq C0 dL_law_1959 2115 (by decide) (fun _ => ?_) (fun h => absurd rfl h)
  refine j_sub [0, 1, 2, 3, 4, 5] (lo5 G b p) rfl ?_
  exact j_widen C0 (show kc + 120 ≤ kc + 1000 by omega) (show ns + 4200 ≤ ns + 10000 by omega) (hk σ2 T (hI.to (e5.mono (Nat.le_succ B)) e6))
set_option maxRecDepth 20000 in
set_option maxHeartbeats 2000000 in
theorem cs_37 {tab : List ExceptionTableEntry} {K : Nat → Nat} {x : Xt Tx} {G : Gt} {cB : ClassId} {b L : Nat} {xs : Nat → Int32} (C0 : Cx x code 9 RL (some .boolean) tab wsL room_1 G.1 (tys9 G cB)) (CV : Cv K x code 9 RL (some .boolean) tab wsL room_1 G.1 (tys9 G cB)) (X : Wt x G.1) (S9 : CS9 x b L xs) {B kc ns p : Nat} {σ : Mem} {T : Tx} (hI : LI K cB B σ T) (hB : B ≤ 600) (hp : p + 5 ≤ L) (hL : L ≤ 2560) (hr : kc + 1000 ≤ 892405 ∧ ns + 10000 ≤ 6351306) (hk : ∀ σ1 T1, LI K cB (B + 1) σ1 T1 → J x (lo5 G b p) [] (wsF G σ1 ++ T1) 2115 (kc + 1000) (ns + 10000)) : J x (lo5 G b p) [] (wsF G σ ++ T) 1964 kc ns := by
  obtain ⟨r, σ1, σ2, e1, e2, e3, e5, e6⟩ := join_N2 (fun _ _ h => op_droppedCount (n := 2000) (n' := 2000) h) hI.1
  show J x [(5, .int (nI p)), (4, .ref (G.2.2 50)), (3, .ref (G.2.2 49)), (2, .ref (G.2.2 41)), (1, .ref (G.2.2 40)), (0, .ref b)] [] (wsF G σ ++ T) 1964 (kc + 0) (ns + 0)
  refine j_aload_n C0 dL_law_1964 4 rfl ?_
  refine jm_callV CV X (c_X5_droppedCount 2000 G σ 40 ok40 _ _ e1) dL_law_1965 (gVm9 v_569 v_570 v_571 v_234 v_572) rfl hy_X5_droppedCount rfl ok40 rfl (ci := 9) rfl rfl rfl ⟨Nat.le_of_ble_eq_true rfl, Nat.le_of_ble_eq_true rfl⟩ (Nat.le_of_ble_eq_true rfl) (Nat.le_of_ble_eq_true rfl) (Nat.le_of_ble_eq_true rfl) (show kc + 0 + 60 ≤ 892405 ∧ ns + 0 + 2100 ≤ 6351306 by omega) ?_
  show J x [(5, .int (nI p)), (4, .ref (G.2.2 50)), (3, .ref (G.2.2 49)), (2, .ref (G.2.2 41)), (1, .ref (G.2.2 40)), (0, .ref b)] [.int (r)] (wsF G σ1 ++ T) 1968 (kc + 60) (ns + 2100)
  refine j_aload_n C0 dL_law_1968 3 rfl ?_
  refine jm_callV CV X (c_X6_droppedCount 2000 G σ1 41 ok41 _ _ e2) dL_law_1969 (gVm9 v_573 v_574 v_575 v_219 v_576) rfl hy_X6_droppedCount rfl ok41 rfl (ci := 10) rfl rfl rfl ⟨Nat.le_of_ble_eq_true rfl, Nat.le_of_ble_eq_true rfl⟩ (Nat.le_of_ble_eq_true rfl) (Nat.le_of_ble_eq_true rfl) (Nat.le_of_ble_eq_true rfl) (show kc + 60 + 60 ≤ 892405 ∧ ns + 2100 + 2100 ≤ 6351306 by omega) ?_
  show J x [(5, .int (nI p)), (4, .ref (G.2.2 50)), (3, .ref (G.2.2 49)), (2, .ref (G.2.2 41)), (1, .ref (G.2.2 40)), (0, .ref b)] [.int (r), .int (r)] (wsF G σ2 ++ T) 1972 (kc + 120) (ns + 4200)
  refine j_icmp_eq C0 dL_law_1972 2115 (by decide) (fun _ => ?_) (fun h => absurd rfl h)
  refine j_sub [0, 1, 2, 3, 4, 5] (lo5 G b p) rfl ?_
  exact j_widen C0 (show kc + 120 ≤ kc + 1000 by omega) (show ns + 4200 ≤ ns + 10000 by omega) (hk σ2 T (hI.to (e5.mono (Nat.le_succ B)) e6))
set_option maxRecDepth 20000 in
set_option maxHeartbeats 2000000 in
theorem cs_38 {tab : List ExceptionTableEntry} {K : Nat → Nat} {x : Xt Tx} {G : Gt} {cB : ClassId} {b L : Nat} {xs : Nat → Int32} (C0 : Cx x code 9 RL (some .boolean) tab wsL room_1 G.1 (tys9 G cB)) (CV : Cv K x code 9 RL (some .boolean) tab wsL room_1 G.1 (tys9 G cB)) (X : Wt x G.1) (S9 : CS9 x b L xs) {B kc ns p : Nat} {σ : Mem} {T : Tx} (hI : LI K cB B σ T) (hB : B ≤ 600) (hp : p + 5 ≤ L) (hL : L ≤ 2560) (hr : kc + 1000 ≤ 892405 ∧ ns + 10000 ≤ 6351306) (hk : ∀ σ1 T1, LI K cB (B + 1) σ1 T1 → J x (lo5 G b p) [] (wsF G σ1 ++ T1) 2115 (kc + 1000) (ns + 10000)) : J x (lo5 G b p) [] (wsF G σ ++ T) 1977 kc ns := by
  obtain ⟨t, σ1, r, σ2, e1, e2, e3, e4, e5, e6⟩ := join_G2 (fun _ _ h => op_waitFor (n := 2000) (n' := 2000) (by decide) (by decide) (xs (p + 1)) h) hI.1
  show J x [(5, .int (nI p)), (4, .ref (G.2.2 50)), (3, .ref (G.2.2 49)), (2, .ref (G.2.2 41)), (1, .ref (G.2.2 40)), (0, .ref b)] [] (wsF G σ ++ T) 1977 (kc + 0) (ns + 0)
  refine j_aload_n C0 dL_law_1977 4 rfl ?_
  refine j_aload_n C0 dL_law_1978 5 rfl ?_
  refine j_iload C0 dL_law_1979 0 rfl ?_
  refine j_iconst C0 dL_law_1981 ((1 : Int32)) (by decide) ?_
  refine j_iadd C0 dL_law_1982 ?_
  refine jt_eqI (b := nI (p + 1)) (add_nI p 1) ?_
  refine jl_sld S9 dL_law_1983 (p := p + 1) (by omega) (by omega) ?_
  refine j_aload_n C0 dL_law_1984 2 rfl ?_
  refine jm_callSX CV X (c_L_waitFor 2000 G σ 40 (xs (p + 1)) 49 ok40 ok49 _ _ e1) dL_law_1985 (gSm9 v_577 v_578 v_297 v_579) rfl hy_L_waitFor rfl rfl ⟨Nat.le_of_ble_eq_true rfl, Nat.le_of_ble_eq_true rfl⟩ (Nat.le_of_ble_eq_true rfl) (Nat.le_of_ble_eq_true rfl) (Nat.le_of_ble_eq_true rfl) (show kc + 0 + 60 ≤ 892405 ∧ ns + 0 + 2100 ≤ 6351306 by omega) ?_
  show J x [(5, .int (nI p)), (4, .ref (G.2.2 50)), (3, .ref (G.2.2 49)), (2, .ref (G.2.2 41)), (1, .ref (G.2.2 40)), (0, .ref b)] [.int (t)] (wsF G σ1 ++ T) 1988 (kc + 60) (ns + 2100)
  refine j_istore C0 dL_law_1988 (by decide) [(6, .int (t)), (5, .int (nI p)), (4, .ref (G.2.2 50)), (3, .ref (G.2.2 49)), (2, .ref (G.2.2 41)), (1, .ref (G.2.2 40)), (0, .ref b)] rfl ?_
  refine j_aload_n C0 dL_law_1990 4 rfl ?_
  refine j_aload_n C0 dL_law_1991 6 rfl ?_
  refine j_iload C0 dL_law_1992 1 rfl ?_
  refine j_iconst C0 dL_law_1994 ((1 : Int32)) (by decide) ?_
  refine j_iadd C0 dL_law_1995 ?_
  refine jt_eqI (b := nI (p + 1)) (add_nI p 1) ?_
  refine jl_sld S9 dL_law_1996 (p := p + 1) (by omega) (by omega) ?_
  refine jm_callV CV X (c_X6_waitFor 2000 G σ1 41 (xs (p + 1)) ok41 _ _ e2) dL_law_1997 (gVm9 v_580 v_581 v_582 v_219 v_583) rfl hy_X6_waitFor rfl ok41 rfl (ci := 10) rfl rfl rfl ⟨Nat.le_of_ble_eq_true rfl, Nat.le_of_ble_eq_true rfl⟩ (Nat.le_of_ble_eq_true rfl) (Nat.le_of_ble_eq_true rfl) (Nat.le_of_ble_eq_true rfl) (show kc + 60 + 60 ≤ 892405 ∧ ns + 2100 + 2100 ≤ 6351306 by omega) ?_
  show J x [(6, .int (t)), (5, .int (nI p)), (4, .ref (G.2.2 50)), (3, .ref (G.2.2 49)), (2, .ref (G.2.2 41)), (1, .ref (G.2.2 40)), (0, .ref b)] [.int (r)] (wsF G σ2 ++ T) 2000 (kc + 120) (ns + 4200)
  refine j_istore C0 dL_law_2000 (by decide) [(7, .int (r)), (6, .int (t)), (5, .int (nI p)), (4, .ref (G.2.2 50)), (3, .ref (G.2.2 49)), (2, .ref (G.2.2 41)), (1, .ref (G.2.2 40)), (0, .ref b)] rfl ?_
  refine j_aload_n C0 dL_law_2002 5 rfl ?_
  refine jm_callV CV X (c_X6_thrown 2000 G σ2 41 ok41 _ _ rfl) dL_law_2003 (gVm9 v_303 v_304 v_305 v_219 v_306) rfl hy_X6_thrown rfl ok41 rfl (ci := 10) rfl rfl rfl ⟨Nat.le_of_ble_eq_true rfl, Nat.le_of_ble_eq_true rfl⟩ (Nat.le_of_ble_eq_true rfl) (Nat.le_of_ble_eq_true rfl) (Nat.le_of_ble_eq_true rfl) (show kc + 120 + 60 ≤ 892405 ∧ ns + 4200 + 2100 ≤ 6351306 by omega) ?_
  refine jt_eqI (b := t) e3 ?_
  show J x [(7, .int (r)), (6, .int (t)), (5, .int (nI p)), (4, .ref (G.2.2 50)), (3, .ref (G.2.2 49)), (2, .ref (G.2.2 41)), (1, .ref (G.2.2 40)), (0, .ref b)] [.int (t)] (wsF G σ2 ++ T) 2006 (kc + 180) (ns + 6300)
  refine j_iload C0 dL_law_2006 1 rfl ?_
  refine j_icmp_eq C0 dL_law_2008 2013 (by decide) (fun _ => ?_) (fun h => absurd rfl h)
  refine j_iload C0 dL_law_2013 1 rfl ?_
  refine j_if_ne C0 dL_law_2015 2030 (by decide) (fun h0 => ?_) (fun h0 => ?_)
  · refine j_goto C0 dL_law_2030 2115 (by decide) ?_
    refine j_sub [2, 3, 4, 5, 6, 7] (lo5 G b p) rfl ?_
    exact j_widen C0 (show kc + 180 ≤ kc + 1000 by omega) (show ns + 6300 ≤ ns + 10000 by omega) (hk σ2 T (hI.to (e5.mono (Nat.le_succ B)) e6))
  · refine j_aload_n C0 dL_law_2018 4 rfl ?_
    refine j_iconst C0 dL_law_2019 ((0 : Int32)) (by decide) ?_
    refine jl_lald C0 X dL_law_2020 ?_
    rw [e4 h0]
    refine j_iload C0 dL_law_2021 0 rfl ?_
    refine j_i2l C0 dL_law_2023 ?_
    refine j_lcmp C0 dL_law_2024 ?_
    refine jt_eqI (b := (0 : Int32)) (lg_cmp_self _) ?_
    refine j_if_eq C0 dL_law_2025 2030 (by decide) (fun _ => ?_) (fun h => absurd h (by decide))
    refine j_goto C0 dL_law_2030 2115 (by decide) ?_
    refine j_sub [2, 3, 4, 5, 6, 7] (lo5 G b p) rfl ?_
    exact j_widen C0 (show kc + 180 ≤ kc + 1000 by omega) (show ns + 6300 ≤ ns + 10000 by omega) (hk σ2 T (hI.to (e5.mono (Nat.le_succ B)) e6))
set_option maxRecDepth 20000 in
set_option maxHeartbeats 2000000 in
theorem cs_39 {tab : List ExceptionTableEntry} {K : Nat → Nat} {x : Xt Tx} {G : Gt} {cB : ClassId} {b L : Nat} {xs : Nat → Int32} (C0 : Cx x code 9 RL (some .boolean) tab wsL room_1 G.1 (tys9 G cB)) (CV : Cv K x code 9 RL (some .boolean) tab wsL room_1 G.1 (tys9 G cB)) (X : Wt x G.1) (S9 : CS9 x b L xs) {B kc ns p : Nat} {σ : Mem} {T : Tx} (hI : LI K cB B σ T) (hB : B ≤ 600) (hp : p + 5 ≤ L) (hL : L ≤ 2560) (hr : kc + 1000 ≤ 892405 ∧ ns + 10000 ≤ 6351306) (hk : ∀ σ1 T1, LI K cB (B + 1) σ1 T1 → J x (lo5 G b p) [] (wsF G σ1 ++ T1) 2115 (kc + 1000) (ns + 10000)) : J x (lo5 G b p) [] (wsF G σ ++ T) 2033 kc ns := by
  obtain ⟨r, σ1, σ2, e1, e2, e3, e5, e6⟩ := join_N2 (fun _ _ h => op_isConsistent (n := 2000) (n' := 2000) (by decide) h) hI.1
  show J x [(5, .int (nI p)), (4, .ref (G.2.2 50)), (3, .ref (G.2.2 49)), (2, .ref (G.2.2 41)), (1, .ref (G.2.2 40)), (0, .ref b)] [] (wsF G σ ++ T) 2033 (kc + 0) (ns + 0)
  refine j_aload_n C0 dL_law_2033 4 rfl ?_
  refine jm_callV CV X (c_X5_isConsistent 2000 G σ 40 ok40 _ _ e1) dL_law_2034 (gVm9 v_584 v_585 v_586 v_234 v_587) rfl hy_X5_isConsistent rfl ok40 rfl (ci := 9) rfl rfl rfl ⟨Nat.le_of_ble_eq_true rfl, Nat.le_of_ble_eq_true rfl⟩ (Nat.le_of_ble_eq_true rfl) (Nat.le_of_ble_eq_true rfl) (Nat.le_of_ble_eq_true rfl) (show kc + 0 + 60 ≤ 892405 ∧ ns + 0 + 2100 ≤ 6351306 by omega) ?_
  show J x [(5, .int (nI p)), (4, .ref (G.2.2 50)), (3, .ref (G.2.2 49)), (2, .ref (G.2.2 41)), (1, .ref (G.2.2 40)), (0, .ref b)] [.int (r)] (wsF G σ1 ++ T) 2037 (kc + 60) (ns + 2100)
  refine j_aload_n C0 dL_law_2037 3 rfl ?_
  refine jm_callV CV X (c_X6_isConsistent 2000 G σ1 41 ok41 _ _ e2) dL_law_2038 (gVm9 v_588 v_589 v_590 v_219 v_591) rfl hy_X6_isConsistent rfl ok41 rfl (ci := 10) rfl rfl rfl ⟨Nat.le_of_ble_eq_true rfl, Nat.le_of_ble_eq_true rfl⟩ (Nat.le_of_ble_eq_true rfl) (Nat.le_of_ble_eq_true rfl) (Nat.le_of_ble_eq_true rfl) (show kc + 60 + 60 ≤ 892405 ∧ ns + 2100 + 2100 ≤ 6351306 by omega) ?_
  show J x [(5, .int (nI p)), (4, .ref (G.2.2 50)), (3, .ref (G.2.2 49)), (2, .ref (G.2.2 41)), (1, .ref (G.2.2 40)), (0, .ref b)] [.int (r), .int (r)] (wsF G σ2 ++ T) 2041 (kc + 120) (ns + 4200)
  refine j_icmp_eq C0 dL_law_2041 2115 (by decide) (fun _ => ?_) (fun h => absurd rfl h)
  refine j_sub [0, 1, 2, 3, 4, 5] (lo5 G b p) rfl ?_
  exact j_widen C0 (show kc + 120 ≤ kc + 1000 by omega) (show ns + 4200 ≤ ns + 10000 by omega) (hk σ2 T (hI.to (e5.mono (Nat.le_succ B)) e6))
