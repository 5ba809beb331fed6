set_option maxRecDepth 40000 in
set_option maxHeartbeats 8000000 in
theorem cs_41 {tab : List ExceptionTableEntry} {K : Nat → Nat} {x : Xt Tx} {G : Gt} {cB : ClassId} {b L : Nat} {xs : Nat → Int32} (C0 : Cx x code 9 RL (some .boolean) tab wsL room_1 G.1 (tys9 G cB)) (CV : Cv K x code 9 RL (some .boolean) tab wsL room_1 G.1 (tys9 G cB)) (X : Wt x G.1) (S9 : CS9 x b L xs) {B kc ns p : Nat} {σ : Mem} {T : Tx} (hI : LI K cB B σ T) (hB : B ≤ 600) (hp : p + 5 ≤ L) (hL : L ≤ 2560) (hr : kc + 1000 ≤ 892405 ∧ ns + 10000 ≤ 6351306) (hk : ∀ σ1 T1, LI K cB (B + 1) σ1 T1 → J x (lo5 G b p) [] (wsF G σ1 ++ T1) 2115 (kc + 1000) (ns + 10000)) : J x (lo5 G b p) [] (wsF G σ ++ T) 2059 kc ns := by
  obtain ⟨hRX, t, v, z, n, f, sp, rfl, hcp, hn, hf, hT, hl, hsp⟩ := hI
  have hn9 : n ≤ 34 := by rcases hcp with e | e <;> omega
  by_cases hb : xs (p + 1) < 0 ∨ nI t.length ≤ xs (p + 1)
  · rcases hsp with ⟨s1, rfl, rfl⟩ | ⟨q, f9, rfl, hq⟩
    · show J x [(5, .int (nI p)), (4, .ref (G.2.2 50)), (3, .ref (G.2.2 49)), (2, .ref (G.2.2 41)), (1, .ref (G.2.2 40)), (0, .ref b)] [] (wsF G σ ++ [(σ.2 40 2, .inr (1, [.ref v, .int 0, .int z, .int (nI ([] : List Nat).length)])), (v, .inl (cB, n, .inl f))]) 2059 (kc + 0) (ns + 0)
      refine j_aload_n C0 dL_law_2059 4 rfl ?_
      refine j_aload_n C0 dL_law_2060 5 rfl ?_
      refine j_iload C0 dL_law_2061 0 rfl ?_
      refine j_iconst C0 dL_law_2063 ((1 : Int32)) (by decide) ?_
      refine j_iadd C0 dL_law_2064 ?_
      refine jt_eqI (b := nI (p + 1)) (add_nI p 1) ?_
      refine jl_sld S9 dL_law_2065 (p := p + 1) (by omega) (by omega) ?_
      refine j_aload_n C0 dL_law_2066 2 rfl ?_
      refine jt_callSX (wr := (([0, 1, 2, 3, 4, 5, 6, 7, 8, 9, 10, 11, 12, 13, 14, 15, 16, 17, 18, 19, 20, 21, 22, 23, 24, 25, 26, 27, 28, 29, 30, 31, 32, 33, 34, 35, 36, 37, 38, 39, 41, 42, 43, 44, 45, 46, 47, 48, 50]).map (fun i => (G.2.2 i, En G σ i)) ++ [])) CV X (t_L_lineAt_bad K G.1 (tys := tys9 G cB) (cB := cB) rfl (G.2.2 40) (G.2.2 7) (G.2.2 17) (σ.2 40 2) v z n f ([] : List Nat) (cL := G.2.1 4) (G.2.2 49) (σ.1 49) (xs (p + 1)) hb) dL_law_2067 (gSX9 v_600 v_601 v_297 v_602) rfl hy_L_lineAt rfl [40, 51, 52, 49] [0, 1, 2, 3, 4, 5, 6, 7, 8, 9, 10, 11, 12, 13, 14, 15, 16, 17, 18, 19, 20, 21, 22, 23, 24, 25, 26, 27, 28, 29, 30, 31, 32, 33, 34, 35, 36, 37, 38, 39, 41, 42, 43, 44, 45, 46, 47, 48, 50] rfl rfl (by decide) (by decide) (by decide) rfl ⟨Nat.le_of_ble_eq_true rfl, Nat.le_of_ble_eq_true rfl⟩ (Nat.le_of_ble_eq_true rfl) ⟨show kc + 0 + 1 ≤ 892405 by omega, show ns + 0 + 34 ≤ 6351306 by omega⟩ (fun v9 w9 h9 => ?_)
      obtain ⟨rfl, rfl⟩ := h9
      refine jt_pick X [0, 1, 2, 3, 4, 5, 6, 7, 8, 9, 10, 11, 12, 13, 14, 15, 16, 17, 18, 19, 20, 21, 22, 23, 24, 25, 26, 27, 28, 29, 30, 31, 32, 33, 34, 35, 36, 37, 38, 39, 49, 40, 41, 42, 43, 44, 45, 46, 47, 52, 48, 50, 51] (w' := (wsF G σ ++ [(σ.2 40 2, .inr (1, [.ref v, .int 0, .int z, .int (nI ([] : List Nat).length)])), (v, .inl (cB, n, .inl f))])) (by decide) rfl ?_
      show J x [(5, .int (nI p)), (4, .ref (G.2.2 50)), (3, .ref (G.2.2 49)), (2, .ref (G.2.2 41)), (1, .ref (G.2.2 40)), (0, .ref b)] [.int ((1 : Int32))] (wsF G σ ++ [(σ.2 40 2, .inr (1, [.ref v, .int 0, .int z, .int (nI ([] : List Nat).length)])), (v, .inl (cB, n, .inl f))]) 2070 (kc + 1) (ns + 34)
      refine j_istore C0 dL_law_2070 (by decide) [(6, .int ((1 : Int32))), (5, .int (nI p)), (4, .ref (G.2.2 50)), (3, .ref (G.2.2 49)), (2, .ref (G.2.2 41)), (1, .ref (G.2.2 40)), (0, .ref b)] rfl ?_
      refine j_aload_n C0 dL_law_2072 4 rfl ?_
      refine j_aload_n C0 dL_law_2073 6 rfl ?_
      refine j_iload C0 dL_law_2074 1 rfl ?_
      refine j_iconst C0 dL_law_2076 ((1 : Int32)) (by decide) ?_
      refine j_iadd C0 dL_law_2077 ?_
      refine jt_eqI (b := nI (p + 1)) (add_nI p 1) ?_
      refine jl_sld S9 dL_law_2078 (p := p + 1) (by omega) (by omega) ?_
      have M9 := t_X6_lineAt_lit K G.1 (tys := tys9 G cB) (G.2.2 41) (G.2.2 42) (G.2.2 43) (G.2.2 44) (G.2.2 45) (G.2.2 46) (G.2.2 47) (G.2.2 48) (σ.1 41) (xs (p + 1)) hb
      rw [← s1] at M9
      refine jt_callV (wr := (([0, 1, 2, 3, 4, 5, 6, 7, 8, 9, 10, 11, 12, 13, 14, 15, 16, 17, 18, 19, 20, 21, 22, 23, 24, 25, 26, 27, 28, 29, 30, 31, 32, 33, 34, 35, 36, 37, 38, 39, 40, 42, 43, 44, 45, 46, 47, 48, 49, 50]).map (fun i => (G.2.2 i, En G σ i)) ++ [(σ.2 40 2, .inr (1, [.ref v, .int 0, .int z, .int (nI ([] : List Nat).length)])), (v, .inl (cB, n, .inl f))])) CV X (M9) dL_law_2079 (gV9 v_603 v_604 v_605 v_219 v_606) rfl hy_X6_lineAt rfl 41 rfl rfl rfl [41] [0, 1, 2, 3, 4, 5, 6, 7, 8, 9, 10, 11, 12, 13, 14, 15, 16, 17, 18, 19, 20, 21, 22, 23, 24, 25, 26, 27, 28, 29, 30, 31, 32, 33, 34, 35, 36, 37, 38, 39, 40, 42, 43, 44, 45, 46, 47, 48, 49, 50, 51, 52] rfl rfl (by decide) (by decide) (by decide) rfl ⟨Nat.le_of_ble_eq_true rfl, Nat.le_of_ble_eq_true rfl⟩ (Nat.le_of_ble_eq_true rfl) ⟨show kc + 1 + 0 ≤ 892405 by omega, show ns + 34 + 0 ≤ 6351306 by omega⟩ (fun v9 w9 h9 => ?_)
      obtain ⟨rfl, rfl⟩ := h9
      refine jt_pick X [0, 1, 2, 3, 4, 5, 6, 7, 8, 9, 10, 11, 12, 13, 14, 15, 16, 17, 18, 19, 20, 21, 22, 23, 24, 25, 26, 27, 28, 29, 30, 31, 32, 33, 34, 35, 36, 37, 38, 39, 40, 52, 41, 42, 43, 44, 45, 46, 47, 48, 49, 50, 51] (w' := (wsF G (wi σ 41 14 1) ++ [(σ.2 40 2, .inr (1, [.ref v, .int 0, .int z, .int (nI ([] : List Nat).length)])), (v, .inl (cB, n, .inl f))])) (by decide) rfl ?_
      show J x [(6, .int ((1 : Int32))), (5, .int (nI p)), (4, .ref (G.2.2 50)), (3, .ref (G.2.2 49)), (2, .ref (G.2.2 41)), (1, .ref (G.2.2 40)), (0, .ref b)] [.int ((32 : Int32))] (wsF G (wi σ 41 14 1) ++ [(σ.2 40 2, .inr (1, [.ref v, .int 0, .int z, .int (nI ([] : List Nat).length)])), (v, .inl (cB, n, .inl f))]) 2082 (kc + 1) (ns + 34)
      refine j_istore C0 dL_law_2082 (by decide) [(7, .int ((32 : Int32))), (6, .int ((1 : Int32))), (5, .int (nI p)), (4, .ref (G.2.2 50)), (3, .ref (G.2.2 49)), (2, .ref (G.2.2 41)), (1, .ref (G.2.2 40)), (0, .ref b)] rfl ?_
      refine j_aload_n C0 dL_law_2084 5 rfl ?_
      refine jm_callV CV X (c_X6_thrown 2000 G (wi σ 41 14 1) 41 ok41 _ _ rfl) dL_law_2085 (gVm9 v_303 v_304 v_305 v_219 v_306) rfl hy_X6_thrown rfl ok41 rfl (ci := 10) rfl rfl rfl ⟨Nat.le_of_ble_eq_true rfl, Nat.le_of_ble_eq_true rfl⟩ (Nat.le_of_ble_eq_true rfl) (Nat.le_of_ble_eq_true rfl) (Nat.le_of_ble_eq_true rfl) (show kc + 1 + 60 ≤ 892405 ∧ ns + 34 + 2100 ≤ 6351306 by omega) ?_
      refine jt_eqI (b := (1 : Int32)) (wi_eq rfl rfl) ?_
      show J x [(7, .int ((32 : Int32))), (6, .int ((1 : Int32))), (5, .int (nI p)), (4, .ref (G.2.2 50)), (3, .ref (G.2.2 49)), (2, .ref (G.2.2 41)), (1, .ref (G.2.2 40)), (0, .ref b)] [.int ((1 : Int32))] (wsF G (wi σ 41 14 1) ++ [(σ.2 40 2, .inr (1, [.ref v, .int 0, .int z, .int (nI ([] : List Nat).length)])), (v, .inl (cB, n, .inl f))]) 2088 (kc + 61) (ns + 2134)
      refine j_iload C0 dL_law_2088 1 rfl ?_
      refine j_icmp_eq C0 dL_law_2090 2095 (by decide) (fun _ => ?_) (fun h => absurd rfl h)
      refine j_iload C0 dL_law_2095 1 rfl ?_
      refine j_if_ne C0 dL_law_2097 2112 (by decide) (fun _ => ?_) (fun h => absurd h (by decide))
      refine j_goto C0 dL_law_2112 2115 (by decide) ?_
      refine j_sub [2, 3, 4, 5, 6, 7] (lo5 G b p) rfl ?_
      exact j_widen C0 (show kc + 61 ≤ kc + 1000 by omega) (show ns + 2134 ≤ ns + 10000 by omega) (hk _ _ ⟨hRX.to (Nat.le_succ B) (fun a b h1 _ _ _ => wi_o (by omega)) (fun _ _ => rfl) (fun a b h1 h2 h3 _ => wi_o (by omega)), ([] : List Nat), v, z, n, f, [], rfl, hcp, hn, hf, hT, hl, Or.inl ⟨s1, rfl, rfl⟩⟩)
    · show J x [(5, .int (nI p)), (4, .ref (G.2.2 50)), (3, .ref (G.2.2 49)), (2, .ref (G.2.2 41)), (1, .ref (G.2.2 40)), (0, .ref b)] [] (wsF G σ ++ [(σ.2 40 2, .inr (1, [.ref v, .int 0, .int z, .int (nI t.length)])), (v, .inl (cB, n, .inl f)), (σ.2 41 13, .inr (0, [.ref q, .int 0, .int 0, .int 0])), (q, .inl (cB, t.length, .inl f9))]) 2059 (kc + 0) (ns + 0)
      refine j_aload_n C0 dL_law_2059 4 rfl ?_
      refine j_aload_n C0 dL_law_2060 5 rfl ?_
      refine j_iload C0 dL_law_2061 0 rfl ?_
      refine j_iconst C0 dL_law_2063 ((1 : Int32)) (by decide) ?_
      refine j_iadd C0 dL_law_2064 ?_
      refine jt_eqI (b := nI (p + 1)) (add_nI p 1) ?_
      refine jl_sld S9 dL_law_2065 (p := p + 1) (by omega) (by omega) ?_
      refine j_aload_n C0 dL_law_2066 2 rfl ?_
      refine jt_callSX (wr := (([0, 1, 2, 3, 4, 5, 6, 7, 8, 9, 10, 11, 12, 13, 14, 15, 16, 17, 18, 19, 20, 21, 22, 23, 24, 25, 26, 27, 28, 29, 30, 31, 32, 33, 34, 35, 36, 37, 38, 39, 41, 42, 43, 44, 45, 46, 47, 48, 50]).map (fun i => (G.2.2 i, En G σ i)) ++ [(σ.2 41 13, .inr (0, [.ref q, .int 0, .int 0, .int 0])), (q, .inl (cB, t.length, .inl f9))])) CV X (t_L_lineAt_bad K G.1 (tys := tys9 G cB) (cB := cB) rfl (G.2.2 40) (G.2.2 7) (G.2.2 17) (σ.2 40 2) v z n f t (cL := G.2.1 4) (G.2.2 49) (σ.1 49) (xs (p + 1)) hb) dL_law_2067 (gSX9 v_600 v_601 v_297 v_602) rfl hy_L_lineAt rfl [40, 51, 52, 49] [0, 1, 2, 3, 4, 5, 6, 7, 8, 9, 10, 11, 12, 13, 14, 15, 16, 17, 18, 19, 20, 21, 22, 23, 24, 25, 26, 27, 28, 29, 30, 31, 32, 33, 34, 35, 36, 37, 38, 39, 41, 42, 43, 44, 45, 46, 47, 48, 50, 53, 54] rfl rfl (by decide) (by decide) (by decide) rfl ⟨Nat.le_of_ble_eq_true rfl, Nat.le_of_ble_eq_true rfl⟩ (Nat.le_of_ble_eq_true rfl) ⟨show kc + 0 + 1 ≤ 892405 by omega, show ns + 0 + 34 ≤ 6351306 by omega⟩ (fun v9 w9 h9 => ?_)
      obtain ⟨rfl, rfl⟩ := h9
      refine jt_pick X [0, 1, 2, 3, 4, 5, 6, 7, 8, 9, 10, 11, 12, 13, 14, 15, 16, 17, 18, 19, 20, 21, 22, 23, 24, 25, 26, 27, 28, 29, 30, 31, 32, 33, 34, 35, 36, 37, 38, 39, 51, 40, 41, 42, 43, 44, 45, 46, 47, 54, 48, 52, 53, 49, 50] (w' := (wsF G σ ++ [(σ.2 40 2, .inr (1, [.ref v, .int 0, .int z, .int (nI t.length)])), (v, .inl (cB, n, .inl f)), (σ.2 41 13, .inr (0, [.ref q, .int 0, .int 0, .int 0])), (q, .inl (cB, t.length, .inl f9))])) (by decide) rfl ?_
      show J x [(5, .int (nI p)), (4, .ref (G.2.2 50)), (3, .ref (G.2.2 49)), (2, .ref (G.2.2 41)), (1, .ref (G.2.2 40)), (0, .ref b)] [.int ((1 : Int32))] (wsF G σ ++ [(σ.2 40 2, .inr (1, [.ref v, .int 0, .int z, .int (nI t.length)])), (v, .inl (cB, n, .inl f)), (σ.2 41 13, .inr (0, [.ref q, .int 0, .int 0, .int 0])), (q, .inl (cB, t.length, .inl f9))]) 2070 (kc + 1) (ns + 34)
      refine j_istore C0 dL_law_2070 (by decide) [(6, .int ((1 : Int32))), (5, .int (nI p)), (4, .ref (G.2.2 50)), (3, .ref (G.2.2 49)), (2, .ref (G.2.2 41)), (1, .ref (G.2.2 40)), (0, .ref b)] rfl ?_
      refine j_aload_n C0 dL_law_2072 4 rfl ?_
      refine j_aload_n C0 dL_law_2073 6 rfl ?_
      refine j_iload C0 dL_law_2074 1 rfl ?_
      refine j_iconst C0 dL_law_2076 ((1 : Int32)) (by decide) ?_
      refine j_iadd C0 dL_law_2077 ?_
      refine jt_eqI (b := nI (p + 1)) (add_nI p 1) ?_
      refine jl_sld S9 dL_law_2078 (p := p + 1) (by omega) (by omega) ?_
      refine jt_callV (wr := (([0, 1, 2, 3, 4, 5, 6, 7, 8, 9, 10, 11, 12, 13, 14, 15, 16, 17, 18, 19, 20, 21, 22, 23, 24, 25, 26, 27, 28, 29, 30, 31, 32, 33, 34, 35, 36, 37, 38, 39, 40, 42, 43, 44, 45, 46, 47, 48, 49, 50]).map (fun i => (G.2.2 i, En G σ i)) ++ [(σ.2 40 2, .inr (1, [.ref v, .int 0, .int z, .int (nI t.length)])), (v, .inl (cB, n, .inl f))])) CV X (t_X6_lineAt_bad K G.1 (tys := tys9 G cB) (cB := cB) rfl (G.2.2 41) (G.2.2 42) (G.2.2 43) (G.2.2 44) (G.2.2 45) (G.2.2 46) (G.2.2 47) (G.2.2 48) (σ.2 41 13) q (σ.1 41) f9 t (xs (p + 1)) hb (by omega)) dL_law_2079 (gV9 v_603 v_604 v_605 v_219 v_606) rfl hy_X6_lineAt rfl 41 rfl rfl rfl [41, 53, 54] [0, 1, 2, 3, 4, 5, 6, 7, 8, 9, 10, 11, 12, 13, 14, 15, 16, 17, 18, 19, 20, 21, 22, 23, 24, 25, 26, 27, 28, 29, 30, 31, 32, 33, 34, 35, 36, 37, 38, 39, 40, 42, 43, 44, 45, 46, 47, 48, 49, 50, 51, 52] rfl rfl (by decide) (by decide) (by decide) rfl ⟨Nat.le_of_ble_eq_true rfl, Nat.le_of_ble_eq_true rfl⟩ (Nat.le_of_ble_eq_true rfl) ⟨show kc + 1 + 0 ≤ 892405 by omega, show ns + 34 + 0 ≤ 6351306 by omega⟩ (fun v9 w9 h9 => ?_)
      obtain ⟨rfl, rfl⟩ := h9
      refine jt_pick X [0, 1, 2, 3, 4, 5, 6, 7, 8, 9, 10, 11, 12, 13, 14, 15, 16, 17, 18, 19, 20, 21, 22, 23, 24, 25, 26, 27, 28, 29, 30, 31, 32, 33, 34, 35, 36, 37, 38, 39, 40, 52, 41, 42, 43, 44, 45, 46, 47, 48, 49, 50, 51, 53, 54] (w' := (wsF G (wi σ 41 14 1) ++ [(σ.2 40 2, .inr (1, [.ref v, .int 0, .int z, .int (nI t.length)])), (v, .inl (cB, n, .inl f)), (σ.2 41 13, .inr (0, [.ref q, .int 0, .int 0, .int 0])), (q, .inl (cB, t.length, .inl f9))])) (by decide) rfl ?_
      show J x [(6, .int ((1 : Int32))), (5, .int (nI p)), (4, .ref (G.2.2 50)), (3, .ref (G.2.2 49)), (2, .ref (G.2.2 41)), (1, .ref (G.2.2 40)), (0, .ref b)] [.int ((32 : Int32))] (wsF G (wi σ 41 14 1) ++ [(σ.2 40 2, .inr (1, [.ref v, .int 0, .int z, .int (nI t.length)])), (v, .inl (cB, n, .inl f)), (σ.2 41 13, .inr (0, [.ref q, .int 0, .int 0, .int 0])), (q, .inl (cB, t.length, .inl f9))]) 2082 (kc + 1) (ns + 34)
      refine j_istore C0 dL_law_2082 (by decide) [(7, .int ((32 : Int32))), (6, .int ((1 : Int32))), (5, .int (nI p)), (4, .ref (G.2.2 50)), (3, .ref (G.2.2 49)), (2, .ref (G.2.2 41)), (1, .ref (G.2.2 40)), (0, .ref b)] rfl ?_
      refine j_aload_n C0 dL_law_2084 5 rfl ?_
      refine jm_callV CV X (c_X6_thrown 2000 G (wi σ 41 14 1) 41 ok41 _ _ rfl) dL_law_2085 (gVm9 v_303 v_304 v_305 v_219 v_306) rfl hy_X6_thrown rfl ok41 rfl (ci := 10) rfl rfl rfl ⟨Nat.le_of_ble_eq_true rfl, Nat.le_of_ble_eq_true rfl⟩ (Nat.le_of_ble_eq_true rfl) (Nat.le_of_ble_eq_true rfl) (Nat.le_of_ble_eq_true rfl) (show kc + 1 + 60 ≤ 892405 ∧ ns + 34 + 2100 ≤ 6351306 by omega) ?_
      refine jt_eqI (b := (1 : Int32)) (wi_eq rfl rfl) ?_
      show J x [(7, .int ((32 : Int32))), (6, .int ((1 : Int32))), (5, .int (nI p)), (4, .ref (G.2.2 50)), (3, .ref (G.2.2 49)), (2, .ref (G.2.2 41)), (1, .ref (G.2.2 40)), (0, .ref b)] [.int ((1 : Int32))] (wsF G (wi σ 41 14 1) ++ [(σ.2 40 2, .inr (1, [.ref v, .int 0, .int z, .int (nI t.length)])), (v, .inl (cB, n, .inl f)), (σ.2 41 13, .inr (0, [.ref q, .int 0, .int 0, .int 0])), (q, .inl (cB, t.length, .inl f9))]) 2088 (kc + 61) (ns + 2134)
      refine j_iload C0 dL_law_2088 1 rfl ?_
      refine j_icmp_eq C0 dL_law_2090 2095 (by decide) (fun _ => ?_) (fun h => absurd rfl h)
      refine j_iload C0 dL_law_2095 1 rfl ?_
      refine j_if_ne C0 dL_law_2097 2112 (by decide) (fun _ => ?_) (fun h => absurd h (by decide))
      refine j_goto C0 dL_law_2112 2115 (by decide) ?_
      refine j_sub [2, 3, 4, 5, 6, 7] (lo5 G b p) rfl ?_
      exact j_widen C0 (show kc + 61 ≤ kc + 1000 by omega) (show ns + 2134 ≤ ns + 10000 by omega) (hk _ _ ⟨hRX.to (Nat.le_succ B) (fun a b h1 _ _ _ => wi_o (by omega)) (fun _ _ => rfl) (fun a b h1 h2 h3 _ => wi_o (by omega)), t, v, z, n, f, [(σ.2 41 13, .inr (0, [.ref q, .int 0, .int 0, .int 0])), (q, .inl (cB, t.length, .inl f9))], rfl, hcp, hn, hf, hT, hl, Or.inr ⟨q, f9, rfl, hq⟩⟩)
  · obtain ⟨j, hj, hij⟩ : ∃ j, j < t.length ∧ xs (p + 1) = nI j := by
      obtain ⟨j, hj, e⟩ := nI_of (x := xs (p + 1)) (fun h => hb (Or.inl h))
      refine ⟨j, ?_, e⟩
      refine Nat.not_le.mp (fun h => hb (Or.inr ?_))
      rw [e]
      exact (nI_leI (by omega) hj).mpr h
    rcases hsp with ⟨s1, rfl, rfl⟩ | ⟨q, f9, rfl, hq⟩
    · exact absurd hj (Nat.not_lt_zero j)
    · show J x [(5, .int (nI p)), (4, .ref (G.2.2 50)), (3, .ref (G.2.2 49)), (2, .ref (G.2.2 41)), (1, .ref (G.2.2 40)), (0, .ref b)] [] (wsF G σ ++ [(σ.2 40 2, .inr (1, [.ref v, .int 0, .int z, .int (nI t.length)])), (v, .inl (cB, n, .inl f)), (σ.2 41 13, .inr (0, [.ref q, .int 0, .int 0, .int 0])), (q, .inl (cB, t.length, .inl f9))]) 2059 (kc + 0) (ns + 0)
      refine j_aload_n C0 dL_law_2059 4 rfl ?_
      refine j_aload_n C0 dL_law_2060 5 rfl ?_
      refine j_iload C0 dL_law_2061 0 rfl ?_
      refine j_iconst C0 dL_law_2063 ((1 : Int32)) (by decide) ?_
      refine j_iadd C0 dL_law_2064 ?_
      refine jt_eqI (b := nI (p + 1)) (add_nI p 1) ?_
      refine jl_sld S9 dL_law_2065 (p := p + 1) (by omega) (by omega) ?_
      refine jt_eqI (b := nI j) hij ?_
      refine j_aload_n C0 dL_law_2066 2 rfl ?_
      refine jt_callSX (wr := (([0, 1, 2, 3, 4, 5, 6, 7, 8, 9, 10, 11, 12, 13, 14, 15, 16, 17, 18, 19, 20, 21, 22, 23, 24, 25, 26, 27, 28, 29, 30, 31, 32, 33, 34, 35, 36, 37, 38, 39, 41, 42, 43, 44, 45, 46, 47, 48, 50]).map (fun i => (G.2.2 i, En G σ i)) ++ [(σ.2 41 13, .inr (0, [.ref q, .int 0, .int 0, .int 0])), (q, .inl (cB, t.length, .inl f9))])) CV X (t_L_lineAt_ok K G.1 (tys := tys9 G cB) (cB := cB) rfl (G.2.2 40) (G.2.2 7) (G.2.2 17) (σ.2 40 2) v z n f t (cL := G.2.1 4) (t3 := 5) rfl (G.2.2 49) (σ.1 49) j hcp hn hT hl hj) dL_law_2067 (gSX9 v_600 v_601 v_297 v_602) rfl hy_L_lineAt rfl [40, 51, 52, 49] [0, 1, 2, 3, 4, 5, 6, 7, 8, 9, 10, 11, 12, 13, 14, 15, 16, 17, 18, 19, 20, 21, 22, 23, 24, 25, 26, 27, 28, 29, 30, 31, 32, 33, 34, 35, 36, 37, 38, 39, 41, 42, 43, 44, 45, 46, 47, 48, 50, 53, 54] rfl rfl (by decide) (by decide) (by decide) rfl ⟨Nat.le_of_ble_eq_true rfl, Nat.le_of_ble_eq_true rfl⟩ (Nat.le_of_ble_eq_true rfl) ⟨show kc + 0 + 0 ≤ 892405 by omega, show ns + 0 + 0 ≤ 6351306 by omega⟩ (fun v9 w9 h9 => ?_)
      obtain ⟨rfl, rfl⟩ := h9
      refine jt_pick X [0, 1, 2, 3, 4, 5, 6, 7, 8, 9, 10, 11, 12, 13, 14, 15, 16, 17, 18, 19, 20, 21, 22, 23, 24, 25, 26, 27, 28, 29, 30, 31, 32, 33, 34, 35, 36, 37, 38, 39, 51, 40, 41, 42, 43, 44, 45, 46, 47, 54, 48, 52, 53, 49, 50] (w' := (wsF G (wi σ 49 0 (nI (t.getD j 0))) ++ [(σ.2 40 2, .inr (1, [.ref v, .int 0, .int z, .int (nI t.length)])), (v, .inl (cB, n, .inl f)), (σ.2 41 13, .inr (0, [.ref q, .int 0, .int 0, .int 0])), (q, .inl (cB, t.length, .inl f9))])) (by decide) rfl ?_
      show J x [(5, .int (nI p)), (4, .ref (G.2.2 50)), (3, .ref (G.2.2 49)), (2, .ref (G.2.2 41)), (1, .ref (G.2.2 40)), (0, .ref b)] [.int ((0 : Int32))] (wsF G (wi σ 49 0 (nI (t.getD j 0))) ++ [(σ.2 40 2, .inr (1, [.ref v, .int 0, .int z, .int (nI t.length)])), (v, .inl (cB, n, .inl f)), (σ.2 41 13, .inr (0, [.ref q, .int 0, .int 0, .int 0])), (q, .inl (cB, t.length, .inl f9))]) 2070 (kc + 0) (ns + 0)
      refine j_istore C0 dL_law_2070 (by decide) [(6, .int ((0 : Int32))), (5, .int (nI p)), (4, .ref (G.2.2 50)), (3, .ref (G.2.2 49)), (2, .ref (G.2.2 41)), (1, .ref (G.2.2 40)), (0, .ref b)] rfl ?_
      refine j_aload_n C0 dL_law_2072 4 rfl ?_
      refine j_aload_n C0 dL_law_2073 6 rfl ?_
      refine j_iload C0 dL_law_2074 1 rfl ?_
      refine j_iconst C0 dL_law_2076 ((1 : Int32)) (by decide) ?_
      refine j_iadd C0 dL_law_2077 ?_
      refine jt_eqI (b := nI (p + 1)) (add_nI p 1) ?_
      refine jl_sld S9 dL_law_2078 (p := p + 1) (by omega) (by omega) ?_
      refine jt_eqI (b := nI j) hij ?_
      refine jt_callV (wr := (([0, 1, 2, 3, 4, 5, 6, 7, 8, 9, 10, 11, 12, 13, 14, 15, 16, 17, 18, 19, 20, 21, 22, 23, 24, 25, 26, 27, 28, 29, 30, 31, 32, 33, 34, 35, 36, 37, 38, 39, 40, 42, 43, 44, 45, 46, 47, 48, 49, 50]).map (fun i => (G.2.2 i, En G (wi σ 49 0 (nI (t.getD j 0))) i)) ++ [(σ.2 40 2, .inr (1, [.ref v, .int 0, .int z, .int (nI t.length)])), (v, .inl (cB, n, .inl f))])) CV X (t_X6_lineAt_ok K G.1 (tys := tys9 G cB) (cB := cB) rfl (G.2.2 41) (G.2.2 42) (G.2.2 43) (G.2.2 44) (G.2.2 45) (G.2.2 46) (G.2.2 47) (G.2.2 48) (σ.2 41 13) q (σ.1 41) f9 t j hq hl hj (by omega)) dL_law_2079 (gV9 v_603 v_604 v_605 v_219 v_606) rfl hy_X6_lineAt rfl 41 rfl rfl rfl [41, 53, 54] [0, 1, 2, 3, 4, 5, 6, 7, 8, 9, 10, 11, 12, 13, 14, 15, 16, 17, 18, 19, 20, 21, 22, 23, 24, 25, 26, 27, 28, 29, 30, 31, 32, 33, 34, 35, 36, 37, 38, 39, 40, 42, 43, 44, 45, 46, 47, 48, 49, 50, 51, 52] rfl rfl (by decide) (by decide) (by decide) rfl ⟨Nat.le_of_ble_eq_true rfl, Nat.le_of_ble_eq_true rfl⟩ (Nat.le_of_ble_eq_true rfl) ⟨show kc + 0 + 0 ≤ 892405 by omega, show ns + 0 + 0 ≤ 6351306 by omega⟩ (fun v9 w9 h9 => ?_)
      obtain ⟨rfl, rfl⟩ := h9
      refine jt_pick X [0, 1, 2, 3, 4, 5, 6, 7, 8, 9, 10, 11, 12, 13, 14, 15, 16, 17, 18, 19, 20, 21, 22, 23, 24, 25, 26, 27, 28, 29, 30, 31, 32, 33, 34, 35, 36, 37, 38, 39, 40, 52, 41, 42, 43, 44, 45, 46, 47, 48, 49, 50, 51, 53, 54] (w' := (wsF G (wi (wi σ 49 0 (nI (t.getD j 0))) 41 14 0) ++ [(σ.2 40 2, .inr (1, [.ref v, .int 0, .int z, .int (nI t.length)])), (v, .inl (cB, n, .inl f)), (σ.2 41 13, .inr (0, [.ref q, .int 0, .int 0, .int 0])), (q, .inl (cB, t.length, .inl f9))])) (by decide) rfl ?_
      show J x [(6, .int ((0 : Int32))), (5, .int (nI p)), (4, .ref (G.2.2 50)), (3, .ref (G.2.2 49)), (2, .ref (G.2.2 41)), (1, .ref (G.2.2 40)), (0, .ref b)] [.int (nI (t.getD j 0))] (wsF G (wi (wi σ 49 0 (nI (t.getD j 0))) 41 14 0) ++ [(σ.2 40 2, .inr (1, [.ref v, .int 0, .int z, .int (nI t.length)])), (v, .inl (cB, n, .inl f)), (σ.2 41 13, .inr (0, [.ref q, .int 0, .int 0, .int 0])), (q, .inl (cB, t.length, .inl f9))]) 2082 (kc + 0) (ns + 0)
      refine j_istore C0 dL_law_2082 (by decide) [(7, .int (nI (t.getD j 0))), (6, .int ((0 : Int32))), (5, .int (nI p)), (4, .ref (G.2.2 50)), (3, .ref (G.2.2 49)), (2, .ref (G.2.2 41)), (1, .ref (G.2.2 40)), (0, .ref b)] rfl ?_
      refine j_aload_n C0 dL_law_2084 5 rfl ?_
      refine jm_callV CV X (c_X6_thrown 2000 G (wi (wi σ 49 0 (nI (t.getD j 0))) 41 14 0) 41 ok41 _ _ rfl) dL_law_2085 (gVm9 v_303 v_304 v_305 v_219 v_306) rfl hy_X6_thrown rfl ok41 rfl (ci := 10) rfl rfl rfl ⟨Nat.le_of_ble_eq_true rfl, Nat.le_of_ble_eq_true rfl⟩ (Nat.le_of_ble_eq_true rfl) (Nat.le_of_ble_eq_true rfl) (Nat.le_of_ble_eq_true rfl) (show kc + 0 + 60 ≤ 892405 ∧ ns + 0 + 2100 ≤ 6351306 by omega) ?_
      refine jt_eqI (b := (0 : Int32)) (wi_eq rfl rfl) ?_
      show J x [(7, .int (nI (t.getD j 0))), (6, .int ((0 : Int32))), (5, .int (nI p)), (4, .ref (G.2.2 50)), (3, .ref (G.2.2 49)), (2, .ref (G.2.2 41)), (1, .ref (G.2.2 40)), (0, .ref b)] [.int ((0 : Int32))] (wsF G (wi (wi σ 49 0 (nI (t.getD j 0))) 41 14 0) ++ [(σ.2 40 2, .inr (1, [.ref v, .int 0, .int z, .int (nI t.length)])), (v, .inl (cB, n, .inl f)), (σ.2 41 13, .inr (0, [.ref q, .int 0, .int 0, .int 0])), (q, .inl (cB, t.length, .inl f9))]) 2088 (kc + 60) (ns + 2100)
      refine j_iload C0 dL_law_2088 1 rfl ?_
      refine j_icmp_eq C0 dL_law_2090 2095 (by decide) (fun _ => ?_) (fun h => absurd rfl h)
      refine j_iload C0 dL_law_2095 1 rfl ?_
      refine j_if_ne C0 dL_law_2097 2112 (by decide) (fun h => absurd h (by decide)) (fun _ => ?_)
      refine j_aload_n C0 dL_law_2100 4 rfl ?_
      refine j_iconst C0 dL_law_2101 ((0 : Int32)) (by decide) ?_
      refine jl_lald C0 X dL_law_2102 ?_
      rw [(show (wi (wi σ 49 0 (nI (t.getD j 0))) 41 14 0).1 49 0 = nI (t.getD j 0) from (wi_o (by omega)).trans (wi_eq rfl rfl))]
      refine j_iload C0 dL_law_2103 0 rfl ?_
      refine j_i2l C0 dL_law_2105 ?_
      refine j_lcmp C0 dL_law_2106 ?_
      refine jt_eqI (b := (0 : Int32)) (lg_cmp_self _) ?_
      refine j_if_eq C0 dL_law_2107 2112 (by decide) (fun _ => ?_) (fun h => absurd h (by decide))
      refine j_goto C0 dL_law_2112 2115 (by decide) ?_
      refine j_sub [2, 3, 4, 5, 6, 7] (lo5 G b p) rfl ?_
      exact j_widen C0 (show kc + 60 ≤ kc + 1000 by omega) (show ns + 2100 ≤ ns + 10000 by omega) (hk _ _ ⟨hRX.to (Nat.le_succ B) (fun a b h1 _ _ _ => (wi_o (by omega)).trans (wi_o (by omega))) (fun _ _ => rfl) (fun a b h1 h2 h3 _ => (wi_o (by omega)).trans (wi_o (by omega))), t, v, z, n, f, [(σ.2 41 13, .inr (0, [.ref q, .int 0, .int 0, .int 0])), (q, .inl (cB, t.length, .inl f9))], rfl, hcp, hn, hf, hT, hl, Or.inr ⟨q, f9, rfl, hq⟩⟩)
