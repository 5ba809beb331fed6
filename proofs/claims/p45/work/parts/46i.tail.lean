theorem gSX9 {c0 : Cond} {own : String} {idx mL : Nat} {y : MethodName} {b : ByteArray} {ret : Option FieldType} {hh : List (Nat × Nat × Nat × Nat)} (h1 : Cond.methodLink own idx y ∈ wsT) (h2 : Cond.static y ∈ wsT) (h4 : Cond.initialized y.cls ∈ wsT) (h5 : Cond.codeWith y b mL ret hh ∈ wsT) : GoodIn (c0 :: wsT) (va_wsS own idx y (Cond.codeWith y b mL ret hh :: wsT)) := gT9 (gC9 (L := [.methodLink own idx y, .static y, .initialized y.cls]) (m3_ h1 h2 h4) h5)
theorem wlen_4 (k : Int32) : 2 ≤ (litL (wl k)).length ∧ (k = 45 → 4 ≤ (litL (wl k)).length) := by
  unfold wl
  split
  · exact ⟨by decide, fun e => by decide⟩
  · split
    · exact ⟨by decide, fun e => by decide⟩
    · split
      · exact ⟨by decide, fun e => absurd e (by rename_i h; rw [h]; decide)⟩
      · split
        · exact ⟨by decide, fun e => absurd e (by rename_i h; rw [h]; decide)⟩
        · exact ⟨by decide, fun e => by decide⟩
theorem tripT_4 (k : Int32) (y l z : Nat) : 4 ≤ (tripT k y l z).length := by
  obtain ⟨h1, h2⟩ := wlen_4 k
  unfold tripT
  split
  · rename_i e
    rw [List.nil_append]
    exact h2 e
  · have h6 : (litL 6).length = 3 := by decide
    simp only [List.nil_append, List.length_append, List.length_singleton, h6]
    omega
theorem wlen_33 (k : Int32) : ∃ c r, litL (wl k) = c :: r ∧ c ≠ 33 ∧ c < 1000 := by
  unfold wl
  split
  · exact ⟨_, _, rfl, by decide, by decide⟩
  · split
    · exact ⟨_, _, rfl, by decide, by decide⟩
    · split
      · exact ⟨_, _, rfl, by decide, by decide⟩
      · split
        · exact ⟨_, _, rfl, by decide, by decide⟩
        · exact ⟨_, _, rfl, by decide, by decide⟩
theorem tripT_33 (k : Int32) (y l z : Nat) : ¬ nI ((tripT k y l z).getD 0 0) = 33 := by
  obtain ⟨c, r, h1, h2, h3⟩ := wlen_33 k
  have e : (tripT k y l z).getD 0 0 = c := by
    unfold tripT
    rw [h1]
    split <;> rfl
  rw [e]
  intro q
  exact h2 ((eq_nI (b := 33) (by omega) (by omega)).mp q)
set_option maxRecDepth 40000 in
set_option maxHeartbeats 16000000 in
theorem law_tail (n : Nat) {K : Nat → Nat} {x : Xt Tx} {G : Gt} {cB : ClassId} {tab : List ExceptionTableEntry} (C : Cx x code 17 RL (some .boolean) tab wsL room_1 G.1 (tys9 G cB)) (CV : Cv K x code 17 RL (some .boolean) tab wsL room_1 G.1 (tys9 G cB)) (X : Wt x G.1) (σ : Mem) (r : Int64) (hs : sp_L_sum n σ 40 = some (r, σ)) {v y l zz : Nat} {f : Nat → Int32} (hcp : cp 16) (hf : fitB f) (hyz : ¬ σ.1 8 0 = 45 → σ.1 8 1 = nI l ∧ σ.1 8 2 = nI y ∧ σ.1 8 3 = nI zz) (hy : y ≤ 20) (hl6 : l ≤ 6) (hz : zz ≤ 10000) (HR : ∀ lo w kc ns, kc ≤ 612008 → ns ≤ 7258737 → J x lo [.int 1] w 1255 kc ns) (kc ns : Nat) (hk : kc + 2000 ≤ 612008) (hn : ns + 12000 ≤ 7258737) : J x [(1, .ref (G.2.2 40)), (5, .long r)] [] (wsF G σ ++ [(σ.2 40 2, .inr (1, [.ref v, .int 0, .int 0, .int 0])), (v, .inl (cB, 16, .inl f))]) 1190 kc ns := by
  show J x [(1, .ref (G.2.2 40)), (5, .long r)] [] (wsF G σ ++ [(σ.2 40 2, .inr (1, [.ref v, .int 0, .int 0, .int (nI ([] : List Nat).length)])), (v, .inl (cB, 16, .inl f))]) 1190 (kc + 0) (ns + 0)
  refine j_aload_n C dL_law_1190 0 rfl ?_
  refine j_iconst C dL_law_1191 ((0 : Int32)) (by decide) ?_
  refine jt_callSX (wr := ((([0, 1, 2, 3, 4, 5, 6, 7, 8, 9, 10, 11, 12, 13, 14, 15, 16, 17, 18, 19, 20, 21, 22, 23, 24, 25, 26, 27, 28, 29, 30, 31, 32, 33, 34, 35, 36, 37, 38, 39]).map (fun i => (G.2.2 i, En G σ i))) ++ [])) CV X (t_L_line_bad K G.1 (tys := tys9 G cB) (cB := cB) rfl (G.2.2 40) (G.2.2 7) (G.2.2 17) (σ.2 40 2) v 0 16 f [] 0 (Or.inr (by decide))) dL_law_1192 (gSX9 v_298 v_299 v_232 v_300) rfl hy_L_line rfl [40, 41, 42] [0, 1, 2, 3, 4, 5, 6, 7, 8, 9, 10, 11, 12, 13, 14, 15, 16, 17, 18, 19, 20, 21, 22, 23, 24, 25, 26, 27, 28, 29, 30, 31, 32, 33, 34, 35, 36, 37, 38, 39] rfl rfl (by decide) (by decide) (by decide) rfl ⟨Nat.le_of_ble_eq_true rfl, Nat.le_of_ble_eq_true rfl⟩ (Nat.le_of_ble_eq_true rfl) ⟨show kc + 0 + 1 ≤ 612008 by omega, show ns + 0 + 34 ≤ 7258737 by omega⟩ (fun v9 w9 h9 => ?_)
  obtain ⟨rfl, rfl⟩ := h9
  refine jt_pick X [0, 1, 2, 3, 4, 5, 6, 7, 8, 9, 10, 11, 12, 13, 14, 15, 16, 17, 18, 19, 20, 21, 22, 23, 24, 25, 26, 27, 28, 29, 30, 31, 32, 33, 34, 35, 36, 37, 38, 39, 40, 41, 42] (w' := (wsF G σ ++ [(σ.2 40 2, .inr (1, [.ref v, .int 0, .int 0, .int (nI ([] : List Nat).length)])), (v, .inl (cB, 16, .inl f))])) (by decide) rfl ?_
  show J x [(1, .ref (G.2.2 40)), (5, .long r)] [.int (33)] (wsF G σ ++ [(σ.2 40 2, .inr (1, [.ref v, .int 0, .int 0, .int (nI ([] : List Nat).length)])), (v, .inl (cB, 16, .inl f))]) 1195 (kc + 1) (ns + 34)
  refine j_bipush C dL_law_1195 ((33 : Int32)) (by decide) ?_
  refine j_icmp_eq C dL_law_1197 1202 (by decide) (fun _ => ?_) (fun c => absurd rfl c)
  refine j_aload_n C dL_law_1202 0 rfl ?_
  refine jm_callS CV X (N1 := 133) (N2 := 798) (c_L_sum n G σ 40 ok40 _ _ hs) dL_law_1203 (gSc9 v_240 v_242 v_232 v_241) rfl hy_L_sum rfl rfl ⟨Nat.le_of_ble_eq_true rfl, Nat.le_of_ble_eq_true rfl⟩ (Nat.le_of_ble_eq_true rfl) (Nat.le_of_ble_eq_true rfl) (Nat.le_of_ble_eq_true rfl) (show kc + 1 + 133 ≤ 612008 ∧ ns + 34 + 798 ≤ 7258737 by omega) ?_
  refine j_lload C dL_law_1206 1 rfl ?_
  refine j_lcmp C dL_law_1208 ?_
  refine j_if_ne C dL_law_1209 1254 (by decide) (fun c => absurd (lg_cmp_self r) c) (fun _ => ?_)
  show J x [(1, .ref (G.2.2 40)), (5, .long r)] [] (wsF G σ ++ [(σ.2 40 2, .inr (1, [.ref v, .int 0, .int 0, .int (nI ([] : List Nat).length)])), (v, .inl (cB, 16, .inl f))]) 1212 (kc + 134) (ns + 832)
  refine j_aload_n C dL_law_1212 0 rfl ?_
  refine jt_callV (wr := ((([0, 1, 2, 3, 4, 5, 6, 9, 10, 11, 12, 13, 14, 15, 16, 17, 18, 19, 20, 21, 22, 23, 24, 25, 26, 27, 28, 29, 30, 31, 32, 33, 34, 35, 36, 37, 38, 39]).map (fun i => (G.2.2 i, En G σ i))) ++ [])) CV X (t_X5_writeTrip K G.1 (tys := tys9 G cB) (cB := cB) rfl (G.2.2 40) (G.2.2 7) (G.2.2 17) (σ.2 40 2) (G.2.2 0) (G.2.2 36) (G.2.2 9) (G.2.2 8) v (σ.1 7) (σ.1 8) 0 ([] : List Nat).length 16 f y l zz hcp hf (by decide) (fun h => (hyz h).1) (fun h => (hyz h).2.1) (fun h => (hyz h).2.2) hy hl6 hz) dL_law_1213 (gV9 v_301 v_302 v_303 v_170 v_304) rfl hy_X5_writeTrip rfl 40 rfl rfl rfl [40, 7, 8, 41, 42] [0, 1, 2, 3, 4, 5, 6, 9, 10, 11, 12, 13, 14, 15, 16, 17, 18, 19, 20, 21, 22, 23, 24, 25, 26, 27, 28, 29, 30, 31, 32, 33, 34, 35, 36, 37, 38, 39] rfl rfl (by decide) (by decide) (by decide) rfl ⟨Nat.le_of_ble_eq_true rfl, Nat.le_of_ble_eq_true rfl⟩ (Nat.le_of_ble_eq_true rfl) ⟨show kc + 134 + 9 ≤ 612008 by omega, show ns + 832 + 306 ≤ 7258737 by omega⟩ (fun v9 w9 h9 => ?_)
  obtain ⟨rfl, v2, z2, n2, f2, rfl, hcp2, hn2, hf2, hT2⟩ := h9
  refine jt_pick X [0, 1, 2, 3, 4, 5, 6, 39, 40, 7, 8, 9, 10, 11, 12, 13, 14, 15, 16, 17, 18, 19, 20, 21, 22, 23, 24, 25, 26, 27, 28, 29, 30, 31, 32, 33, 34, 35, 36, 37, 38, 41, 42] (w' := (wsF G σ ++ [(σ.2 40 2, .inr (1, [.ref v2, .int 0, .int z2, .int (nI (tripT (σ.1 8 0) y l zz).length)])), (v2, .inl (cB, n2, .inl f2))])) (by decide) rfl ?_
  show J x [(1, .ref (G.2.2 40)), (5, .long r)] [.int (nI (tripT (σ.1 8 0) y l zz).length)] (wsF G σ ++ [(σ.2 40 2, .inr (1, [.ref v2, .int 0, .int z2, .int (nI (tripT (σ.1 8 0) y l zz).length)])), (v2, .inl (cB, n2, .inl f2))]) 1216 (kc + 143) (ns + 1138)
  have h4 := tripT_4 (σ.1 8 0) y l zz
  have h34 := tripT_len (σ.1 8 0) (z := zz) hy hl6
  refine j_iconst C dL_law_1216 ((4 : Int32)) (by decide) ?_
  refine j_icmp_lt C dL_law_1217 1254 (by decide) (fun c => absurd ((lt_nI (b := 4) (by omega) (by omega)).mp c) (by omega)) (fun _ => ?_)
  refine j_aload_n C dL_law_1220 0 rfl ?_
  refine j_iconst C dL_law_1221 ((-1 : Int32)) (by decide) ?_
  refine jt_callSX (wr := ((([0, 1, 2, 3, 4, 5, 6, 7, 8, 9, 10, 11, 12, 13, 14, 15, 16, 17, 18, 19, 20, 21, 22, 23, 24, 25, 26, 27, 28, 29, 30, 31, 32, 33, 34, 35, 36, 37, 38, 39]).map (fun i => (G.2.2 i, En G σ i))) ++ [])) CV X (t_L_line_bad K G.1 (tys := tys9 G cB) (cB := cB) rfl (G.2.2 40) (G.2.2 7) (G.2.2 17) (σ.2 40 2) v2 z2 n2 f2 (tripT (σ.1 8 0) y l zz) (-1) (Or.inl (by decide))) dL_law_1222 (gSX9 v_298 v_299 v_232 v_300) rfl hy_L_line rfl [40, 41, 42] [0, 1, 2, 3, 4, 5, 6, 7, 8, 9, 10, 11, 12, 13, 14, 15, 16, 17, 18, 19, 20, 21, 22, 23, 24, 25, 26, 27, 28, 29, 30, 31, 32, 33, 34, 35, 36, 37, 38, 39] rfl rfl (by decide) (by decide) (by decide) rfl ⟨Nat.le_of_ble_eq_true rfl, Nat.le_of_ble_eq_true rfl⟩ (Nat.le_of_ble_eq_true rfl) ⟨show kc + 143 + 1 ≤ 612008 by omega, show ns + 1138 + 34 ≤ 7258737 by omega⟩ (fun v9 w9 h9 => ?_)
  obtain ⟨rfl, rfl⟩ := h9
  refine jt_pick X [0, 1, 2, 3, 4, 5, 6, 7, 8, 9, 10, 11, 12, 13, 14, 15, 16, 17, 18, 19, 20, 21, 22, 23, 24, 25, 26, 27, 28, 29, 30, 31, 32, 33, 34, 35, 36, 37, 38, 39, 40, 41, 42] (w' := (wsF G σ ++ [(σ.2 40 2, .inr (1, [.ref v2, .int 0, .int z2, .int (nI (tripT (σ.1 8 0) y l zz).length)])), (v2, .inl (cB, n2, .inl f2))])) (by decide) rfl ?_
  show J x [(1, .ref (G.2.2 40)), (5, .long r)] [.int (33)] (wsF G σ ++ [(σ.2 40 2, .inr (1, [.ref v2, .int 0, .int z2, .int (nI (tripT (σ.1 8 0) y l zz).length)])), (v2, .inl (cB, n2, .inl f2))]) 1225 (kc + 144) (ns + 1172)
  refine j_bipush C dL_law_1225 ((33 : Int32)) (by decide) ?_
  refine j_icmp_ne C dL_law_1227 1254 (by decide) (fun c => absurd rfl c) (fun _ => ?_)
  refine j_aload_n C dL_law_1230 0 rfl ?_
  refine j_iconst C dL_law_1231 ((0 : Int32)) (by decide) ?_
  refine jt_callSX (wr := ((([0, 1, 2, 3, 4, 5, 6, 7, 8, 9, 10, 11, 12, 13, 14, 15, 16, 17, 18, 19, 20, 21, 22, 23, 24, 25, 26, 27, 28, 29, 30, 31, 32, 33, 34, 35, 36, 37, 38, 39]).map (fun i => (G.2.2 i, En G σ i))) ++ [])) CV X (t_L_line_ok K G.1 (tys := tys9 G cB) (cB := cB) rfl (G.2.2 40) (G.2.2 7) (G.2.2 17) (σ.2 40 2) v2 z2 n2 f2 (tripT (σ.1 8 0) y l zz) 0 hcp2 hn2 hT2 (tripT_ltr _ hy hl6 hz) (by omega)) dL_law_1232 (gSX9 v_298 v_299 v_232 v_300) rfl hy_L_line rfl [40, 41, 42] [0, 1, 2, 3, 4, 5, 6, 7, 8, 9, 10, 11, 12, 13, 14, 15, 16, 17, 18, 19, 20, 21, 22, 23, 24, 25, 26, 27, 28, 29, 30, 31, 32, 33, 34, 35, 36, 37, 38, 39] rfl rfl (by decide) (by decide) (by decide) rfl ⟨Nat.le_of_ble_eq_true rfl, Nat.le_of_ble_eq_true rfl⟩ (Nat.le_of_ble_eq_true rfl) ⟨show kc + 144 + 0 ≤ 612008 by omega, show ns + 1172 + 0 ≤ 7258737 by omega⟩ (fun v9 w9 h9 => ?_)
  obtain ⟨rfl, rfl⟩ := h9
  refine jt_pick X [0, 1, 2, 3, 4, 5, 6, 7, 8, 9, 10, 11, 12, 13, 14, 15, 16, 17, 18, 19, 20, 21, 22, 23, 24, 25, 26, 27, 28, 29, 30, 31, 32, 33, 34, 35, 36, 37, 38, 39, 40, 41, 42] (w' := (wsF G σ ++ [(σ.2 40 2, .inr (1, [.ref v2, .int 0, .int z2, .int (nI (tripT (σ.1 8 0) y l zz).length)])), (v2, .inl (cB, n2, .inl f2))])) (by decide) rfl ?_
  show J x [(1, .ref (G.2.2 40)), (5, .long r)] [.int (nI ((tripT (σ.1 8 0) y l zz).getD 0 0))] (wsF G σ ++ [(σ.2 40 2, .inr (1, [.ref v2, .int 0, .int z2, .int (nI (tripT (σ.1 8 0) y l zz).length)])), (v2, .inl (cB, n2, .inl f2))]) 1235 (kc + 144) (ns + 1172)
  refine j_bipush C dL_law_1235 ((33 : Int32)) (by decide) ?_
  refine j_icmp_eq C dL_law_1237 1254 (by decide) (fun c => absurd c (tripT_33 (σ.1 8 0) y l zz)) (fun _ => ?_)
  refine j_aload_n C dL_law_1240 0 rfl ?_
  refine jm_callS CV X (N1 := 133) (N2 := 798) (c_L_sum n G σ 40 ok40 _ _ hs) dL_law_1241 (gSc9 v_240 v_242 v_232 v_241) rfl hy_L_sum rfl rfl ⟨Nat.le_of_ble_eq_true rfl, Nat.le_of_ble_eq_true rfl⟩ (Nat.le_of_ble_eq_true rfl) (Nat.le_of_ble_eq_true rfl) (Nat.le_of_ble_eq_true rfl) (show kc + 144 + 133 ≤ 612008 ∧ ns + 1172 + 798 ≤ 7258737 by omega) ?_
  refine j_lload C dL_law_1244 1 rfl ?_
  refine j_lcmp C dL_law_1246 ?_
  refine j_if_ne C dL_law_1247 1254 (by decide) (fun c => absurd (lg_cmp_self r) c) (fun _ => ?_)
  show J x [(1, .ref (G.2.2 40)), (5, .long r)] [] (wsF G σ ++ [(σ.2 40 2, .inr (1, [.ref v2, .int 0, .int z2, .int (nI (tripT (σ.1 8 0) y l zz).length)])), (v2, .inl (cB, n2, .inl f2))]) 1250 (kc + 277) (ns + 1970)
  refine j_iconst C dL_law_1250 ((1 : Int32)) (by decide) ?_
  refine j_goto C dL_law_1251 1255 (by decide) ?_
  exact HR _ _ _ _ (show kc + 277 ≤ 612008 by omega) (show ns + 1970 ≤ 7258737 by omega)
