theorem in_ok {j m : Nat} (hj : j < m) (hm : m < 100000) : (0 : Int32) ≤ nI j ∧ nI j ≤ nI m - 1 := ⟨nI_le (a := 0) (Nat.zero_le j) (by omega), by rw [show nI m - 1 = nI (m - 1) from sub_nI (b := 1) (by omega)]; exact (le_nI (by omega) (by omega)).mpr (by omega)⟩
theorem in_bad {i : Int32} {m : Nat} (hm : m < 100000) (h : i < 0 ∨ nI m ≤ i) : ¬ ((0 : Int32) ≤ i ∧ i ≤ nI m - 1) := fun z => by
  obtain ⟨j, hj, rfl⟩ := nI_of (Int32.not_lt.mpr z.1)
  rcases h with h | h
  · exact absurd z.1 (Int32.not_le.mpr h)
  · by_cases e : m = 0
    · subst e
      exact absurd (Int32.le_trans z.1 z.2) (by decide)
    · rw [show nI m - 1 = nI (m - 1) from sub_nI (b := 1) (by omega)] at z
      have a1 := (nI_leI (a := m) (b := j) (by omega) hj).mp h
      have a2 := (nI_leI (a := j) (b := m - 1) hj (by omega)).mp z.2
      omega
abbrev rmt_X5_lineAt : Room := ({ frames := 14, cells := 0, slots := 0, locals := 288 } : Room)
abbrev wt_X5_lineAt : List Cond := (Cond.code yX5_lineAt cX5_lineAt 2 (some .char)) :: wsT
set_option maxRecDepth 20000 in
set_option maxHeartbeats 4000000 in
theorem t_X5_lineAt (K : Nat → Nat) (D : va_G) {tys : List (ClassId × FieldType)} {cB : ClassId} (ht : tys[0]? = some (cB, .byte)) (a5 x1 x2 b v : Nat) (z : Int32) (n : Nat) (f : Nat → Int32) (t : List Nat) (j : Nat) (hcp : cp n) (hn : t.length ≤ n) (hT : hasT f t) (hl : ltr t) (hj : j < t.length) : MT yX5_lineAt wt_X5_lineAt rmt_X5_lineAt [.ref (a5), .int (nI j)] K D tys [(a5, .inr (9, [.ref (x1), .ref (x2), .ref (b)])), (b, .inr (1, [.ref (v), .int (0), .int (z), .int (nI t.length)])), (v, .inl (cB, n, .inl (f)))] (fun r w' => r = some (.int (nI (t.getD j 0))) ∧ w' = [(a5, .inr (9, [.ref (x1), .ref (x2), .ref (b)])), (b, .inr (1, [.ref (v), .int (0), .int (z), .int (nI t.length)])), (v, .inl (cB, n, .inl (f)))]) := by
  have hn9 : n < 100000 := by rcases hcp with e | e <;> omega
  refine mt_of (cc := cX5_lineAt) (maxL := 2) (ret := (some .char)) (v0 := some (.int (nI (t.getD j 0)))) (w0 := [(a5, .inr (9, [.ref (x1), .ref (x2), .ref (b)])), (b, .inr (1, [.ref (v), .int (0), .int (z), .int (nI t.length)])), (v, .inl (cB, n, .inl (f)))]) ⟨rfl, rfl⟩ (by decide +kernel) rfl (Nat.le_of_ble_eq_true rfl) (fun x C X => ?_)
  have C : Cy "lineAt" K (fun r w' => r = some (.int (nI (t.getD j 0))) ∧ w' = [(a5, .inr (9, [.ref (x1), .ref (x2), .ref (b)])), (b, .inr (1, [.ref (v), .int (0), .int (z), .int (nI t.length)])), (v, .inl (cB, n, .inl (f)))]) x cX5_lineAt 2 RX5 (some .char) [] wt_X5_lineAt rmt_X5_lineAt D tys := C
  have C0 := C.cx
  have CV := C.cv
  show J x [(0, .ref (a5)), (1, .int (nI j))] [] [(a5, .inr (9, [.ref (x1), .ref (x2), .ref (b)])), (b, .inr (1, [.ref (v), .int (0), .int (z), .int (nI t.length)])), (v, .inl (cB, n, .inl (f)))] 0 (0) (0)
  refine j_iload_n C0 dX5_lineAt_0 1 rfl ?_
  refine j_if_lt C0 dX5_lineAt_1 15 (by decide) (fun c => absurd c (nI_pos (by omega))) (fun c1_ => ?_)
  refine j_iload_n C0 dX5_lineAt_4 1 rfl ?_
  refine j_aload_n C0 dX5_lineAt_5 0 rfl ?_
  refine jt_get C0 X dX5_lineAt_6 0 rfl rfl 2 (by decide) (fin := true) rfl rfl inT_X5 (ref := "MineHoist") (fun _ _ h => h) (mT v_127) ?_
  refine jt_callV (wr := [(a5, .inr (9, [.ref (x1), .ref (x2), .ref (b)])), (v, .inl (cB, n, .inl (f)))]) CV X (t_J4_length_8abf5 K D b v (nI t.length) z) dX5_lineAt_9 (gV9 v_146 v_147 v_148 v_131 v_149) rfl hy_J4_length_8abf5 rfl 1 rfl rfl rfl [1] [0, 2] rfl rfl (by decide) (by decide) (by decide) rfl ⟨Nat.le_of_ble_eq_true rfl, Nat.le_of_ble_eq_true rfl⟩ (Nat.le_of_ble_eq_true rfl) ⟨Nat.le_of_ble_eq_true rfl, Nat.le_of_ble_eq_true rfl⟩ (fun v2 w3 h4 => ?_)
  obtain ⟨rfl, rfl⟩ := h4
  refine jt_pick X [0, 2, 1] (w' := [(a5, .inr (9, [.ref (x1), .ref (x2), .ref (b)])), (b, .inr (1, [.ref (v), .int (0), .int (z), .int (nI t.length)])), (v, .inl (cB, n, .inl (f)))]) (by decide) rfl ?_
  show J x [(0, .ref (a5)), (1, .int (nI j))] [.int (nI t.length), .int (nI j)] [(a5, .inr (9, [.ref (x1), .ref (x2), .ref (b)])), (b, .inr (1, [.ref (v), .int (0), .int (z), .int (nI t.length)])), (v, .inl (cB, n, .inl (f)))] 12 (0) (0)
  refine j_icmp_lt C0 dX5_lineAt_12 26 (by decide) (fun c5_ => ?_) (fun c => absurd ((lt_nI (by omega) (by omega)).mpr hj) c)
  refine j_aload_n C0 dX5_lineAt_26 0 rfl ?_
  refine jt_get C0 X dX5_lineAt_27 0 rfl rfl 2 (by decide) (fin := true) rfl rfl inT_X5 (ref := "MineHoist") (fun _ _ h => h) (mT v_127) ?_
  refine j_iload_n C0 dX5_lineAt_30 1 rfl ?_
  refine jt_callV (wr := [(a5, .inr (9, [.ref (x1), .ref (x2), .ref (b)]))]) CV X (t_J4_charAt_5068e K D ht b v z n f t j hcp hn hT hl hj) dX5_lineAt_31 (gV9 v_161 v_162 v_163 v_131 v_164) rfl hy_J4_charAt_5068e rfl 1 rfl rfl rfl [1, 2] [0] rfl rfl (by decide) (by decide) (by decide) rfl ⟨Nat.le_of_ble_eq_true rfl, Nat.le_of_ble_eq_true rfl⟩ (Nat.le_of_ble_eq_true rfl) ⟨Nat.le_of_ble_eq_true rfl, Nat.le_of_ble_eq_true rfl⟩ (fun v6 w7 h8 => ?_)
  obtain ⟨rfl, rfl⟩ := h8
  show J x [(0, .ref (a5)), (1, .int (nI j))] [.int (nI (t.getD j 0))] [(a5, .inr (9, [.ref (x1), .ref (x2), .ref (b)])), (b, .inr (1, [.ref (v), .int (0), .int (z), .int (nI t.length)])), (v, .inl (cB, n, .inl (f)))] 34 (0) (0)
  exact jy_zreturn C (chr_n (ltr_at hl j)) dX5_lineAt_34 ⟨rfl, rfl⟩ (Nat.le_of_ble_eq_true rfl) (Nat.le_of_ble_eq_true rfl)
abbrev rmt_X5_lineAt_bad : Room := ({ frames := 12, cells := 1, slots := 34, locals := 240 } : Room)
set_option maxRecDepth 20000 in
set_option maxHeartbeats 4000000 in
theorem t_X5_lineAt_bad (K : Nat → Nat) (D : va_G) {tys : List (ClassId × FieldType)} {cB : ClassId} (ht : tys[0]? = some (cB, .byte)) (a5 x1 x2 b v : Nat) (z : Int32) (n : Nat) (f : Nat → Int32) (t : List Nat) (i : Int32) (hb : i < 0 ∨ nI t.length ≤ i) : MTX yX5_lineAt wt_X5_lineAt rmt_X5_lineAt_bad [.ref (a5), .int (i)] K D tys [(a5, .inr (9, [.ref (x1), .ref (x2), .ref (b)])), (b, .inr (1, [.ref (v), .int (0), .int (z), .int (nI t.length)])), (v, .inl (cB, n, .inl (f)))] "java/lang/IndexOutOfBoundsException" (fun w' => w' = [(a5, .inr (9, [.ref (x1), .ref (x2), .ref (b)])), (b, .inr (1, [.ref (v), .int (0), .int (z), .int (nI t.length)])), (v, .inl (cB, n, .inl (f)))]) := by
  refine mtx_of (cc := cX5_lineAt) (maxL := 2) (ret := (some .char)) (w0 := [(a5, .inr (9, [.ref (x1), .ref (x2), .ref (b)])), (b, .inr (1, [.ref (v), .int (0), .int (z), .int (nI t.length)])), (v, .inl (cB, n, .inl (f)))]) rfl (by decide +kernel) rfl (Nat.le_of_ble_eq_true rfl) (fun x C0 CV X hg => ?_)
  have C0 : Cx x cX5_lineAt 2 RX5 (some .char) [] wt_X5_lineAt rmt_X5_lineAt_bad D tys := C0
  have CV : Cv K x cX5_lineAt 2 RX5 (some .char) [] wt_X5_lineAt rmt_X5_lineAt_bad D tys := CV
  show J x [(0, .ref (a5)), (1, .int (i))] [] [(a5, .inr (9, [.ref (x1), .ref (x2), .ref (b)])), (b, .inr (1, [.ref (v), .int (0), .int (z), .int (nI t.length)])), (v, .inl (cB, n, .inl (f)))] 0 (0) (0)
  refine j_iload_n C0 dX5_lineAt_0 1 rfl ?_
  refine j_if_lt C0 dX5_lineAt_1 15 (by decide) (fun g1 => ?_) (fun g1 => ?_)
  · exact j_throwW C0 ["java/lang/RuntimeException", "java/lang/Exception"] dX5_lineAt_15 dX5_lineAt_18 dX5_lineAt_19 dX5_lineAt_22 dX5_lineAt_25 (text := "no such character") (by decide +kernel) (by decide +kernel) (mT v_165) (mT v_166) (by decide +kernel) (fun w h => mT (mUT ((List.mem_cons.mp (tw_198 (c0 := _) w h)).elim (fun e => e ▸ u_0) id))) tn_198 (by decide) (tgc tg_198) (by decide) (Nat.le_of_ble_eq_true rfl) (by decide) (by decide) X.grow hg
  · refine j_iload_n C0 dX5_lineAt_4 1 rfl ?_
    refine j_aload_n C0 dX5_lineAt_5 0 rfl ?_
    refine jt_get C0 X dX5_lineAt_6 0 rfl rfl 2 (by decide) (fin := true) rfl rfl inT_X5 (ref := "MineHoist") (fun _ _ h => h) (mT v_127) ?_
    refine jt_callV (wr := [(a5, .inr (9, [.ref (x1), .ref (x2), .ref (b)])), (v, .inl (cB, n, .inl (f)))]) CV X (t_J4_length_8abf5 K D b v (nI t.length) z) dX5_lineAt_9 (gV9 v_146 v_147 v_148 v_131 v_149) rfl hy_J4_length_8abf5 rfl 1 rfl rfl rfl [1] [0, 2] rfl rfl (by decide) (by decide) (by decide) rfl ⟨Nat.le_of_ble_eq_true rfl, Nat.le_of_ble_eq_true rfl⟩ (Nat.le_of_ble_eq_true rfl) ⟨Nat.le_of_ble_eq_true rfl, Nat.le_of_ble_eq_true rfl⟩ (fun v2 w3 h4 => ?_)
    obtain ⟨rfl, rfl⟩ := h4
    refine jt_pick X [0, 2, 1] (w' := [(a5, .inr (9, [.ref (x1), .ref (x2), .ref (b)])), (b, .inr (1, [.ref (v), .int (0), .int (z), .int (nI t.length)])), (v, .inl (cB, n, .inl (f)))]) (by decide) rfl ?_
    show J x [(0, .ref (a5)), (1, .int (i))] [.int (nI t.length), .int (i)] [(a5, .inr (9, [.ref (x1), .ref (x2), .ref (b)])), (b, .inr (1, [.ref (v), .int (0), .int (z), .int (nI t.length)])), (v, .inl (cB, n, .inl (f)))] 12 (0) (0)
    refine j_icmp_lt C0 dX5_lineAt_12 26 (by decide) (fun c => hb.elim (fun e => absurd e g1) (fun e => absurd c (Int32.not_lt.mpr e))) (fun c5_ => ?_)
    exact j_throwW C0 ["java/lang/RuntimeException", "java/lang/Exception"] dX5_lineAt_15 dX5_lineAt_18 dX5_lineAt_19 dX5_lineAt_22 dX5_lineAt_25 (text := "no such character") (by decide +kernel) (by decide +kernel) (mT v_165) (mT v_166) (by decide +kernel) (fun w h => mT (mUT ((List.mem_cons.mp (tw_198 (c0 := _) w h)).elim (fun e => e ▸ u_0) id))) tn_198 (by decide) (tgc tg_198) (by decide) (Nat.le_of_ble_eq_true rfl) (by decide) (by decide) X.grow hg
abbrev rmt_L_line_ok : Room := ({ frames := 15, cells := 0, slots := 0, locals := 309 } : Room)
abbrev wt_L_line : List Cond := (Cond.codeWith yL_line cL_line 3 (some .char) [(0, 5, 6, 31)]) :: wsT
set_option maxRecDepth 20000 in
set_option maxHeartbeats 4000000 in
theorem t_L_line_ok (K : Nat → Nat) (D : va_G) {tys : List (ClassId × FieldType)} {cB : ClassId} (ht : tys[0]? = some (cB, .byte)) (a5 x1 x2 b v : Nat) (z : Int32) (n : Nat) (f : Nat → Int32) (t : List Nat) (j : Nat) (hcp : cp n) (hn : t.length ≤ n) (hT : hasT f t) (hl : ltr t) (hj : j < t.length) : MT yL_line wt_L_line rmt_L_line_ok [.ref (a5), .int (nI j)] K D tys [(a5, .inr (9, [.ref (x1), .ref (x2), .ref (b)])), (b, .inr (1, [.ref (v), .int (0), .int (z), .int (nI t.length)])), (v, .inl (cB, n, .inl (f)))] (fun r w' => r = some (.int (nI (t.getD j 0))) ∧ w' = [(a5, .inr (9, [.ref (x1), .ref (x2), .ref (b)])), (b, .inr (1, [.ref (v), .int (0), .int (z), .int (nI t.length)])), (v, .inl (cB, n, .inl (f)))]) := by
  refine mt_ofW (cc := cL_line) (maxL := 3) (ret := (some .char)) (v0 := some (.int (nI (t.getD j 0)))) (w0 := [(a5, .inr (9, [.ref (x1), .ref (x2), .ref (b)])), (b, .inr (1, [.ref (v), .int (0), .int (z), .int (nI t.length)])), (v, .inl (cB, n, .inl (f)))]) ⟨rfl, rfl⟩ (by decide +kernel) rfl (Nat.le_of_ble_eq_true rfl) (fun x C X => ?_)
  have C : Cy "line" K (fun r w' => r = some (.int (nI (t.getD j 0))) ∧ w' = [(a5, .inr (9, [.ref (x1), .ref (x2), .ref (b)])), (b, .inr (1, [.ref (v), .int (0), .int (z), .int (nI t.length)])), (v, .inl (cB, n, .inl (f)))]) x cL_line 3 RL (some .char) (tableOf [(0, 5, 6, 31)]) wt_L_line rmt_L_line_ok D tys := C
  have C0 := C.cx
  have CV := C.cv
  show J x [(0, .ref (a5)), (1, .int (nI j))] [] [(a5, .inr (9, [.ref (x1), .ref (x2), .ref (b)])), (b, .inr (1, [.ref (v), .int (0), .int (z), .int (nI t.length)])), (v, .inl (cB, n, .inl (f)))] 0 (0) (0)
  refine j_aload_n C0 dL_line_0 0 rfl ?_
  refine j_iload_n C0 dL_line_1 1 rfl ?_
  refine jt_callV (wr := []) CV X (t_X5_lineAt K D ht a5 x1 x2 b v z n f t j hcp hn hT hl hj) dL_line_2 (gV9 v_167 v_168 v_169 v_170 v_171) rfl hy_X5_lineAt rfl 0 rfl rfl rfl [0, 1, 2] [] rfl rfl (by decide) (by decide) (by decide) rfl ⟨Nat.le_of_ble_eq_true rfl, Nat.le_of_ble_eq_true rfl⟩ (Nat.le_of_ble_eq_true rfl) ⟨Nat.le_of_ble_eq_true rfl, Nat.le_of_ble_eq_true rfl⟩ (fun v1 w2 h3 => ?_)
  obtain ⟨rfl, rfl⟩ := h3
  show J x [(0, .ref (a5)), (1, .int (nI j))] [.int (nI (t.getD j 0))] [(a5, .inr (9, [.ref (x1), .ref (x2), .ref (b)])), (b, .inr (1, [.ref (v), .int (0), .int (z), .int (nI t.length)])), (v, .inl (cB, n, .inl (f)))] 5 (0) (0)
  exact jy_zreturn C (chr_n (ltr_at hl j)) dL_line_5 ⟨rfl, rfl⟩ (Nat.le_of_ble_eq_true rfl) (Nat.le_of_ble_eq_true rfl)
abbrev rmt_L_line_bad : Room := ({ frames := 13, cells := 1, slots := 34, locals := 261 } : Room)
set_option maxRecDepth 20000 in
set_option maxHeartbeats 4000000 in
theorem t_L_line_bad (K : Nat → Nat) (D : va_G) {tys : List (ClassId × FieldType)} {cB : ClassId} (ht : tys[0]? = some (cB, .byte)) (a5 x1 x2 b v : Nat) (z : Int32) (n : Nat) (f : Nat → Int32) (t : List Nat) (i : Int32) (hb : i < 0 ∨ nI t.length ≤ i) : MT yL_line wt_L_line rmt_L_line_bad [.ref (a5), .int (i)] K D tys [(a5, .inr (9, [.ref (x1), .ref (x2), .ref (b)])), (b, .inr (1, [.ref (v), .int (0), .int (z), .int (nI t.length)])), (v, .inl (cB, n, .inl (f)))] (fun r w' => r = some (.int (33 : Int32)) ∧ w' = [(a5, .inr (9, [.ref (x1), .ref (x2), .ref (b)])), (b, .inr (1, [.ref (v), .int (0), .int (z), .int (nI t.length)])), (v, .inl (cB, n, .inl (f)))]) := by
  refine mt_ofW (cc := cL_line) (maxL := 3) (ret := (some .char)) (v0 := some (.int (33 : Int32))) (w0 := [(a5, .inr (9, [.ref (x1), .ref (x2), .ref (b)])), (b, .inr (1, [.ref (v), .int (0), .int (z), .int (nI t.length)])), (v, .inl (cB, n, .inl (f)))]) ⟨rfl, rfl⟩ (by decide +kernel) rfl (Nat.le_of_ble_eq_true rfl) (fun x C X => ?_)
  have C : Cy "line" K (fun r w' => r = some (.int (33 : Int32)) ∧ w' = [(a5, .inr (9, [.ref (x1), .ref (x2), .ref (b)])), (b, .inr (1, [.ref (v), .int (0), .int (z), .int (nI t.length)])), (v, .inl (cB, n, .inl (f)))]) x cL_line 3 RL (some .char) (tableOf [(0, 5, 6, 31)]) wt_L_line rmt_L_line_bad D tys := C
  have C0 := C.cx
  have CV := C.cv
  show J x [(0, .ref (a5)), (1, .int (i))] [] [(a5, .inr (9, [.ref (x1), .ref (x2), .ref (b)])), (b, .inr (1, [.ref (v), .int (0), .int (z), .int (nI t.length)])), (v, .inl (cB, n, .inl (f)))] 0 (0) (0)
  refine j_aload_n C0 dL_line_0 0 rfl ?_
  refine j_iload_n C0 dL_line_1 1 rfl ?_
  refine jt_catV (wr := []) CV X (t_X5_lineAt_bad K D ht a5 x1 x2 b v z n f t i hb) dL_line_2 (gV9 v_167 v_168 v_169 v_170 v_171) rfl hy_X5_lineAt rfl 0 rfl rfl rfl [0, 1, 2] [] rfl rfl (by decide) (by decide) (by decide) rfl ⟨Nat.le_of_ble_eq_true rfl, Nat.le_of_ble_eq_true rfl⟩ (Nat.le_of_ble_eq_true rfl) ⟨Nat.le_of_ble_eq_true rfl, Nat.le_of_ble_eq_true rfl⟩ [] ⟨0, 5, 6, 31⟩ [] rfl (fun z hz => by cases hz) (by decide) (by decide) (mT v_172) (by decide) (fun q2 w2 h2 => ?_)
  subst h2
  show J x [(0, .ref (a5)), (1, .int (i))] [.ref (q2)] [(a5, .inr (9, [.ref (x1), .ref (x2), .ref (b)])), (b, .inr (1, [.ref (v), .int (0), .int (z), .int (nI t.length)])), (v, .inl (cB, n, .inl (f)))] 6 (1) (34)
  refine j_astore_n C0 dL_line_6 (by decide) [(2, .ref (q2)), (0, .ref (a5)), (1, .int (i))] rfl ?_
  refine j_bipush C0 dL_line_7 ((33 : Int32)) (by decide) ?_
  exact jy_zreturn C (by decide) dL_line_9 ⟨rfl, rfl⟩ (Nat.le_of_ble_eq_true rfl) (Nat.le_of_ble_eq_true rfl)
