theorem in_ok {j m : Nat} (hj : j < m) (hm : m < 100000) : (0 : Int32) ≤ nI j ∧ nI j ≤ nI m - 1 := ⟨nI_le (a := 0) (Nat.zero_le j) (by omega), by rw [show nI m - 1 = nI (m - 1) from sub_nI (b := 1) (by omega)]; exact (le_nI (by omega) (by omega)).mpr (by omega)⟩
theorem in_bad {i : Int32} {m : Nat} (hm : m < 100000) (h : i < 0 ∨ nI m ≤ i) : ¬ ((0 : Int32) ≤ i ∧ i ≤ nI m - 1) := fun z => by
  obtain ⟨j, hj, rfl⟩ := nI_of (Int32.not_lt.mpr z.1)
  rcases h with h | h
  · exact absurd z.1 (Int32.not_le.mpr h)
  · by_cases e : m = 0
    · subst e
      exact absurd (Int32.le_trans z.1 z.2) (by decide)
    · rw [show nI m - 1 = nI (m - 1) from sub_nI (b := 1) (by omega)] at z
      have a1 := (nI_leI (a := m) (b := j) (by omega) hj).mp h
      have a2 := (nI_leI (a := j) (b := m - 1) hj (by omega)).mp z.2
      omega
abbrev rmt_X6_inY : Room := ({ frames := 10, cells := 0, slots := 0, locals := 200 } : Room)
abbrev wt_X6_in : List Cond := (Cond.code yX6_in cX6_in 3 (some .boolean)) :: wsT
set_option maxRecDepth 20000 in
set_option maxHeartbeats 4000000 in
theorem t_X6_inY (K : Nat → Nat) (D : va_G) {tys : List (ClassId × FieldType)} (a lo hi : Int32) (h : lo ≤ a ∧ a ≤ hi) : MT yX6_in wt_X6_in rmt_X6_inY [.int (a), .int (lo), .int (hi)] K D tys [] (fun r w' => r = some (.int (1)) ∧ w' = []) := by
  refine mt_of (cc := cX6_in) (maxL := 3) (ret := (some .boolean)) (v0 := some (.int (1))) (w0 := []) ⟨rfl, rfl⟩ (by decide +kernel) rfl (Nat.le_of_ble_eq_true rfl) (fun x C X => ?_)
  have C : Cy "in" K (fun r w' => r = some (.int (1)) ∧ w' = []) x cX6_in 3 RX6 (some .boolean) [] wt_X6_in rmt_X6_inY D tys := C
  have C0 := C.cx
  have CV := C.cv
  show J x [(0, .int (a)), (1, .int (lo)), (2, .int (hi))] [] [] 0 (0) (0)
  refine j_iload_n C0 dX6_in_0 0 rfl ?_
  refine j_iload_n C0 dX6_in_1 1 rfl ?_
  refine j_icmp_lt C0 dX6_in_2 14 (by decide) (fun c => absurd h.1 (Int32.not_le.mpr c)) (fun c1_ => ?_)
  refine j_iload_n C0 dX6_in_5 0 rfl ?_
  refine j_iload_n C0 dX6_in_6 2 rfl ?_
  refine j_icmp_gt C0 dX6_in_7 14 (by decide) (fun c => absurd h.2 (Int32.not_le.mpr c)) (fun c2_ => ?_)
  refine j_iconst C0 dX6_in_10 ((1 : Int32)) (by decide) ?_
  refine j_goto C0 dX6_in_11 15 (by decide) ?_
  exact jy_zreturn C (by decide) dX6_in_15 ⟨rfl, rfl⟩ (Nat.le_of_ble_eq_true rfl) (Nat.le_of_ble_eq_true rfl)
abbrev rmt_X6_inN : Room := ({ frames := 10, cells := 0, slots := 0, locals := 200 } : Room)
set_option maxRecDepth 20000 in
set_option maxHeartbeats 4000000 in
theorem t_X6_inN (K : Nat → Nat) (D : va_G) {tys : List (ClassId × FieldType)} (a lo hi : Int32) (h : ¬ (lo ≤ a ∧ a ≤ hi)) : MT yX6_in wt_X6_in rmt_X6_inN [.int (a), .int (lo), .int (hi)] K D tys [] (fun r w' => r = some (.int (0)) ∧ w' = []) := by
  refine mt_of (cc := cX6_in) (maxL := 3) (ret := (some .boolean)) (v0 := some (.int (0))) (w0 := []) ⟨rfl, rfl⟩ (by decide +kernel) rfl (Nat.le_of_ble_eq_true rfl) (fun x C X => ?_)
  have C : Cy "in" K (fun r w' => r = some (.int (0)) ∧ w' = []) x cX6_in 3 RX6 (some .boolean) [] wt_X6_in rmt_X6_inN D tys := C
  have C0 := C.cx
  have CV := C.cv
  show J x [(0, .int (a)), (1, .int (lo)), (2, .int (hi))] [] [] 0 (0) (0)
  refine j_iload_n C0 dX6_in_0 0 rfl ?_
  refine j_iload_n C0 dX6_in_1 1 rfl ?_
  refine j_icmp_lt C0 dX6_in_2 14 (by decide) (fun g1 => ?_) (fun g1 => ?_)
  · refine j_iconst C0 dX6_in_14 ((0 : Int32)) (by decide) ?_
    exact jy_zreturn C (by decide) dX6_in_15 ⟨rfl, rfl⟩ (Nat.le_of_ble_eq_true rfl) (Nat.le_of_ble_eq_true rfl)
  · refine j_iload_n C0 dX6_in_5 0 rfl ?_
    refine j_iload_n C0 dX6_in_6 2 rfl ?_
    refine j_icmp_gt C0 dX6_in_7 14 (by decide) (fun c2_ => ?_) (fun c => absurd ⟨Int32.not_lt.mp g1, Int32.not_lt.mp c⟩ h)
    refine j_iconst C0 dX6_in_14 ((0 : Int32)) (by decide) ?_
    exact jy_zreturn C (by decide) dX6_in_15 ⟨rfl, rfl⟩ (Nat.le_of_ble_eq_true rfl) (Nat.le_of_ble_eq_true rfl)
abbrev rmt_X6_lineAt_ok : Room := ({ frames := 14, cells := 0, slots := 0, locals := 285 } : Room)
abbrev wt_X6_lineAt : List Cond := (Cond.code yX6_lineAt cX6_lineAt 2 (some .char)) :: wsT
set_option maxRecDepth 20000 in
set_option maxHeartbeats 4000000 in
theorem t_X6_lineAt_ok (K : Nat → Nat) (D : va_G) {tys : List (ClassId × FieldType)} {cB : ClassId} (ht : tys[0]? = some (cB, .byte)) (a6 d1 d2 d3 d4 d5 s6 k6 l6 q6 : Nat) (g : Nat → Int32) (f : Nat → Int32) (t : List Nat) (j : Nat) (hT : hasT f t) (hl : ltr t) (hj : j < t.length) (hn : t.length < 100000) : MT yX6_lineAt wt_X6_lineAt rmt_X6_lineAt_ok [.ref (a6), .int (nI j)] K D tys [(a6, .inr (10, [.int (g 0), .ref (d1), .ref (d2), .ref (d3), .ref (d4), .ref (d5), .int (g 6), .int (g 7), .int (g 8), .int (g 9), .int (g 10), .ref (s6), .ref (k6), .ref (l6), .int (g 14)])), (l6, .inr (0, [.ref (q6), .int (0), .int (0), .int (0)])), (q6, .inl (cB, t.length, .inl (f)))] (fun r w' => r = some (.int (nI (t.getD j 0))) ∧ w' = [(a6, .inr (10, [.int (g 0), .ref (d1), .ref (d2), .ref (d3), .ref (d4), .ref (d5), .int (g 6), .int (g 7), .int (g 8), .int (g 9), .int (g 10), .ref (s6), .ref (k6), .ref (l6), .int (0)])), (l6, .inr (0, [.ref (q6), .int (0), .int (0), .int (0)])), (q6, .inl (cB, t.length, .inl (f)))]) := by
  refine mt_of (cc := cX6_lineAt) (maxL := 2) (ret := (some .char)) (v0 := some (.int (nI (t.getD j 0)))) (w0 := [(a6, .inr (10, [.int (g 0), .ref (d1), .ref (d2), .ref (d3), .ref (d4), .ref (d5), .int (g 6), .int (g 7), .int (g 8), .int (g 9), .int (g 10), .ref (s6), .ref (k6), .ref (l6), .int (0)])), (l6, .inr (0, [.ref (q6), .int (0), .int (0), .int (0)])), (q6, .inl (cB, t.length, .inl (f)))]) ⟨rfl, rfl⟩ (by decide +kernel) rfl (Nat.le_of_ble_eq_true rfl) (fun x C X => ?_)
  have C : Cy "lineAt" K (fun r w' => r = some (.int (nI (t.getD j 0))) ∧ w' = [(a6, .inr (10, [.int (g 0), .ref (d1), .ref (d2), .ref (d3), .ref (d4), .ref (d5), .int (g 6), .int (g 7), .int (g 8), .int (g 9), .int (g 10), .ref (s6), .ref (k6), .ref (l6), .int (0)])), (l6, .inr (0, [.ref (q6), .int (0), .int (0), .int (0)])), (q6, .inl (cB, t.length, .inl (f)))]) x cX6_lineAt 2 RX6 (some .char) [] wt_X6_lineAt rmt_X6_lineAt_ok D tys := C
  have C0 := C.cx
  have CV := C.cv
  show J x [(0, .ref (a6)), (1, .int (nI j))] [] [(a6, .inr (10, [.int (g 0), .ref (d1), .ref (d2), .ref (d3), .ref (d4), .ref (d5), .int (g 6), .int (g 7), .int (g 8), .int (g 9), .int (g 10), .ref (s6), .ref (k6), .ref (l6), .int (g 14)])), (l6, .inr (0, [.ref (q6), .int (0), .int (0), .int (0)])), (q6, .inl (cB, t.length, .inl (f)))] 0 (0) (0)
  refine j_aload_n C0 dX6_lineAt_0 0 rfl ?_
  refine j_iload_n C0 dX6_lineAt_1 1 rfl ?_
  refine j_iconst C0 dX6_lineAt_2 ((0 : Int32)) (by decide) ?_
  refine j_aload_n C0 dX6_lineAt_3 0 rfl ?_
  refine jt_get C0 X dX6_lineAt_4 0 rfl rfl 13 (by decide) (fin := false) rfl rfl inT_X6 (ref := "MineHoistModel") (fun _ _ h => h) (mT v_215) ?_
  refine jt_callV (wr := [(a6, .inr (10, [.int (g 0), .ref (d1), .ref (d2), .ref (d3), .ref (d4), .ref (d5), .int (g 6), .int (g 7), .int (g 8), .int (g 9), .int (g 10), .ref (s6), .ref (k6), .ref (l6), .int (g 14)]))]) CV X (t_J0_length_8abf5 K D ht l6 q6 t.length f) dX6_lineAt_7 (gV9 v_216 v_73 v_74 v_59 v_75) rfl hy_J0_length_8abf5 rfl 1 rfl rfl rfl [1, 2] [0] rfl rfl (by decide) (by decide) (by decide) rfl ⟨Nat.le_of_ble_eq_true rfl, Nat.le_of_ble_eq_true rfl⟩ (Nat.le_of_ble_eq_true rfl) ⟨Nat.le_of_ble_eq_true rfl, Nat.le_of_ble_eq_true rfl⟩ (fun v1 w2 h3 => ?_)
  obtain ⟨rfl, rfl⟩ := h3
  show J x [(0, .ref (a6)), (1, .int (nI j))] [.int (nI t.length), .int ((0 : Int32)), .int (nI j), .ref (a6)] [(a6, .inr (10, [.int (g 0), .ref (d1), .ref (d2), .ref (d3), .ref (d4), .ref (d5), .int (g 6), .int (g 7), .int (g 8), .int (g 9), .int (g 10), .ref (s6), .ref (k6), .ref (l6), .int (g 14)])), (l6, .inr (0, [.ref (q6), .int (0), .int (0), .int (0)])), (q6, .inl (cB, t.length, .inl (f)))] 10 (0) (0)
  refine j_iconst C0 dX6_lineAt_10 ((1 : Int32)) (by decide) ?_
  refine j_isub C0 dX6_lineAt_11 ?_
  refine jt_callS (wr := [(a6, .inr (10, [.int (g 0), .ref (d1), .ref (d2), .ref (d3), .ref (d4), .ref (d5), .int (g 6), .int (g 7), .int (g 8), .int (g 9), .int (g 10), .ref (s6), .ref (k6), .ref (l6), .int (g 14)])), (l6, .inr (0, [.ref (q6), .int (0), .int (0), .int (0)])), (q6, .inl (cB, t.length, .inl (f)))]) CV X (t_X6_inY K D (nI j) 0 (nI t.length - 1) (in_ok hj hn)) dX6_lineAt_12 (gS9 v_217 v_218 v_219 v_220) rfl hy_X6_in rfl [] [0, 1, 2] rfl rfl (by decide) (by decide) (by decide) rfl ⟨Nat.le_of_ble_eq_true rfl, Nat.le_of_ble_eq_true rfl⟩ (Nat.le_of_ble_eq_true rfl) ⟨Nat.le_of_ble_eq_true rfl, Nat.le_of_ble_eq_true rfl⟩ (fun v4 w5 h6 => ?_)
  obtain ⟨rfl, rfl⟩ := h6
  show J x [(0, .ref (a6)), (1, .int (nI j))] [.int (1), .ref (a6)] [(a6, .inr (10, [.int (g 0), .ref (d1), .ref (d2), .ref (d3), .ref (d4), .ref (d5), .int (g 6), .int (g 7), .int (g 8), .int (g 9), .int (g 10), .ref (s6), .ref (k6), .ref (l6), .int (g 14)])), (l6, .inr (0, [.ref (q6), .int (0), .int (0), .int (0)])), (q6, .inl (cB, t.length, .inl (f)))] 15 (0) (0)
  refine j_if_eq C0 dX6_lineAt_15 22 (by decide) (fun c7 => absurd c7 (by decide)) (fun c7_ => ?_)
  refine j_iconst C0 dX6_lineAt_18 ((0 : Int32)) (by decide) ?_
  refine j_goto C0 dX6_lineAt_19 23 (by decide) ?_
  refine jt_put C0 X dX6_lineAt_23 0 (ty0 := tyX6) (ty := .int) rfl rfl 14 (by decide) rfl (Nat.le_of_ble_eq_true rfl) tyX6_ok nmX6 rfl rfl rfl inT_X6 (ref := "MineHoistModel") (fun _ _ h => h) (mT v_201) ?_
  show J x [(0, .ref (a6)), (1, .int (nI j))] [] [(a6, .inr (10, [.int (g 0), .ref (d1), .ref (d2), .ref (d3), .ref (d4), .ref (d5), .int (g 6), .int (g 7), .int (g 8), .int (g 9), .int (g 10), .ref (s6), .ref (k6), .ref (l6), .int ((0 : Int32))])), (l6, .inr (0, [.ref (q6), .int (0), .int (0), .int (0)])), (q6, .inl (cB, t.length, .inl (f)))] 26 (0) (0)
  refine j_aload_n C0 dX6_lineAt_26 0 rfl ?_
  refine jt_get C0 X dX6_lineAt_27 0 rfl rfl 14 (by decide) (fin := false) rfl rfl inT_X6 (ref := "MineHoistModel") (fun _ _ h => h) (mT v_201) ?_
  refine j_if_le C0 dX6_lineAt_30 38 (by decide) (fun c8_ => ?_) (fun c8 => absurd c8 (by decide))
  refine j_aload_n C0 dX6_lineAt_38 0 rfl ?_
  refine jt_get C0 X dX6_lineAt_39 0 rfl rfl 13 (by decide) (fin := false) rfl rfl inT_X6 (ref := "MineHoistModel") (fun _ _ h => h) (mT v_215) ?_
  refine j_iload_n C0 dX6_lineAt_42 1 rfl ?_
  refine jt_callV (wr := [(a6, .inr (10, [.int (g 0), .ref (d1), .ref (d2), .ref (d3), .ref (d4), .ref (d5), .int (g 6), .int (g 7), .int (g 8), .int (g 9), .int (g 10), .ref (s6), .ref (k6), .ref (l6), .int ((0 : Int32))]))]) CV X (t_J0_charAt_5068e K D ht l6 q6 f t j hT hl hj hn) dX6_lineAt_43 (gV9 v_221 v_222 v_223 v_59 v_224) rfl hy_J0_charAt_5068e rfl 1 rfl rfl rfl [1, 2] [0] rfl rfl (by decide) (by decide) (by decide) rfl ⟨Nat.le_of_ble_eq_true rfl, Nat.le_of_ble_eq_true rfl⟩ (Nat.le_of_ble_eq_true rfl) ⟨Nat.le_of_ble_eq_true rfl, Nat.le_of_ble_eq_true rfl⟩ (fun v9 w10 h11 => ?_)
  obtain ⟨rfl, rfl⟩ := h11
  show J x [(0, .ref (a6)), (1, .int (nI j))] [.int (nI (t.getD j 0))] [(a6, .inr (10, [.int (g 0), .ref (d1), .ref (d2), .ref (d3), .ref (d4), .ref (d5), .int (g 6), .int (g 7), .int (g 8), .int (g 9), .int (g 10), .ref (s6), .ref (k6), .ref (l6), .int ((0 : Int32))])), (l6, .inr (0, [.ref (q6), .int (0), .int (0), .int (0)])), (q6, .inl (cB, t.length, .inl (f)))] 46 (0) (0)
  exact jy_zreturn C (chr_n (ltr_at hl j)) dX6_lineAt_46 ⟨rfl, rfl⟩ (Nat.le_of_ble_eq_true rfl) (Nat.le_of_ble_eq_true rfl)
abbrev rmt_X6_lineAt_bad : Room := ({ frames := 12, cells := 0, slots := 0, locals := 240 } : Room)
set_option maxRecDepth 20000 in
set_option maxHeartbeats 4000000 in
theorem t_X6_lineAt_bad (K : Nat → Nat) (D : va_G) {tys : List (ClassId × FieldType)} {cB : ClassId} (ht : tys[0]? = some (cB, .byte)) (a6 d1 d2 d3 d4 d5 s6 k6 l6 q6 : Nat) (g : Nat → Int32) (f : Nat → Int32) (t : List Nat) (i : Int32) (hb : i < 0 ∨ nI t.length ≤ i) (hn : t.length < 100000) : MT yX6_lineAt wt_X6_lineAt rmt_X6_lineAt_bad [.ref (a6), .int (i)] K D tys [(a6, .inr (10, [.int (g 0), .ref (d1), .ref (d2), .ref (d3), .ref (d4), .ref (d5), .int (g 6), .int (g 7), .int (g 8), .int (g 9), .int (g 10), .ref (s6), .ref (k6), .ref (l6), .int (g 14)])), (l6, .inr (0, [.ref (q6), .int (0), .int (0), .int (0)])), (q6, .inl (cB, t.length, .inl (f)))] (fun r w' => r = some (.int (32)) ∧ w' = [(a6, .inr (10, [.int (g 0), .ref (d1), .ref (d2), .ref (d3), .ref (d4), .ref (d5), .int (g 6), .int (g 7), .int (g 8), .int (g 9), .int (g 10), .ref (s6), .ref (k6), .ref (l6), .int (1)])), (l6, .inr (0, [.ref (q6), .int (0), .int (0), .int (0)])), (q6, .inl (cB, t.length, .inl (f)))]) := by
  refine mt_of (cc := cX6_lineAt) (maxL := 2) (ret := (some .char)) (v0 := some (.int (32))) (w0 := [(a6, .inr (10, [.int (g 0), .ref (d1), .ref (d2), .ref (d3), .ref (d4), .ref (d5), .int (g 6), .int (g 7), .int (g 8), .int (g 9), .int (g 10), .ref (s6), .ref (k6), .ref (l6), .int (1)])), (l6, .inr (0, [.ref (q6), .int (0), .int (0), .int (0)])), (q6, .inl (cB, t.length, .inl (f)))]) ⟨rfl, rfl⟩ (by decide +kernel) rfl (Nat.le_of_ble_eq_true rfl) (fun x C X => ?_)
  have C : Cy "lineAt" K (fun r w' => r = some (.int (32)) ∧ w' = [(a6, .inr (10, [.int (g 0), .ref (d1), .ref (d2), .ref (d3), .ref (d4), .ref (d5), .int (g 6), .int (g 7), .int (g 8), .int (g 9), .int (g 10), .ref (s6), .ref (k6), .ref (l6), .int (1)])), (l6, .inr (0, [.ref (q6), .int (0), .int (0), .int (0)])), (q6, .inl (cB, t.length, .inl (f)))]) x cX6_lineAt 2 RX6 (some .char) [] wt_X6_lineAt rmt_X6_lineAt_bad D tys := C
  have C0 := C.cx
  have CV := C.cv
  show J x [(0, .ref (a6)), (1, .int (i))] [] [(a6, .inr (10, [.int (g 0), .ref (d1), .ref (d2), .ref (d3), .ref (d4), .ref (d5), .int (g 6), .int (g 7), .int (g 8), .int (g 9), .int (g 10), .ref (s6), .ref (k6), .ref (l6), .int (g 14)])), (l6, .inr (0, [.ref (q6), .int (0), .int (0), .int (0)])), (q6, .inl (cB, t.length, .inl (f)))] 0 (0) (0)
  refine j_aload_n C0 dX6_lineAt_0 0 rfl ?_
  refine j_iload_n C0 dX6_lineAt_1 1 rfl ?_
  refine j_iconst C0 dX6_lineAt_2 ((0 : Int32)) (by decide) ?_
  refine j_aload_n C0 dX6_lineAt_3 0 rfl ?_
  refine jt_get C0 X dX6_lineAt_4 0 rfl rfl 13 (by decide) (fin := false) rfl rfl inT_X6 (ref := "MineHoistModel") (fun _ _ h => h) (mT v_215) ?_
  refine jt_callV (wr := [(a6, .inr (10, [.int (g 0), .ref (d1), .ref (d2), .ref (d3), .ref (d4), .ref (d5), .int (g 6), .int (g 7), .int (g 8), .int (g 9), .int (g 10), .ref (s6), .ref (k6), .ref (l6), .int (g 14)]))]) CV X (t_J0_length_8abf5 K D ht l6 q6 t.length f) dX6_lineAt_7 (gV9 v_216 v_73 v_74 v_59 v_75) rfl hy_J0_length_8abf5 rfl 1 rfl rfl rfl [1, 2] [0] rfl rfl (by decide) (by decide) (by decide) rfl ⟨Nat.le_of_ble_eq_true rfl, Nat.le_of_ble_eq_true rfl⟩ (Nat.le_of_ble_eq_true rfl) ⟨Nat.le_of_ble_eq_true rfl, Nat.le_of_ble_eq_true rfl⟩ (fun v1 w2 h3 => ?_)
  obtain ⟨rfl, rfl⟩ := h3
  show J x [(0, .ref (a6)), (1, .int (i))] [.int (nI t.length), .int ((0 : Int32)), .int (i), .ref (a6)] [(a6, .inr (10, [.int (g 0), .ref (d1), .ref (d2), .ref (d3), .ref (d4), .ref (d5), .int (g 6), .int (g 7), .int (g 8), .int (g 9), .int (g 10), .ref (s6), .ref (k6), .ref (l6), .int (g 14)])), (l6, .inr (0, [.ref (q6), .int (0), .int (0), .int (0)])), (q6, .inl (cB, t.length, .inl (f)))] 10 (0) (0)
  refine j_iconst C0 dX6_lineAt_10 ((1 : Int32)) (by decide) ?_
  refine j_isub C0 dX6_lineAt_11 ?_
  refine jt_callS (wr := [(a6, .inr (10, [.int (g 0), .ref (d1), .ref (d2), .ref (d3), .ref (d4), .ref (d5), .int (g 6), .int (g 7), .int (g 8), .int (g 9), .int (g 10), .ref (s6), .ref (k6), .ref (l6), .int (g 14)])), (l6, .inr (0, [.ref (q6), .int (0), .int (0), .int (0)])), (q6, .inl (cB, t.length, .inl (f)))]) CV X (t_X6_inN K D i 0 (nI t.length - 1) (in_bad hn hb)) dX6_lineAt_12 (gS9 v_217 v_218 v_219 v_220) rfl hy_X6_in rfl [] [0, 1, 2] rfl rfl (by decide) (by decide) (by decide) rfl ⟨Nat.le_of_ble_eq_true rfl, Nat.le_of_ble_eq_true rfl⟩ (Nat.le_of_ble_eq_true rfl) ⟨Nat.le_of_ble_eq_true rfl, Nat.le_of_ble_eq_true rfl⟩ (fun v4 w5 h6 => ?_)
  obtain ⟨rfl, rfl⟩ := h6
  show J x [(0, .ref (a6)), (1, .int (i))] [.int (0), .ref (a6)] [(a6, .inr (10, [.int (g 0), .ref (d1), .ref (d2), .ref (d3), .ref (d4), .ref (d5), .int (g 6), .int (g 7), .int (g 8), .int (g 9), .int (g 10), .ref (s6), .ref (k6), .ref (l6), .int (g 14)])), (l6, .inr (0, [.ref (q6), .int (0), .int (0), .int (0)])), (q6, .inl (cB, t.length, .inl (f)))] 15 (0) (0)
  refine j_if_eq C0 dX6_lineAt_15 22 (by decide) (fun c7_ => ?_) (fun c7 => absurd c7 (by decide))
  refine j_iconst C0 dX6_lineAt_22 ((1 : Int32)) (by decide) ?_
  refine jt_put C0 X dX6_lineAt_23 0 (ty0 := tyX6) (ty := .int) rfl rfl 14 (by decide) rfl (Nat.le_of_ble_eq_true rfl) tyX6_ok nmX6 rfl rfl rfl inT_X6 (ref := "MineHoistModel") (fun _ _ h => h) (mT v_201) ?_
  show J x [(0, .ref (a6)), (1, .int (i))] [] [(a6, .inr (10, [.int (g 0), .ref (d1), .ref (d2), .ref (d3), .ref (d4), .ref (d5), .int (g 6), .int (g 7), .int (g 8), .int (g 9), .int (g 10), .ref (s6), .ref (k6), .ref (l6), .int ((1 : Int32))])), (l6, .inr (0, [.ref (q6), .int (0), .int (0), .int (0)])), (q6, .inl (cB, t.length, .inl (f)))] 26 (0) (0)
  refine j_aload_n C0 dX6_lineAt_26 0 rfl ?_
  refine jt_get C0 X dX6_lineAt_27 0 rfl rfl 14 (by decide) (fin := false) rfl rfl inT_X6 (ref := "MineHoistModel") (fun _ _ h => h) (mT v_201) ?_
  refine j_if_le C0 dX6_lineAt_30 38 (by decide) (fun c8 => absurd c8 (by decide)) (fun c8_ => ?_)
  refine j_bipush C0 dX6_lineAt_33 ((32 : Int32)) (by decide) ?_
  refine j_goto C0 dX6_lineAt_35 46 (by decide) ?_
  exact jy_zreturn C (by decide) dX6_lineAt_46 ⟨rfl, rfl⟩ (Nat.le_of_ble_eq_true rfl) (Nat.le_of_ble_eq_true rfl)
abbrev rmt_X6_lineAt_lit : Room := ({ frames := 12, cells := 0, slots := 0, locals := 240 } : Room)
set_option maxRecDepth 20000 in
set_option maxHeartbeats 4000000 in
theorem t_X6_lineAt_lit (K : Nat → Nat) (D : va_G) {tys : List (ClassId × FieldType)} (a6 d1 d2 d3 d4 d5 s6 k6 : Nat) (g : Nat → Int32) (i : Int32) (hb : i < 0 ∨ nI 0 ≤ i) : MT yX6_lineAt wt_X6_lineAt rmt_X6_lineAt_lit [.ref (a6), .int (i)] K D tys [(a6, .inr (10, [.int (g 0), .ref (d1), .ref (d2), .ref (d3), .ref (d4), .ref (d5), .int (g 6), .int (g 7), .int (g 8), .int (g 9), .int (g 10), .ref (s6), .ref (k6), .ref (K 7), .int (g 14)]))] (fun r w' => r = some (.int (32)) ∧ w' = [(a6, .inr (10, [.int (g 0), .ref (d1), .ref (d2), .ref (d3), .ref (d4), .ref (d5), .int (g 6), .int (g 7), .int (g 8), .int (g 9), .int (g 10), .ref (s6), .ref (k6), .ref (K 7), .int (1)]))]) := by
  refine mt_of (cc := cX6_lineAt) (maxL := 2) (ret := (some .char)) (v0 := some (.int (32))) (w0 := [(a6, .inr (10, [.int (g 0), .ref (d1), .ref (d2), .ref (d3), .ref (d4), .ref (d5), .int (g 6), .int (g 7), .int (g 8), .int (g 9), .int (g 10), .ref (s6), .ref (k6), .ref (K 7), .int (1)]))]) ⟨rfl, rfl⟩ (by decide +kernel) rfl (Nat.le_of_ble_eq_true rfl) (fun x C X => ?_)
  have C : Cy "lineAt" K (fun r w' => r = some (.int (32)) ∧ w' = [(a6, .inr (10, [.int (g 0), .ref (d1), .ref (d2), .ref (d3), .ref (d4), .ref (d5), .int (g 6), .int (g 7), .int (g 8), .int (g 9), .int (g 10), .ref (s6), .ref (k6), .ref (K 7), .int (1)]))]) x cX6_lineAt 2 RX6 (some .char) [] wt_X6_lineAt rmt_X6_lineAt_lit D tys := C
  have C0 := C.cx
  have CV := C.cv
  show J x [(0, .ref (a6)), (1, .int (i))] [] [(a6, .inr (10, [.int (g 0), .ref (d1), .ref (d2), .ref (d3), .ref (d4), .ref (d5), .int (g 6), .int (g 7), .int (g 8), .int (g 9), .int (g 10), .ref (s6), .ref (k6), .ref (K 7), .int (g 14)]))] 0 (0) (0)
  refine j_aload_n C0 dX6_lineAt_0 0 rfl ?_
  refine j_iload_n C0 dX6_lineAt_1 1 rfl ?_
  refine j_iconst C0 dX6_lineAt_2 ((0 : Int32)) (by decide) ?_
  refine j_aload_n C0 dX6_lineAt_3 0 rfl ?_
  refine jt_get C0 X dX6_lineAt_4 0 rfl rfl 13 (by decide) (fin := false) rfl rfl inT_X6 (ref := "MineHoistModel") (fun _ _ h => h) (mT v_215) ?_
  refine jt_callK (wr := [(a6, .inr (10, [.int (g 0), .ref (d1), .ref (d2), .ref (d3), .ref (d4), .ref (d5), .int (g 6), .int (g 7), .int (g 8), .int (g 9), .int (g 10), .ref (s6), .ref (k6), .ref (K 7), .int (g 14)]))]) CV X (i := 7) (by omega) (t_J0_lengthK K D 7 (by omega)) dX6_lineAt_7 (gV9 v_216 v_73 v_74 v_59 v_75) rfl hy_J0_length_8abf5 rfl rfl [] [0] rfl rfl (by decide) (by decide) (by decide) rfl ⟨Nat.le_of_ble_eq_true rfl, Nat.le_of_ble_eq_true rfl⟩ (Nat.le_of_ble_eq_true rfl) ⟨Nat.le_of_ble_eq_true rfl, Nat.le_of_ble_eq_true rfl⟩ (fun v1 w2 h3 => ?_)
  obtain ⟨rfl, rfl⟩ := h3
  show J x [(0, .ref (a6)), (1, .int (i))] [.int (nI 0), .int ((0 : Int32)), .int (i), .ref (a6)] [(a6, .inr (10, [.int (g 0), .ref (d1), .ref (d2), .ref (d3), .ref (d4), .ref (d5), .int (g 6), .int (g 7), .int (g 8), .int (g 9), .int (g 10), .ref (s6), .ref (k6), .ref (K 7), .int (g 14)]))] 10 (0) (0)
  refine j_iconst C0 dX6_lineAt_10 ((1 : Int32)) (by decide) ?_
  refine j_isub C0 dX6_lineAt_11 ?_
  refine jt_callS (wr := [(a6, .inr (10, [.int (g 0), .ref (d1), .ref (d2), .ref (d3), .ref (d4), .ref (d5), .int (g 6), .int (g 7), .int (g 8), .int (g 9), .int (g 10), .ref (s6), .ref (k6), .ref (K 7), .int (g 14)]))]) CV X (t_X6_inN K D i 0 (nI 0 - 1) (in_bad (by omega) hb)) dX6_lineAt_12 (gS9 v_217 v_218 v_219 v_220) rfl hy_X6_in rfl [] [0] rfl rfl (by decide) (by decide) (by decide) rfl ⟨Nat.le_of_ble_eq_true rfl, Nat.le_of_ble_eq_true rfl⟩ (Nat.le_of_ble_eq_true rfl) ⟨Nat.le_of_ble_eq_true rfl, Nat.le_of_ble_eq_true rfl⟩ (fun v4 w5 h6 => ?_)
  obtain ⟨rfl, rfl⟩ := h6
  show J x [(0, .ref (a6)), (1, .int (i))] [.int (0), .ref (a6)] [(a6, .inr (10, [.int (g 0), .ref (d1), .ref (d2), .ref (d3), .ref (d4), .ref (d5), .int (g 6), .int (g 7), .int (g 8), .int (g 9), .int (g 10), .ref (s6), .ref (k6), .ref (K 7), .int (g 14)]))] 15 (0) (0)
  refine j_if_eq C0 dX6_lineAt_15 22 (by decide) (fun c7_ => ?_) (fun c7 => absurd c7 (by decide))
  refine j_iconst C0 dX6_lineAt_22 ((1 : Int32)) (by decide) ?_
  refine jt_put C0 X dX6_lineAt_23 0 (ty0 := tyX6) (ty := .int) rfl rfl 14 (by decide) rfl (Nat.le_of_ble_eq_true rfl) tyX6_ok nmX6 rfl rfl rfl inT_X6 (ref := "MineHoistModel") (fun _ _ h => h) (mT v_201) ?_
  show J x [(0, .ref (a6)), (1, .int (i))] [] [(a6, .inr (10, [.int (g 0), .ref (d1), .ref (d2), .ref (d3), .ref (d4), .ref (d5), .int (g 6), .int (g 7), .int (g 8), .int (g 9), .int (g 10), .ref (s6), .ref (k6), .ref (K 7), .int ((1 : Int32))]))] 26 (0) (0)
  refine j_aload_n C0 dX6_lineAt_26 0 rfl ?_
  refine jt_get C0 X dX6_lineAt_27 0 rfl rfl 14 (by decide) (fin := false) rfl rfl inT_X6 (ref := "MineHoistModel") (fun _ _ h => h) (mT v_201) ?_
  refine j_if_le C0 dX6_lineAt_30 38 (by decide) (fun c8 => absurd c8 (by decide)) (fun c8_ => ?_)
  refine j_bipush C0 dX6_lineAt_33 ((32 : Int32)) (by decide) ?_
  refine j_goto C0 dX6_lineAt_35 46 (by decide) ?_
  exact jy_zreturn C (by decide) dX6_lineAt_46 ⟨rfl, rfl⟩ (Nat.le_of_ble_eq_true rfl) (Nat.le_of_ble_eq_true rfl)
abbrev rmt_X5_lineAt : Room := ({ frames := 14, cells := 0, slots := 0, locals := 288 } : Room)
abbrev wt_X5_lineAt : List Cond := (Cond.code yX5_lineAt cX5_lineAt 2 (some .char)) :: wsT
set_option maxRecDepth 20000 in
set_option maxHeartbeats 4000000 in
theorem t_X5_lineAt (K : Nat → Nat) (D : va_G) {tys : List (ClassId × FieldType)} {cB : ClassId} (ht : tys[0]? = some (cB, .byte)) (a5 x1 x2 b v : Nat) (z : Int32) (n : Nat) (f : Nat → Int32) (t : List Nat) (j : Nat) (hcp : cp n) (hn : t.length ≤ n) (hT : hasT f t) (hl : ltr t) (hj : j < t.length) : MT yX5_lineAt wt_X5_lineAt rmt_X5_lineAt [.ref (a5), .int (nI j)] K D tys [(a5, .inr (9, [.ref (x1), .ref (x2), .ref (b)])), (b, .inr (1, [.ref (v), .int (0), .int (z), .int (nI t.length)])), (v, .inl (cB, n, .inl (f)))] (fun r w' => r = some (.int (nI (t.getD j 0))) ∧ w' = [(a5, .inr (9, [.ref (x1), .ref (x2), .ref (b)])), (b, .inr (1, [.ref (v), .int (0), .int (z), .int (nI t.length)])), (v, .inl (cB, n, .inl (f)))]) := by
  have hn9 : n < 100000 := by rcases hcp with e | e <;> omega
  refine mt_of (cc := cX5_lineAt) (maxL := 2) (ret := (some .char)) (v0 := some (.int (nI (t.getD j 0)))) (w0 := [(a5, .inr (9, [.ref (x1), .ref (x2), .ref (b)])), (b, .inr (1, [.ref (v), .int (0), .int (z), .int (nI t.length)])), (v, .inl (cB, n, .inl (f)))]) ⟨rfl, rfl⟩ (by decide +kernel) rfl (Nat.le_of_ble_eq_true rfl) (fun x C X => ?_)
  have C : Cy "lineAt" K (fun r w' => r = some (.int (nI (t.getD j 0))) ∧ w' = [(a5, .inr (9, [.ref (x1), .ref (x2), .ref (b)])), (b, .inr (1, [.ref (v), .int (0), .int (z), .int (nI t.length)])), (v, .inl (cB, n, .inl (f)))]) x cX5_lineAt 2 RX5 (some .char) [] wt_X5_lineAt rmt_X5_lineAt D tys := C
  have C0 := C.cx
  have CV := C.cv
  show J x [(0, .ref (a5)), (1, .int (nI j))] [] [(a5, .inr (9, [.ref (x1), .ref (x2), .ref (b)])), (b, .inr (1, [.ref (v), .int (0), .int (z), .int (nI t.length)])), (v, .inl (cB, n, .inl (f)))] 0 (0) (0)
  refine j_iload_n C0 dX5_lineAt_0 1 rfl ?_
  refine j_if_lt C0 dX5_lineAt_1 15 (by decide) (fun c => absurd c (nI_pos (by omega))) (fun c1_ => ?_)
  refine j_iload_n C0 dX5_lineAt_4 1 rfl ?_
  refine j_aload_n C0 dX5_lineAt_5 0 rfl ?_
  refine jt_get C0 X dX5_lineAt_6 0 rfl rfl 2 (by decide) (fin := true) rfl rfl inT_X5 (ref := "MineHoist") (fun _ _ h => h) (mT v_170) ?_
  refine jt_callV (wr := [(a5, .inr (9, [.ref (x1), .ref (x2), .ref (b)])), (v, .inl (cB, n, .inl (f)))]) CV X (t_J4_length_8abf5 K D b v (nI t.length) z) dX5_lineAt_9 (gV9 v_188 v_144 v_189 v_145 v_146) rfl hy_J4_length_8abf5 rfl 1 rfl rfl rfl [1] [0, 2] rfl rfl (by decide) (by decide) (by decide) rfl ⟨Nat.le_of_ble_eq_true rfl, Nat.le_of_ble_eq_true rfl⟩ (Nat.le_of_ble_eq_true rfl) ⟨Nat.le_of_ble_eq_true rfl, Nat.le_of_ble_eq_true rfl⟩ (fun v2 w3 h4 => ?_)
  obtain ⟨rfl, rfl⟩ := h4
  refine jt_pick X [0, 2, 1] (w' := [(a5, .inr (9, [.ref (x1), .ref (x2), .ref (b)])), (b, .inr (1, [.ref (v), .int (0), .int (z), .int (nI t.length)])), (v, .inl (cB, n, .inl (f)))]) (by decide) rfl ?_
  show J x [(0, .ref (a5)), (1, .int (nI j))] [.int (nI t.length), .int (nI j)] [(a5, .inr (9, [.ref (x1), .ref (x2), .ref (b)])), (b, .inr (1, [.ref (v), .int (0), .int (z), .int (nI t.length)])), (v, .inl (cB, n, .inl (f)))] 12 (0) (0)
  refine j_icmp_lt C0 dX5_lineAt_12 26 (by decide) (fun c5_ => ?_) (fun c => absurd ((lt_nI (by omega) (by omega)).mpr hj) c)
  refine j_aload_n C0 dX5_lineAt_26 0 rfl ?_
  refine jt_get C0 X dX5_lineAt_27 0 rfl rfl 2 (by decide) (fin := true) rfl rfl inT_X5 (ref := "MineHoist") (fun _ _ h => h) (mT v_170) ?_
  refine j_iload_n C0 dX5_lineAt_30 1 rfl ?_
  refine jt_callV (wr := [(a5, .inr (9, [.ref (x1), .ref (x2), .ref (b)]))]) CV X (t_J4_charAt_5068e K D ht b v z n f t j hcp hn hT hl hj) dX5_lineAt_31 (gV9 v_225 v_226 v_227 v_145 v_228) rfl hy_J4_charAt_5068e rfl 1 rfl rfl rfl [1, 2] [0] rfl rfl (by decide) (by decide) (by decide) rfl ⟨Nat.le_of_ble_eq_true rfl, Nat.le_of_ble_eq_true rfl⟩ (Nat.le_of_ble_eq_true rfl) ⟨Nat.le_of_ble_eq_true rfl, Nat.le_of_ble_eq_true rfl⟩ (fun v6 w7 h8 => ?_)
  obtain ⟨rfl, rfl⟩ := h8
  show J x [(0, .ref (a5)), (1, .int (nI j))] [.int (nI (t.getD j 0))] [(a5, .inr (9, [.ref (x1), .ref (x2), .ref (b)])), (b, .inr (1, [.ref (v), .int (0), .int (z), .int (nI t.length)])), (v, .inl (cB, n, .inl (f)))] 34 (0) (0)
  exact jy_zreturn C (chr_n (ltr_at hl j)) dX5_lineAt_34 ⟨rfl, rfl⟩ (Nat.le_of_ble_eq_true rfl) (Nat.le_of_ble_eq_true rfl)
abbrev rmt_X5_lineAt_bad : Room := ({ frames := 12, cells := 1, slots := 34, locals := 240 } : Room)
set_option maxRecDepth 20000 in
set_option maxHeartbeats 4000000 in
theorem t_X5_lineAt_bad (K : Nat → Nat) (D : va_G) {tys : List (ClassId × FieldType)} {cB : ClassId} (ht : tys[0]? = some (cB, .byte)) (a5 x1 x2 b v : Nat) (z : Int32) (n : Nat) (f : Nat → Int32) (t : List Nat) (i : Int32) (hb : i < 0 ∨ nI t.length ≤ i) : MTX yX5_lineAt wt_X5_lineAt rmt_X5_lineAt_bad [.ref (a5), .int (i)] K D tys [(a5, .inr (9, [.ref (x1), .ref (x2), .ref (b)])), (b, .inr (1, [.ref (v), .int (0), .int (z), .int (nI t.length)])), (v, .inl (cB, n, .inl (f)))] "java/lang/IndexOutOfBoundsException" (fun w' => w' = [(a5, .inr (9, [.ref (x1), .ref (x2), .ref (b)])), (b, .inr (1, [.ref (v), .int (0), .int (z), .int (nI t.length)])), (v, .inl (cB, n, .inl (f)))]) := by
  refine mtx_of (cc := cX5_lineAt) (maxL := 2) (ret := (some .char)) (w0 := [(a5, .inr (9, [.ref (x1), .ref (x2), .ref (b)])), (b, .inr (1, [.ref (v), .int (0), .int (z), .int (nI t.length)])), (v, .inl (cB, n, .inl (f)))]) rfl (by decide +kernel) rfl (Nat.le_of_ble_eq_true rfl) (fun x C0 CV X hg => ?_)
  have C0 : Cx x cX5_lineAt 2 RX5 (some .char) [] wt_X5_lineAt rmt_X5_lineAt_bad D tys := C0
  have CV : Cv K x cX5_lineAt 2 RX5 (some .char) [] wt_X5_lineAt rmt_X5_lineAt_bad D tys := CV
  show J x [(0, .ref (a5)), (1, .int (i))] [] [(a5, .inr (9, [.ref (x1), .ref (x2), .ref (b)])), (b, .inr (1, [.ref (v), .int (0), .int (z), .int (nI t.length)])), (v, .inl (cB, n, .inl (f)))] 0 (0) (0)
  refine j_iload_n C0 dX5_lineAt_0 1 rfl ?_
  refine j_if_lt C0 dX5_lineAt_1 15 (by decide) (fun g1 => ?_) (fun g1 => ?_)
  · exact j_throwW C0 ["java/lang/RuntimeException", "java/lang/Exception"] dX5_lineAt_15 dX5_lineAt_18 dX5_lineAt_19 dX5_lineAt_22 dX5_lineAt_25 (text := "no such character") (by decide +kernel) (by decide +kernel) (mT v_229) (mT v_230) (by decide +kernel) (fun w h => mT (mUT ((List.mem_cons.mp (tw_198 (c0 := _) w h)).elim (fun e => e ▸ u_0) id))) tn_198 (by decide) (tgc tg_198) (by decide) (Nat.le_of_ble_eq_true rfl) (by decide) (by decide) X.grow hg
  · refine j_iload_n C0 dX5_lineAt_4 1 rfl ?_
    refine j_aload_n C0 dX5_lineAt_5 0 rfl ?_
    refine jt_get C0 X dX5_lineAt_6 0 rfl rfl 2 (by decide) (fin := true) rfl rfl inT_X5 (ref := "MineHoist") (fun _ _ h => h) (mT v_170) ?_
    refine jt_callV (wr := [(a5, .inr (9, [.ref (x1), .ref (x2), .ref (b)])), (v, .inl (cB, n, .inl (f)))]) CV X (t_J4_length_8abf5 K D b v (nI t.length) z) dX5_lineAt_9 (gV9 v_188 v_144 v_189 v_145 v_146) rfl hy_J4_length_8abf5 rfl 1 rfl rfl rfl [1] [0, 2] rfl rfl (by decide) (by decide) (by decide) rfl ⟨Nat.le_of_ble_eq_true rfl, Nat.le_of_ble_eq_true rfl⟩ (Nat.le_of_ble_eq_true rfl) ⟨Nat.le_of_ble_eq_true rfl, Nat.le_of_ble_eq_true rfl⟩ (fun v2 w3 h4 => ?_)
    obtain ⟨rfl, rfl⟩ := h4
    refine jt_pick X [0, 2, 1] (w' := [(a5, .inr (9, [.ref (x1), .ref (x2), .ref (b)])), (b, .inr (1, [.ref (v), .int (0), .int (z), .int (nI t.length)])), (v, .inl (cB, n, .inl (f)))]) (by decide) rfl ?_
    show J x [(0, .ref (a5)), (1, .int (i))] [.int (nI t.length), .int (i)] [(a5, .inr (9, [.ref (x1), .ref (x2), .ref (b)])), (b, .inr (1, [.ref (v), .int (0), .int (z), .int (nI t.length)])), (v, .inl (cB, n, .inl (f)))] 12 (0) (0)
    refine j_icmp_lt C0 dX5_lineAt_12 26 (by decide) (fun c => hb.elim (fun e => absurd e g1) (fun e => absurd c (Int32.not_lt.mpr e))) (fun c5_ => ?_)
    exact j_throwW C0 ["java/lang/RuntimeException", "java/lang/Exception"] dX5_lineAt_15 dX5_lineAt_18 dX5_lineAt_19 dX5_lineAt_22 dX5_lineAt_25 (text := "no such character") (by decide +kernel) (by decide +kernel) (mT v_229) (mT v_230) (by decide +kernel) (fun w h => mT (mUT ((List.mem_cons.mp (tw_198 (c0 := _) w h)).elim (fun e => e ▸ u_0) id))) tn_198 (by decide) (tgc tg_198) (by decide) (Nat.le_of_ble_eq_true rfl) (by decide) (by decide) X.grow hg
abbrev rmt_L_lineAt_ok : Room := ({ frames := 15, cells := 0, slots := 0, locals := 309 } : Room)
abbrev wt_L_lineAt : List Cond := (Cond.codeWith yL_lineAt cL_lineAt 4 (some .int) [(0, 9, 12, 21)]) :: wsT
set_option maxRecDepth 20000 in
set_option maxHeartbeats 4000000 in
theorem t_L_lineAt_ok (K : Nat → Nat) (D : va_G) {tys : List (ClassId × FieldType)} {cB : ClassId} (ht : tys[0]? = some (cB, .byte)) (a5 x1 x2 b v : Nat) (z : Int32) (n : Nat) (f : Nat → Int32) (t : List Nat) {cL : ClassId} {t3 : Nat} (ht3 : tys[t3]? = some (cL, .long)) (o : Nat) (fo : Nat → Int32) (j : Nat) (hcp : cp n) (hn : t.length ≤ n) (hT : hasT f t) (hl : ltr t) (hj : j < t.length) : MT yL_lineAt wt_L_lineAt rmt_L_lineAt_ok [.ref (a5), .int (nI j), .ref (o)] K D tys [(a5, .inr (9, [.ref (x1), .ref (x2), .ref (b)])), (b, .inr (1, [.ref (v), .int (0), .int (z), .int (nI t.length)])), (v, .inl (cB, n, .inl (f))), (o, .inl (cL, 1, .inr (.inl (fun j9 => (fo j9).toInt64))))] (fun r w' => r = some (.int (0)) ∧ w' = [(a5, .inr (9, [.ref (x1), .ref (x2), .ref (b)])), (b, .inr (1, [.ref (v), .int (0), .int (z), .int (nI t.length)])), (v, .inl (cB, n, .inl (f))), (o, .inl (cL, 1, .inr (.inl (fun j9 => (upd fo 0 (nI (t.getD j 0)) j9).toInt64))))]) := by
  refine mt_ofW (cc := cL_lineAt) (maxL := 4) (ret := (some .int)) (v0 := some (.int (0))) (w0 := [(a5, .inr (9, [.ref (x1), .ref (x2), .ref (b)])), (b, .inr (1, [.ref (v), .int (0), .int (z), .int (nI t.length)])), (v, .inl (cB, n, .inl (f))), (o, .inl (cL, 1, .inr (.inl (fun j9 => (upd fo 0 (nI (t.getD j 0)) j9).toInt64))))]) ⟨rfl, rfl⟩ (by decide +kernel) rfl (Nat.le_of_ble_eq_true rfl) (fun x C X => ?_)
  have C : Cy "lineAt" K (fun r w' => r = some (.int (0)) ∧ w' = [(a5, .inr (9, [.ref (x1), .ref (x2), .ref (b)])), (b, .inr (1, [.ref (v), .int (0), .int (z), .int (nI t.length)])), (v, .inl (cB, n, .inl (f))), (o, .inl (cL, 1, .inr (.inl (fun j9 => (upd fo 0 (nI (t.getD j 0)) j9).toInt64))))]) x cL_lineAt 4 RL (some .int) (tableOf [(0, 9, 12, 21)]) wt_L_lineAt rmt_L_lineAt_ok D tys := C
  have C0 := C.cx
  have CV := C.cv
  show J x [(0, .ref (a5)), (1, .int (nI j)), (2, .ref (o))] [] [(a5, .inr (9, [.ref (x1), .ref (x2), .ref (b)])), (b, .inr (1, [.ref (v), .int (0), .int (z), .int (nI t.length)])), (v, .inl (cB, n, .inl (f))), (o, .inl (cL, 1, .inr (.inl (fun j9 => (fo j9).toInt64))))] 0 (0) (0)
  refine j_aload_n C0 dL_lineAt_0 2 rfl ?_
  refine j_iconst C0 dL_lineAt_1 ((0 : Int32)) (by decide) ?_
  refine j_aload_n C0 dL_lineAt_2 0 rfl ?_
  refine j_iload_n C0 dL_lineAt_3 1 rfl ?_
  refine jt_callV (wr := [(o, .inl (cL, 1, .inr (.inl (fun j9 => (fo j9).toInt64))))]) CV X (t_X5_lineAt K D ht a5 x1 x2 b v z n f t j hcp hn hT hl hj) dL_lineAt_4 (gV9 v_231 v_232 v_233 v_234 v_235) rfl hy_X5_lineAt rfl 0 rfl rfl rfl [0, 1, 2] [3] rfl rfl (by decide) (by decide) (by decide) rfl ⟨Nat.le_of_ble_eq_true rfl, Nat.le_of_ble_eq_true rfl⟩ (Nat.le_of_ble_eq_true rfl) ⟨Nat.le_of_ble_eq_true rfl, Nat.le_of_ble_eq_true rfl⟩ (fun v1 w2 h3 => ?_)
  obtain ⟨rfl, rfl⟩ := h3
  refine jt_pick X [1, 2, 3, 0] (w' := [(a5, .inr (9, [.ref (x1), .ref (x2), .ref (b)])), (b, .inr (1, [.ref (v), .int (0), .int (z), .int (nI t.length)])), (v, .inl (cB, n, .inl (f))), (o, .inl (cL, 1, .inr (.inl (fun j9 => (fo j9).toInt64))))]) (by decide) rfl ?_
  show J x [(0, .ref (a5)), (1, .int (nI j)), (2, .ref (o))] [.int (nI (t.getD j 0)), .int ((0 : Int32)), .ref (o)] [(a5, .inr (9, [.ref (x1), .ref (x2), .ref (b)])), (b, .inr (1, [.ref (v), .int (0), .int (z), .int (nI t.length)])), (v, .inl (cB, n, .inl (f))), (o, .inl (cL, 1, .inr (.inl (fun j9 => (fo j9).toInt64))))] 7 (0) (0)
  refine j_i2l C0 dL_lineAt_7 ?_
  refine jt_last C0 X dL_lineAt_8 3 t3 rfl ht3 (v := nI (t.getD j 0)) rfl vp01 ?_
  rw [c0_]
  show J x [(0, .ref (a5)), (1, .int (nI j)), (2, .ref (o))] [] [(a5, .inr (9, [.ref (x1), .ref (x2), .ref (b)])), (b, .inr (1, [.ref (v), .int (0), .int (z), .int (nI t.length)])), (v, .inl (cB, n, .inl (f))), (o, .inl (cL, 1, .inr (.inl (fun j9 => (upd fo 0 (nI (t.getD j 0)) j9).toInt64))))] 9 (0) (0)
  refine j_goto C0 dL_lineAt_9 15 (by decide) ?_
  refine j_iconst C0 dL_lineAt_15 ((0 : Int32)) (by decide) ?_
  exact jy_ireturn C dL_lineAt_16 ⟨rfl, rfl⟩ (Nat.le_of_ble_eq_true rfl) (Nat.le_of_ble_eq_true rfl)
abbrev rmt_L_lineAt_bad : Room := ({ frames := 13, cells := 1, slots := 34, locals := 261 } : Room)
set_option maxRecDepth 20000 in
set_option maxHeartbeats 4000000 in
theorem t_L_lineAt_bad (K : Nat → Nat) (D : va_G) {tys : List (ClassId × FieldType)} {cB : ClassId} (ht : tys[0]? = some (cB, .byte)) (a5 x1 x2 b v : Nat) (z : Int32) (n : Nat) (f : Nat → Int32) (t : List Nat) {cL : ClassId} (o : Nat) (fo : Nat → Int32) (i : Int32) (hb : i < 0 ∨ nI t.length ≤ i) : MT yL_lineAt wt_L_lineAt rmt_L_lineAt_bad [.ref (a5), .int (i), .ref (o)] K D tys [(a5, .inr (9, [.ref (x1), .ref (x2), .ref (b)])), (b, .inr (1, [.ref (v), .int (0), .int (z), .int (nI t.length)])), (v, .inl (cB, n, .inl (f))), (o, .inl (cL, 1, .inr (.inl (fun j9 => (fo j9).toInt64))))] (fun r w' => r = some (.int (1)) ∧ w' = [(a5, .inr (9, [.ref (x1), .ref (x2), .ref (b)])), (b, .inr (1, [.ref (v), .int (0), .int (z), .int (nI t.length)])), (v, .inl (cB, n, .inl (f))), (o, .inl (cL, 1, .inr (.inl (fun j9 => (fo j9).toInt64))))]) := by
  refine mt_ofW (cc := cL_lineAt) (maxL := 4) (ret := (some .int)) (v0 := some (.int (1))) (w0 := [(a5, .inr (9, [.ref (x1), .ref (x2), .ref (b)])), (b, .inr (1, [.ref (v), .int (0), .int (z), .int (nI t.length)])), (v, .inl (cB, n, .inl (f))), (o, .inl (cL, 1, .inr (.inl (fun j9 => (fo j9).toInt64))))]) ⟨rfl, rfl⟩ (by decide +kernel) rfl (Nat.le_of_ble_eq_true rfl) (fun x C X => ?_)
  have C : Cy "lineAt" K (fun r w' => r = some (.int (1)) ∧ w' = [(a5, .inr (9, [.ref (x1), .ref (x2), .ref (b)])), (b, .inr (1, [.ref (v), .int (0), .int (z), .int (nI t.length)])), (v, .inl (cB, n, .inl (f))), (o, .inl (cL, 1, .inr (.inl (fun j9 => (fo j9).toInt64))))]) x cL_lineAt 4 RL (some .int) (tableOf [(0, 9, 12, 21)]) wt_L_lineAt rmt_L_lineAt_bad D tys := C
  have C0 := C.cx
  have CV := C.cv
  show J x [(0, .ref (a5)), (1, .int (i)), (2, .ref (o))] [] [(a5, .inr (9, [.ref (x1), .ref (x2), .ref (b)])), (b, .inr (1, [.ref (v), .int (0), .int (z), .int (nI t.length)])), (v, .inl (cB, n, .inl (f))), (o, .inl (cL, 1, .inr (.inl (fun j9 => (fo j9).toInt64))))] 0 (0) (0)
  refine j_aload_n C0 dL_lineAt_0 2 rfl ?_
  refine j_iconst C0 dL_lineAt_1 ((0 : Int32)) (by decide) ?_
  refine j_aload_n C0 dL_lineAt_2 0 rfl ?_
  refine j_iload_n C0 dL_lineAt_3 1 rfl ?_
  refine jt_catV (wr := [(o, .inl (cL, 1, .inr (.inl (fun j9 => (fo j9).toInt64))))]) CV X (t_X5_lineAt_bad K D ht a5 x1 x2 b v z n f t i hb) dL_lineAt_4 (gV9 v_231 v_232 v_233 v_234 v_235) rfl hy_X5_lineAt rfl 0 rfl rfl rfl [0, 1, 2] [3] rfl rfl (by decide) (by decide) (by decide) rfl ⟨Nat.le_of_ble_eq_true rfl, Nat.le_of_ble_eq_true rfl⟩ (Nat.le_of_ble_eq_true rfl) ⟨Nat.le_of_ble_eq_true rfl, Nat.le_of_ble_eq_true rfl⟩ [] ⟨0, 9, 12, 21⟩ [] rfl (fun z hz => by cases hz) (by decide) (by decide) (mT v_236) (by decide) (fun q2 w2 h2 => ?_)
  subst h2
  show J x [(0, .ref (a5)), (1, .int (i)), (2, .ref (o))] [.ref (q2)] [(o, .inl (cL, 1, .inr (.inl (fun j9 => (fo j9).toInt64)))), (a5, .inr (9, [.ref (x1), .ref (x2), .ref (b)])), (b, .inr (1, [.ref (v), .int (0), .int (z), .int (nI t.length)])), (v, .inl (cB, n, .inl (f)))] 12 (1) (34)
  refine j_astore_n C0 dL_lineAt_12 (by decide) [(3, .ref (q2)), (0, .ref (a5)), (1, .int (i)), (2, .ref (o))] rfl ?_
  refine j_iconst C0 dL_lineAt_13 ((1 : Int32)) (by decide) ?_
  refine jt_pick X [1, 2, 3, 0] (w' := [(a5, .inr (9, [.ref (x1), .ref (x2), .ref (b)])), (b, .inr (1, [.ref (v), .int (0), .int (z), .int (nI t.length)])), (v, .inl (cB, n, .inl (f))), (o, .inl (cL, 1, .inr (.inl (fun j9 => (fo j9).toInt64))))]) (by decide) rfl ?_
  exact jy_ireturn C dL_lineAt_14 ⟨rfl, rfl⟩ (Nat.le_of_ble_eq_true rfl) (Nat.le_of_ble_eq_true rfl)
