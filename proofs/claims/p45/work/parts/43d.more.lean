abbrev rmt_J5_setLength_d00df : Room := ({ frames := 13, cells := 1, slots := 34, locals := 270 } : Room)
abbrev wt_J5_setLength_d00df : List Cond := (Cond.code yJ5_setLength_d00df cJ5_setLength_d00df 2 none) :: wsT
set_option maxRecDepth 20000 in
set_option maxHeartbeats 4000000 in
theorem t_J5_setLength_d00df (K : Nat → Nat) (D : va_G) {tys : List (ClassId × FieldType)} {cB : ClassId} (ht : tys[0]? = some (cB, .byte)) (b v : Nat) (z : Int32) (m n : Nat) (f : Nat → Int32) (hcp : cp n) (hf : fitB f) (hm : m < 100000) : MT yJ5_setLength_d00df wt_J5_setLength_d00df rmt_J5_setLength_d00df [.ref (b), .int ((0 : Int32))] K D tys [(b, .inr (1, [.ref (v), .int (0), .int (z), .int (nI m)])), (v, .inl (cB, n, .inl (f)))] (fun r w' => r = none ∧ ∃ v' z' n' f', w' = Bw cB b v' 0 z' n' f' ∧ cp n' ∧ fitB f') := by
  refine mt_of (cc := cJ5_setLength_d00df) (maxL := 2) (ret := none) (v0 := none) (w0 := Bw cB b v 0 z n f) ⟨rfl, v, z, n, f, rfl, hcp, hf⟩ (by decide +kernel) rfl (Nat.le_of_ble_eq_true rfl) (fun x C X => ?_)
  have C : Cy "setLength" K (fun r w' => r = none ∧ ∃ v' z' n' f', w' = Bw cB b v' 0 z' n' f' ∧ cp n' ∧ fitB f') x cJ5_setLength_d00df 2 RJ5 none [] wt_J5_setLength_d00df rmt_J5_setLength_d00df D tys := C
  have C0 := C.cx
  have CV := C.cv
  show J x [(0, .ref (b)), (1, .int ((0 : Int32)))] [] [(b, .inr (1, [.ref (v), .int (0), .int (z), .int (nI m)])), (v, .inl (cB, n, .inl (f)))] 0 (0) (0)
  refine j_iload_n C0 dJ5_setLength_d00df_0 1 rfl ?_
  refine j_if_ge C0 dJ5_setLength_d00df_1 13 (by decide) (fun c1_ => ?_) (fun c1 => absurd c1 (by decide))
  refine j_aload_n C0 dJ5_setLength_d00df_13 0 rfl ?_
  refine j_iload_n C0 dJ5_setLength_d00df_14 1 rfl ?_
  refine jt_callU (wr := []) CV X (t_J5_ensureCapacityInternal_d00df K D ht b v (nI m) z n f 0 hcp hf (by omega)) dJ5_setLength_d00df_15 (gU9 v_39 v_40 v_41 v_42 v_8 v_43) rfl hy_J5_ensureCapacityInternal_d00df rfl 0 rfl rfl rfl [0, 1] [] rfl rfl (by decide) (by decide) (by decide) rfl ⟨Nat.le_of_ble_eq_true rfl, Nat.le_of_ble_eq_true rfl⟩ (Nat.le_of_ble_eq_true rfl) ⟨Nat.le_of_ble_eq_true rfl, Nat.le_of_ble_eq_true rfl⟩ (fun v2 w3 h4 => ?_)
  obtain ⟨rfl, v2, n2, f2, rfl, p1, p2, p3, p4⟩ := h4
  show J x [(0, .ref (b)), (1, .int ((0 : Int32)))] [] [(b, .inr (1, [.ref (v2), .int (0), .int (z), .int (nI m)])), (v2, .inl (cB, n2, .inl (f2)))] 18 (1) (34)
  refine j_aload_n C0 dJ5_setLength_d00df_18 0 rfl ?_
  refine jt_get C0 X dJ5_setLength_d00df_19 0 rfl rfl 3 (by decide) (fin := false) rfl rfl inT_J4 (ref := "java/lang/AbstractStringBuilder") (fun _ _ h => h) (mT v_2) ?_
  refine j_iload_n C0 dJ5_setLength_d00df_22 1 rfl ?_
  refine j_icmp_ge C0 dJ5_setLength_d00df_23 63 (by decide) (fun c5_ => ?_) (fun c => absurd (nI_le (a := 0) (Nat.zero_le m) (by omega)) c)
  refine j_aload_n C0 dJ5_setLength_d00df_63 0 rfl ?_
  refine jt_get C0 X dJ5_setLength_d00df_64 0 rfl rfl 3 (by decide) (fin := false) rfl rfl inT_J4 (ref := "java/lang/AbstractStringBuilder") (fun _ _ h => h) (mT v_2) ?_
  refine j_iload_n C0 dJ5_setLength_d00df_67 1 rfl ?_
  refine j_icmp_le C0 dJ5_setLength_d00df_68 76 (by decide) (fun gm => ?_) (fun gm => ?_)
  · refine j_aload_n C0 dJ5_setLength_d00df_76 0 rfl ?_
    refine j_iload_n C0 dJ5_setLength_d00df_77 1 rfl ?_
    refine jt_put C0 X dJ5_setLength_d00df_78 0 (ty0 := tyJ4) (ty := .int) rfl rfl 3 (by decide) rfl (Nat.le_of_ble_eq_true rfl) tyJ4_ok nmJ4 rfl rfl rfl inT_J4 (ref := "java/lang/AbstractStringBuilder") (fun _ _ h => h) (mT v_2) ?_
    show J x [(0, .ref (b)), (1, .int ((0 : Int32)))] [] [(b, .inr (1, [.ref (v2), .int (0), .int (z), .int ((0 : Int32))])), (v2, .inl (cB, n2, .inl (f2)))] 81 (1) (34)
    exact jy_return C dJ5_setLength_d00df_81 ⟨rfl, v2, _, n2, f2, rfl, p1, p3⟩ (Nat.le_of_ble_eq_true rfl) (Nat.le_of_ble_eq_true rfl)
  · refine j_aload_n C0 dJ5_setLength_d00df_71 0 rfl ?_
    refine j_iconst C0 dJ5_setLength_d00df_72 ((1 : Int32)) (by decide) ?_
    refine jt_put C0 X dJ5_setLength_d00df_73 0 (ty0 := tyJ4) (ty := .boolean) rfl rfl 2 (by decide) rfl (Nat.le_of_ble_eq_true rfl) tyJ4_ok nmJ4 rfl (by decide) (by decide) inT_J4 (ref := "java/lang/AbstractStringBuilder") (fun _ _ h => h) (mT v_100) ?_
    show J x [(0, .ref (b)), (1, .int ((0 : Int32)))] [] [(b, .inr (1, [.ref (v2), .int (0), .int ((1 : Int32)), .int (nI m)])), (v2, .inl (cB, n2, .inl (f2)))] 76 (1) (34)
    refine j_aload_n C0 dJ5_setLength_d00df_76 0 rfl ?_
    refine j_iload_n C0 dJ5_setLength_d00df_77 1 rfl ?_
    refine jt_put C0 X dJ5_setLength_d00df_78 0 (ty0 := tyJ4) (ty := .int) rfl rfl 3 (by decide) rfl (Nat.le_of_ble_eq_true rfl) tyJ4_ok nmJ4 rfl rfl rfl inT_J4 (ref := "java/lang/AbstractStringBuilder") (fun _ _ h => h) (mT v_2) ?_
    show J x [(0, .ref (b)), (1, .int ((0 : Int32)))] [] [(b, .inr (1, [.ref (v2), .int (0), .int ((1 : Int32)), .int ((0 : Int32))])), (v2, .inl (cB, n2, .inl (f2)))] 81 (1) (34)
    exact jy_return C dJ5_setLength_d00df_81 ⟨rfl, v2, _, n2, f2, rfl, p1, p3⟩ (Nat.le_of_ble_eq_true rfl) (Nat.le_of_ble_eq_true rfl)
abbrev rmt_J4_setLength_d00df : Room := ({ frames := 14, cells := 1, slots := 34, locals := 291 } : Room)
abbrev wt_J4_setLength_d00df : List Cond := (Cond.code yJ4_setLength_d00df cJ4_setLength_d00df 2 none) :: wsT
set_option maxRecDepth 20000 in
set_option maxHeartbeats 4000000 in
theorem t_J4_setLength_d00df (K : Nat → Nat) (D : va_G) {tys : List (ClassId × FieldType)} {cB : ClassId} (ht : tys[0]? = some (cB, .byte)) (b v : Nat) (z : Int32) (m n : Nat) (f : Nat → Int32) (hcp : cp n) (hf : fitB f) (hm : m < 100000) : MT yJ4_setLength_d00df wt_J4_setLength_d00df rmt_J4_setLength_d00df [.ref (b), .int ((0 : Int32))] K D tys [(b, .inr (1, [.ref (v), .int (0), .int (z), .int (nI m)])), (v, .inl (cB, n, .inl (f)))] (fun r w' => r = none ∧ ∃ v' z' n' f', w' = Bw cB b v' 0 z' n' f' ∧ cp n' ∧ fitB f') := by
  refine mt_of (cc := cJ4_setLength_d00df) (maxL := 2) (ret := none) (v0 := none) (w0 := Bw cB b v 0 z n f) ⟨rfl, v, z, n, f, rfl, hcp, hf⟩ (by decide +kernel) rfl (Nat.le_of_ble_eq_true rfl) (fun x C X => ?_)
  have C : Cy "setLength" K (fun r w' => r = none ∧ ∃ v' z' n' f', w' = Bw cB b v' 0 z' n' f' ∧ cp n' ∧ fitB f') x cJ4_setLength_d00df 2 RJ4 none [] wt_J4_setLength_d00df rmt_J4_setLength_d00df D tys := C
  have C0 := C.cx
  have CV := C.cv
  show J x [(0, .ref (b)), (1, .int ((0 : Int32)))] [] [(b, .inr (1, [.ref (v), .int (0), .int (z), .int (nI m)])), (v, .inl (cB, n, .inl (f)))] 0 (0) (0)
  refine j_aload_n C0 dJ4_setLength_d00df_0 0 rfl ?_
  refine j_iload_n C0 dJ4_setLength_d00df_1 1 rfl ?_
  refine jt_callSU (wr := []) CV X (t_J5_setLength_d00df K D ht b v z m n f hcp hf hm) dJ4_setLength_d00df_2 (gSU9 v_101 v_102 v_6 v_103 v_8 v_104) rfl ⟨by decide +kernel, hy_J5_setLength_d00df.2.2⟩ rfl 0 rfl rfl [0, 1] [] rfl rfl (by decide) (by decide) (by decide) rfl ⟨Nat.le_of_ble_eq_true rfl, Nat.le_of_ble_eq_true rfl⟩ (Nat.le_of_ble_eq_true rfl) ⟨Nat.le_of_ble_eq_true rfl, Nat.le_of_ble_eq_true rfl⟩ (fun v1 w2 h3 => ?_)
  obtain ⟨rfl, v2, z2, n2, f2, rfl, p1, p3⟩ := h3
  show J x [(0, .ref (b)), (1, .int ((0 : Int32)))] [] [(b, .inr (1, [.ref (v2), .int (0), .int (z2), .int (0)])), (v2, .inl (cB, n2, .inl (f2)))] 5 (1) (34)
  exact jy_return C dJ4_setLength_d00df_5 ⟨rfl, v2, z2, n2, f2, rfl, p1, p3⟩ (Nat.le_of_ble_eq_true rfl) (Nat.le_of_ble_eq_true rfl)
abbrev rmt_J3_checkIndexN : Room := ({ frames := 10, cells := 0, slots := 0, locals := 200 } : Room)
abbrev wt_J3_checkIndex_8e157 : List Cond := (Cond.code yJ3_checkIndex_8e157 cJ3_checkIndex_8e157 3 (some .int)) :: wsT
set_option maxRecDepth 20000 in
set_option maxHeartbeats 4000000 in
theorem t_J3_checkIndexN (K : Nat → Nat) (D : va_G) {tys : List (ClassId × FieldType)} (j m : Nat) (hj : j < m) (hm : m < 100000) : MT yJ3_checkIndex_8e157 wt_J3_checkIndex_8e157 rmt_J3_checkIndexN [.int (nI j), .int (nI m), .null] K D tys [] (fun r w' => r = some (.int (nI j)) ∧ w' = []) := by
  refine mt_of (cc := cJ3_checkIndex_8e157) (maxL := 3) (ret := (some .int)) (v0 := some (.int (nI j))) (w0 := []) ⟨rfl, rfl⟩ (by decide +kernel) rfl (Nat.le_of_ble_eq_true rfl) (fun x C X => ?_)
  have C : Cy "checkIndex" K (fun r w' => r = some (.int (nI j)) ∧ w' = []) x cJ3_checkIndex_8e157 3 RJ3 (some .int) [] wt_J3_checkIndex_8e157 rmt_J3_checkIndexN D tys := C
  have C0 := C.cx
  have CV := C.cv
  show J x [(0, .int (nI j)), (1, .int (nI m)), (2, .null)] [] [] 0 (0) (0)
  refine j_iload_n C0 dJ3_checkIndex_8e157_0 0 rfl ?_
  refine j_if_lt C0 dJ3_checkIndex_8e157_1 9 (by decide) (fun c => absurd c (nI_pos (by omega))) (fun c1_ => ?_)
  refine j_iload_n C0 dJ3_checkIndex_8e157_4 0 rfl ?_
  refine j_iload_n C0 dJ3_checkIndex_8e157_5 1 rfl ?_
  refine j_icmp_lt C0 dJ3_checkIndex_8e157_6 16 (by decide) (fun c2_ => ?_) (fun c => absurd ((lt_nI (by omega) (by omega)).mpr hj) c)
  refine j_iload_n C0 dJ3_checkIndex_8e157_16 0 rfl ?_
  exact jy_ireturn C dJ3_checkIndex_8e157_17 ⟨rfl, rfl⟩ (Nat.le_of_ble_eq_true rfl) (Nat.le_of_ble_eq_true rfl)
abbrev rmt_J3_checkIndexR : Room := ({ frames := 10, cells := 0, slots := 0, locals := 200 } : Room)
set_option maxRecDepth 20000 in
set_option maxHeartbeats 4000000 in
theorem t_J3_checkIndexR (K : Nat → Nat) (D : va_G) {tys : List (ClassId × FieldType)} (j m : Nat) (hj : j < m) (hm : m < 100000) (r9 : Nat) : MT yJ3_checkIndex_8e157 wt_J3_checkIndex_8e157 rmt_J3_checkIndexR [.int (nI j), .int (nI m), .ref (r9)] K D tys [] (fun r w' => r = some (.int (nI j)) ∧ w' = []) := by
  refine mt_of (cc := cJ3_checkIndex_8e157) (maxL := 3) (ret := (some .int)) (v0 := some (.int (nI j))) (w0 := []) ⟨rfl, rfl⟩ (by decide +kernel) rfl (Nat.le_of_ble_eq_true rfl) (fun x C X => ?_)
  have C : Cy "checkIndex" K (fun r w' => r = some (.int (nI j)) ∧ w' = []) x cJ3_checkIndex_8e157 3 RJ3 (some .int) [] wt_J3_checkIndex_8e157 rmt_J3_checkIndexR D tys := C
  have C0 := C.cx
  have CV := C.cv
  show J x [(0, .int (nI j)), (1, .int (nI m)), (2, .ref (r9))] [] [] 0 (0) (0)
  refine j_iload_n C0 dJ3_checkIndex_8e157_0 0 rfl ?_
  refine j_if_lt C0 dJ3_checkIndex_8e157_1 9 (by decide) (fun c => absurd c (nI_pos (by omega))) (fun c1_ => ?_)
  refine j_iload_n C0 dJ3_checkIndex_8e157_4 0 rfl ?_
  refine j_iload_n C0 dJ3_checkIndex_8e157_5 1 rfl ?_
  refine j_icmp_lt C0 dJ3_checkIndex_8e157_6 16 (by decide) (fun c2_ => ?_) (fun c => absurd ((lt_nI (by omega) (by omega)).mpr hj) c)
  refine j_iload_n C0 dJ3_checkIndex_8e157_16 0 rfl ?_
  exact jy_ireturn C dJ3_checkIndex_8e157_17 ⟨rfl, rfl⟩ (Nat.le_of_ble_eq_true rfl) (Nat.le_of_ble_eq_true rfl)
abbrev rmt_J0_checkIndex_df160 : Room := ({ frames := 11, cells := 0, slots := 0, locals := 222 } : Room)
abbrev wt_J0_checkIndex_df160 : List Cond := (Cond.code yJ0_checkIndex_df160 cJ0_checkIndex_df160 2 none) :: wsT
set_option maxRecDepth 20000 in
set_option maxHeartbeats 4000000 in
theorem t_J0_checkIndex_df160 (K : Nat → Nat) (D : va_G) {tys : List (ClassId × FieldType)} (j m : Nat) (hj : j < m) (hm : m < 100000) : MT yJ0_checkIndex_df160 wt_J0_checkIndex_df160 rmt_J0_checkIndex_df160 [.int (nI j), .int (nI m)] K D tys [] (fun r w' => r = none ∧ w' = []) := by
  refine mt_of (cc := cJ0_checkIndex_df160) (maxL := 2) (ret := none) (v0 := none) (w0 := []) ⟨rfl, rfl⟩ (by decide +kernel) rfl (Nat.le_of_ble_eq_true rfl) (fun x C X => ?_)
  have C : Cy "checkIndex" K (fun r w' => r = none ∧ w' = []) x cJ0_checkIndex_df160 2 RJ0 none [] wt_J0_checkIndex_df160 rmt_J0_checkIndex_df160 D tys := C
  have C0 := C.cx
  have CV := C.cv
  show J x [(0, .int (nI j)), (1, .int (nI m))] [] [] 0 (0) (0)
  refine j_iload_n C0 dJ0_checkIndex_df160_0 0 rfl ?_
  refine j_iload_n C0 dJ0_checkIndex_df160_1 1 rfl ?_
  refine jy_sioobe C dJ0_checkIndex_df160_2 (mT v_105) (fun u uh => ?_)
  rcases uh with rfl | ⟨r9, rfl⟩
  · refine jt_callS (wr := []) CV X (t_J3_checkIndexN K D j m hj hm) dJ0_checkIndex_df160_5 (gS9 v_106 v_107 v_108 v_109) rfl hy_J3_checkIndex_8e157 rfl [] [] rfl rfl (by decide) (by decide) (by decide) rfl ⟨Nat.le_of_ble_eq_true rfl, Nat.le_of_ble_eq_true rfl⟩ (Nat.le_of_ble_eq_true rfl) ⟨Nat.le_of_ble_eq_true rfl, Nat.le_of_ble_eq_true rfl⟩ (fun v1 w2 h3 => ?_)
    obtain ⟨rfl, rfl⟩ := h3
    show J x [(0, .int (nI j)), (1, .int (nI m))] [.int (nI j)] [] 8 (0) (0)
    refine j_pop C0 dJ0_checkIndex_df160_8 rfl ?_
    exact jy_return C dJ0_checkIndex_df160_9 ⟨rfl, rfl⟩ (Nat.le_of_ble_eq_true rfl) (Nat.le_of_ble_eq_true rfl)
  · refine jt_callS (wr := []) CV X (t_J3_checkIndexR K D j m hj hm r9) dJ0_checkIndex_df160_5 (gS9 v_106 v_107 v_108 v_109) rfl hy_J3_checkIndex_8e157 rfl [] [] rfl rfl (by decide) (by decide) (by decide) rfl ⟨Nat.le_of_ble_eq_true rfl, Nat.le_of_ble_eq_true rfl⟩ (Nat.le_of_ble_eq_true rfl) ⟨Nat.le_of_ble_eq_true rfl, Nat.le_of_ble_eq_true rfl⟩ (fun v4 w5 h6 => ?_)
    obtain ⟨rfl, rfl⟩ := h6
    show J x [(0, .int (nI j)), (1, .int (nI m))] [.int (nI j)] [] 8 (0) (0)
    refine j_pop C0 dJ0_checkIndex_df160_8 rfl ?_
    exact jy_return C dJ0_checkIndex_df160_9 ⟨rfl, rfl⟩ (Nat.le_of_ble_eq_true rfl) (Nat.le_of_ble_eq_true rfl)
abbrev rmt_J5_charAt_5068e : Room := ({ frames := 12, cells := 0, slots := 0, locals := 243 } : Room)
abbrev wt_J5_charAt_5068e : List Cond := (Cond.code yJ5_charAt_5068e cJ5_charAt_5068e 5 (some .char)) :: wsT
set_option maxRecDepth 20000 in
set_option maxHeartbeats 4000000 in
theorem t_J5_charAt_5068e (K : Nat → Nat) (D : va_G) {tys : List (ClassId × FieldType)} {cB : ClassId} (ht : tys[0]? = some (cB, .byte)) (b v : Nat) (z : Int32) (n : Nat) (f : Nat → Int32) (t : List Nat) (j : Nat) (hcp : cp n) (hn : t.length ≤ n) (hT : hasT f t) (hl : ltr t) (hj : j < t.length) : MT yJ5_charAt_5068e wt_J5_charAt_5068e rmt_J5_charAt_5068e [.ref (b), .int (nI j)] K D tys [(b, .inr (1, [.ref (v), .int (0), .int (z), .int (nI t.length)])), (v, .inl (cB, n, .inl (f)))] (fun r w' => r = some (.int (nI (t.getD j 0))) ∧ w' = [(b, .inr (1, [.ref (v), .int (0), .int (z), .int (nI t.length)])), (v, .inl (cB, n, .inl (f)))]) := by
  have hn9 : n < 100000 := by rcases hcp with e | e <;> omega
  refine mt_of (cc := cJ5_charAt_5068e) (maxL := 5) (ret := (some .char)) (v0 := some (.int (nI (t.getD j 0)))) (w0 := [(b, .inr (1, [.ref (v), .int (0), .int (z), .int (nI t.length)])), (v, .inl (cB, n, .inl (f)))]) ⟨rfl, rfl⟩ (by decide +kernel) rfl (Nat.le_of_ble_eq_true rfl) (fun x C X => ?_)
  have C : Cy "charAt" K (fun r w' => r = some (.int (nI (t.getD j 0))) ∧ w' = [(b, .inr (1, [.ref (v), .int (0), .int (z), .int (nI t.length)])), (v, .inl (cB, n, .inl (f)))]) x cJ5_charAt_5068e 5 RJ5 (some .char) [] wt_J5_charAt_5068e rmt_J5_charAt_5068e D tys := C
  have C0 := C.cx
  have CV := C.cv
  show J x [(0, .ref (b)), (1, .int (nI j))] [] [(b, .inr (1, [.ref (v), .int (0), .int (z), .int (nI t.length)])), (v, .inl (cB, n, .inl (f)))] 0 (0) (0)
  refine j_aload_n C0 dJ5_charAt_5068e_0 0 rfl ?_
  refine jt_get C0 X dJ5_charAt_5068e_1 0 rfl rfl 1 (by decide) (fin := false) rfl rfl inT_J4 (ref := "java/lang/AbstractStringBuilder") (fun _ _ h => h) (mT v_1) ?_
  refine j_istore_n C0 dJ5_charAt_5068e_4 (by decide) [(2, .int (0)), (0, .ref (b)), (1, .int (nI j))] rfl ?_
  refine j_aload_n C0 dJ5_charAt_5068e_5 1 rfl ?_
  refine jt_get C0 X dJ5_charAt_5068e_6 0 rfl rfl 0 (by decide) (fin := false) rfl rfl inT_J4 (ref := "java/lang/AbstractStringBuilder") (fun _ _ h => h) (mT v_3) ?_
  refine j_astore_n C0 dJ5_charAt_5068e_9 (by decide) [(3, .ref (v)), (2, .int (0)), (0, .ref (b)), (1, .int (nI j))] rfl ?_
  refine j_aload_n C0 dJ5_charAt_5068e_10 2 rfl ?_
  refine jt_get C0 X dJ5_charAt_5068e_11 0 rfl rfl 3 (by decide) (fin := false) rfl rfl inT_J4 (ref := "java/lang/AbstractStringBuilder") (fun _ _ h => h) (mT v_2) ?_
  refine j_aload_n C0 dJ5_charAt_5068e_14 0 rfl ?_
  refine jt_alen C0 X dJ5_charAt_5068e_15 1 0 rfl ht (nI n) rfl ?_
  refine j_iload_n C0 dJ5_charAt_5068e_16 1 rfl ?_
  refine jt_ishr C0 dJ5_charAt_5068e_17 (nI n) (shr0 _) ?_
  refine j_mmin C0 dJ5_charAt_5068e_18 (mT v_110) (mT v_24) (mT v_14) (mT v_25) (Nat.le_of_ble_eq_true rfl) (Nat.le_of_ble_eq_true rfl) (Nat.le_of_ble_eq_true rfl) (Nat.le_of_ble_eq_true rfl) ?_
  refine jt_eqI (b := nI t.length) (mn_nI hn hn9) ?_
  refine j_istore C0 dJ5_charAt_5068e_21 (by decide) [(4, .int (nI t.length)), (3, .ref (v)), (2, .int (0)), (0, .ref (b)), (1, .int (nI j))] rfl ?_
  refine j_iload_n C0 dJ5_charAt_5068e_23 4 rfl ?_
  refine j_iload C0 dJ5_charAt_5068e_24 0 rfl ?_
  refine jt_callS (wr := [(b, .inr (1, [.ref (v), .int (0), .int (z), .int (nI t.length)])), (v, .inl (cB, n, .inl (f)))]) CV X (t_J0_checkIndex_df160 K D j t.length hj (by omega)) dJ5_charAt_5068e_26 (gS9 v_111 v_112 v_59 v_113) rfl hy_J0_checkIndex_df160 rfl [] [0, 1] rfl rfl (by decide) (by decide) (by decide) rfl ⟨Nat.le_of_ble_eq_true rfl, Nat.le_of_ble_eq_true rfl⟩ (Nat.le_of_ble_eq_true rfl) ⟨Nat.le_of_ble_eq_true rfl, Nat.le_of_ble_eq_true rfl⟩ (fun v1 w2 h3 => ?_)
  obtain ⟨rfl, rfl⟩ := h3
  show J x [(4, .int (nI t.length)), (3, .ref (v)), (2, .int (0)), (0, .ref (b)), (1, .int (nI j))] [] [(b, .inr (1, [.ref (v), .int (0), .int (z), .int (nI t.length)])), (v, .inl (cB, n, .inl (f)))] 29 (0) (0)
  refine j_iload_n C0 dJ5_charAt_5068e_29 2 rfl ?_
  refine j_if_ne C0 dJ5_charAt_5068e_30 42 (by decide) (fun c4 => absurd c4 (by decide)) (fun c4_ => ?_)
  refine j_aload_n C0 dJ5_charAt_5068e_33 1 rfl ?_
  refine j_iload_n C0 dJ5_charAt_5068e_34 4 rfl ?_
  refine jt_baldN C0 X dJ5_charAt_5068e_35 1 0 rfl ht (j := j) (by omega) hn9 ?_
  refine j_sipush C0 dJ5_charAt_5068e_36 ((255 : Int32)) (by decide) ?_
  refine j_iand C0 dJ5_charAt_5068e_39 ?_
  refine j_i2c C0 dJ5_charAt_5068e_40 ?_
  refine jt_eqI (b := nI (t.getD j 0)) (by rw [hasT_at hT hj]; exact chr_b (ltr_at hl j)) ?_
  exact jy_zreturn C (chr_n (ltr_at hl j)) dJ5_charAt_5068e_41 ⟨rfl, rfl⟩ (Nat.le_of_ble_eq_true rfl) (Nat.le_of_ble_eq_true rfl)
abbrev rmt_J4_charAt_5068e : Room := ({ frames := 13, cells := 0, slots := 0, locals := 267 } : Room)
abbrev wt_J4_charAt_5068e : List Cond := (Cond.code yJ4_charAt_5068e cJ4_charAt_5068e 2 (some .char)) :: wsT
set_option maxRecDepth 20000 in
set_option maxHeartbeats 4000000 in
theorem t_J4_charAt_5068e (K : Nat → Nat) (D : va_G) {tys : List (ClassId × FieldType)} {cB : ClassId} (ht : tys[0]? = some (cB, .byte)) (b v : Nat) (z : Int32) (n : Nat) (f : Nat → Int32) (t : List Nat) (j : Nat) (hcp : cp n) (hn : t.length ≤ n) (hT : hasT f t) (hl : ltr t) (hj : j < t.length) : MT yJ4_charAt_5068e wt_J4_charAt_5068e rmt_J4_charAt_5068e [.ref (b), .int (nI j)] K D tys [(b, .inr (1, [.ref (v), .int (0), .int (z), .int (nI t.length)])), (v, .inl (cB, n, .inl (f)))] (fun r w' => r = some (.int (nI (t.getD j 0))) ∧ w' = [(b, .inr (1, [.ref (v), .int (0), .int (z), .int (nI t.length)])), (v, .inl (cB, n, .inl (f)))]) := by
  refine mt_of (cc := cJ4_charAt_5068e) (maxL := 2) (ret := (some .char)) (v0 := some (.int (nI (t.getD j 0)))) (w0 := [(b, .inr (1, [.ref (v), .int (0), .int (z), .int (nI t.length)])), (v, .inl (cB, n, .inl (f)))]) ⟨rfl, rfl⟩ (by decide +kernel) rfl (Nat.le_of_ble_eq_true rfl) (fun x C X => ?_)
  have C : Cy "charAt" K (fun r w' => r = some (.int (nI (t.getD j 0))) ∧ w' = [(b, .inr (1, [.ref (v), .int (0), .int (z), .int (nI t.length)])), (v, .inl (cB, n, .inl (f)))]) x cJ4_charAt_5068e 2 RJ4 (some .char) [] wt_J4_charAt_5068e rmt_J4_charAt_5068e D tys := C
  have C0 := C.cx
  have CV := C.cv
  show J x [(0, .ref (b)), (1, .int (nI j))] [] [(b, .inr (1, [.ref (v), .int (0), .int (z), .int (nI t.length)])), (v, .inl (cB, n, .inl (f)))] 0 (0) (0)
  refine j_aload_n C0 dJ4_charAt_5068e_0 0 rfl ?_
  refine j_iload_n C0 dJ4_charAt_5068e_1 1 rfl ?_
  refine jt_callSU (wr := []) CV X (t_J5_charAt_5068e K D ht b v z n f t j hcp hn hT hl hj) dJ4_charAt_5068e_2 (gSU9 v_114 v_115 v_6 v_116 v_8 v_117) rfl ⟨by decide +kernel, hy_J5_charAt_5068e.2.2⟩ rfl 0 rfl rfl [0, 1] [] rfl rfl (by decide) (by decide) (by decide) rfl ⟨Nat.le_of_ble_eq_true rfl, Nat.le_of_ble_eq_true rfl⟩ (Nat.le_of_ble_eq_true rfl) ⟨Nat.le_of_ble_eq_true rfl, Nat.le_of_ble_eq_true rfl⟩ (fun v1 w2 h3 => ?_)
  obtain ⟨rfl, rfl⟩ := h3
  show J x [(0, .ref (b)), (1, .int (nI j))] [.int (nI (t.getD j 0))] [(b, .inr (1, [.ref (v), .int (0), .int (z), .int (nI t.length)])), (v, .inl (cB, n, .inl (f)))] 5 (0) (0)
  exact jy_zreturn C (chr_n (ltr_at hl j)) dJ4_charAt_5068e_5 ⟨rfl, rfl⟩ (Nat.le_of_ble_eq_true rfl) (Nat.le_of_ble_eq_true rfl)
abbrev rmt_J5_init_d00df : Room := ({ frames := 10, cells := 1, slots := 34, locals := 200 } : Room)
abbrev wt_J5_init_d00df : List Cond := (Cond.code yJ5_init_d00df cJ5_init_d00df 2 none) :: wsT
set_option maxRecDepth 20000 in
set_option maxHeartbeats 4000000 in
theorem t_J5_init_d00df (K : Nat → Nat) (D : va_G) {tys : List (ClassId × FieldType)} {cB : ClassId} (ht : tys[0]? = some (cB, .byte)) (b : Nat) : MT yJ5_init_d00df wt_J5_init_d00df rmt_J5_init_d00df [.ref (b), .int ((16 : Int32))] K D tys [(b, .inr (1, [.null, .int (0), .int (0), .int (0)]))] (fun r w' => r = none ∧ ∃ v', w' = Bw cB b v' 0 0 16 (fun _ => 0)) := by
  refine mt_of (cc := cJ5_init_d00df) (maxL := 2) (ret := none) (v0 := none) (w0 := Bw cB b 0 0 0 16 (fun _ => 0)) ⟨rfl, 0, rfl⟩ (by decide +kernel) rfl (Nat.le_of_ble_eq_true rfl) (fun x C X => ?_)
  have C : Cy "<init>" K (fun r w' => r = none ∧ ∃ v', w' = Bw cB b v' 0 0 16 (fun _ => 0)) x cJ5_init_d00df 2 RJ5 none [] wt_J5_init_d00df rmt_J5_init_d00df D tys := C
  have C0 := C.cx
  have CV := C.cv
  show J x [(0, .ref (b)), (1, .int ((16 : Int32)))] [] [(b, .inr (1, [.null, .int (0), .int (0), .int (0)]))] 0 (0) (0)
  refine j_aload_n C0 dJ5_init_d00df_0 0 rfl ?_
  refine jt_objInit C0 dJ5_init_d00df_1 (mT v_118) (mT v_119) (mT v_120) (Nat.le_of_ble_eq_true rfl) (Nat.le_of_ble_eq_true rfl) (Nat.le_of_ble_eq_true rfl) ?_
  refine jy_compact C dJ5_init_d00df_4 (mT v_0) rfl ?_
  refine j_if_eq C0 dJ5_init_d00df_7 25 (by decide) (fun c1 => absurd c1 (by decide)) (fun c1_ => ?_)
  refine j_aload_n C0 dJ5_init_d00df_10 0 rfl ?_
  refine j_iload_n C0 dJ5_init_d00df_11 1 rfl ?_
  refine jt_newb C0 X dJ5_init_d00df_12 0 ht (mT v_22) (by decide) (N' := 16) (by decide) (by decide) (Nat.le_of_ble_eq_true rfl) (Nat.le_of_ble_eq_true rfl) (fun q2 => ?_)
  show J x [(0, .ref (b)), (1, .int ((16 : Int32)))] [.ref (q2), .ref (b)] [(b, .inr (1, [.null, .int (0), .int (0), .int (0)])), (q2, .inl (cB, 16, .inl (fun _ => 0)))] 14 (1) (16)
  refine jt_put C0 X dJ5_init_d00df_14 0 (ty0 := tyJ4) (ty := .array .byte) rfl rfl 0 (by decide) rfl (Nat.le_of_ble_eq_true rfl) tyJ4_ok nmJ4 rfl rfl rfl inT_J4 (ref := "java/lang/AbstractStringBuilder") (fun _ _ h => h) (mT v_3) ?_
  show J x [(0, .ref (b)), (1, .int ((16 : Int32)))] [] [(b, .inr (1, [.ref (q2), .int (0), .int (0), .int (0)])), (q2, .inl (cB, 16, .inl (fun _ => 0)))] 17 (1) (16)
  refine j_aload_n C0 dJ5_init_d00df_17 0 rfl ?_
  refine j_iconst C0 dJ5_init_d00df_18 ((0 : Int32)) (by decide) ?_
  refine jt_put C0 X dJ5_init_d00df_19 0 (ty0 := tyJ4) (ty := .byte) rfl rfl 1 (by decide) rfl (Nat.le_of_ble_eq_true rfl) tyJ4_ok nmJ4 rfl (by decide) (by decide) inT_J4 (ref := "java/lang/AbstractStringBuilder") (fun _ _ h => h) (mT v_1) ?_
  show J x [(0, .ref (b)), (1, .int ((16 : Int32)))] [] [(b, .inr (1, [.ref (q2), .int ((0 : Int32)), .int (0), .int (0)])), (q2, .inl (cB, 16, .inl (fun _ => 0)))] 22 (1) (16)
  refine j_goto C0 dJ5_init_d00df_22 38 (by decide) ?_
  exact jy_return C dJ5_init_d00df_38 ⟨rfl, _, rfl⟩ (Nat.le_of_ble_eq_true rfl) (Nat.le_of_ble_eq_true rfl)
abbrev rmt_J4_init_da8c8 : Room := ({ frames := 11, cells := 1, slots := 34, locals := 221 } : Room)
abbrev wt_J4_init_da8c8 : List Cond := (Cond.code yJ4_init_da8c8 cJ4_init_da8c8 1 none) :: wsT
set_option maxRecDepth 20000 in
set_option maxHeartbeats 4000000 in
theorem t_J4_init_da8c8 (K : Nat → Nat) (D : va_G) {tys : List (ClassId × FieldType)} {cB : ClassId} (ht : tys[0]? = some (cB, .byte)) (b : Nat) : MT yJ4_init_da8c8 wt_J4_init_da8c8 rmt_J4_init_da8c8 [.ref (b)] K D tys [(b, .inr (1, [.null, .int (0), .int (0), .int (0)]))] (fun r w' => r = none ∧ ∃ v', w' = Bw cB b v' 0 0 16 (fun _ => 0)) := by
  refine mt_of (cc := cJ4_init_da8c8) (maxL := 1) (ret := none) (v0 := none) (w0 := Bw cB b 0 0 0 16 (fun _ => 0)) ⟨rfl, 0, rfl⟩ (by decide +kernel) rfl (Nat.le_of_ble_eq_true rfl) (fun x C X => ?_)
  have C : Cy "<init>" K (fun r w' => r = none ∧ ∃ v', w' = Bw cB b v' 0 0 16 (fun _ => 0)) x cJ4_init_da8c8 1 RJ4 none [] wt_J4_init_da8c8 rmt_J4_init_da8c8 D tys := C
  have C0 := C.cx
  have CV := C.cv
  show J x [(0, .ref (b))] [] [(b, .inr (1, [.null, .int (0), .int (0), .int (0)]))] 0 (0) (0)
  refine j_aload_n C0 dJ4_init_da8c8_0 0 rfl ?_
  refine j_bipush C0 dJ4_init_da8c8_1 ((16 : Int32)) (by decide) ?_
  refine jt_callI (wr := []) CV X (t_J5_init_d00df K D ht b) dJ4_init_da8c8_3 (gI9 v_121) rfl (mT v_8) (mT v_122) (mT v_123) rfl hy_J5_init_d00df rfl [0] [] rfl rfl (by decide) (by decide) (by decide) rfl ⟨Nat.le_of_ble_eq_true rfl, Nat.le_of_ble_eq_true rfl⟩ (Nat.le_of_ble_eq_true rfl) ⟨Nat.le_of_ble_eq_true rfl, Nat.le_of_ble_eq_true rfl⟩ (fun v1 w2 h3 => ?_)
  obtain ⟨rfl, v2, rfl⟩ := h3
  show J x [(0, .ref (b))] [] [(b, .inr (1, [.ref (v2), .int (0), .int (0), .int (0)])), (v2, .inl (cB, 16, .inl (fun _ => 0)))] 6 (1) (34)
  exact jy_return C dJ4_init_da8c8_6 ⟨rfl, v2, rfl⟩ (Nat.le_of_ble_eq_true rfl) (Nat.le_of_ble_eq_true rfl)
