abbrev rmt_J5_append_3fe6f : Room := ({ frames := 13, cells := 1, slots := 34, locals := 270 } : Room)
abbrev wt_J5_append_3fe6f : List Cond := (Cond.code yJ5_append_3fe6f cJ5_append_3fe6f 2 (some (.object "java/lang/AbstractStringBuilder"))) :: wsT
set_option maxRecDepth 20000 in
set_option maxHeartbeats 4000000 in
theorem t_J5_append_3fe6f (K : Nat → Nat) (D : va_G) {tys : List (ClassId × FieldType)} {cB : ClassId} (ht : tys[0]? = some (cB, .byte)) (b v : Nat) (z : Int32) (n : Nat) (f : Nat → Int32) (t : List Nat) (hl : ltr t) (hm : (t ++ [32]).length ≤ 34) (hcp : cp n) (hn : t.length ≤ n) (hf : fitB f) (hT : hasT f t) : MT yJ5_append_3fe6f wt_J5_append_3fe6f rmt_J5_append_3fe6f [.ref (b), .int ((32 : Int32))] K D tys [(b, .inr (1, [.ref (v), .int (0), .int (z), .int (nI t.length)])), (v, .inl (cB, n, .inl (f)))] (fun r w' => r = some (.ref b) ∧ ∃ v' n' f', w' = Bw cB b v' (nI (t ++ [32]).length) z n' f' ∧ cp n' ∧ (t ++ [32]).length ≤ n' ∧ fitB f' ∧ hasT f' (t ++ [32])) := by
  refine mt_of (cc := cJ5_append_3fe6f) (maxL := 2) (ret := (some (.object "java/lang/AbstractStringBuilder"))) (v0 := some (.ref b)) (w0 := Bw cB b v (nI (t ++ [32]).length) z 34 (tx (t ++ [32]))) ⟨rfl, v, 34, _, rfl, Or.inr rfl, hm, fit_tx (ltr_app hl ltr_32), fun _ _ => rfl⟩ (by decide +kernel) rfl (Nat.le_of_ble_eq_true rfl) (fun x C X => ?_)
  have C : Cy "append" K (fun r w' => r = some (.ref b) ∧ ∃ v' n' f', w' = Bw cB b v' (nI (t ++ [32]).length) z n' f' ∧ cp n' ∧ (t ++ [32]).length ≤ n' ∧ fitB f' ∧ hasT f' (t ++ [32])) x cJ5_append_3fe6f 2 RJ5 (some (.object "java/lang/AbstractStringBuilder")) [] wt_J5_append_3fe6f rmt_J5_append_3fe6f D tys := C
  have C0 := C.cx
  have CV := C.cv
  show J x [(0, .ref (b)), (1, .int ((32 : Int32)))] [] [(b, .inr (1, [.ref (v), .int (0), .int (z), .int (nI t.length)])), (v, .inl (cB, n, .inl (f)))] 0 (0) (0)
  refine j_aload_n C0 dJ5_append_3fe6f_0 0 rfl ?_
  refine j_aload_n C0 dJ5_append_3fe6f_1 0 rfl ?_
  refine jt_get C0 X dJ5_append_3fe6f_2 0 rfl rfl 3 (by decide) (fin := false) rfl rfl inT_J4 (ref := "java/lang/AbstractStringBuilder") (fun _ _ h => h) (mT v_2) ?_
  refine j_iconst C0 dJ5_append_3fe6f_5 ((1 : Int32)) (by decide) ?_
  refine j_iadd C0 dJ5_append_3fe6f_6 ?_
  refine jt_eqI (b := nI (t ++ [32]).length) (by rw [add1_nI, List.length_append]; rfl) ?_
  refine jt_callU (wr := []) CV X (t_J5_ensureCapacityInternal_d00df K D ht b v (nI t.length) z n f (t ++ [32]).length hcp hf hm) dJ5_append_3fe6f_7 (gU9 v_39 v_40 v_41 v_42 v_8 v_43) rfl hy_J5_ensureCapacityInternal_d00df rfl 0 rfl rfl rfl [0, 1] [] rfl rfl (by decide) (by decide) (by decide) rfl ⟨Nat.le_of_ble_eq_true rfl, Nat.le_of_ble_eq_true rfl⟩ (Nat.le_of_ble_eq_true rfl) ⟨Nat.le_of_ble_eq_true rfl, Nat.le_of_ble_eq_true rfl⟩ (fun v1 w2 h3 => ?_)
  obtain ⟨rfl, v2, n2, f2, rfl, p1, p2, p3, p4⟩ := h3
  have p5 := hasT_to hT hn p4
  show J x [(0, .ref (b)), (1, .int ((32 : Int32)))] [] [(b, .inr (1, [.ref (v2), .int (0), .int (z), .int (nI t.length)])), (v2, .inl (cB, n2, .inl (f2)))] 10 (1) (34)
  refine j_aload_n C0 dJ5_append_3fe6f_10 0 rfl ?_
  refine jt_callU (wr := [(v2, .inl (cB, n2, .inl (f2)))]) CV X (t_J5_isLatin1_aae02 K D b v2 (nI t.length) z) dJ5_append_3fe6f_11 (gU9 v_44 v_45 v_46 v_47 v_8 v_48) rfl hy_J5_isLatin1_aae02 rfl 0 rfl rfl rfl [0] [1] rfl rfl (by decide) (by decide) (by decide) rfl ⟨Nat.le_of_ble_eq_true rfl, Nat.le_of_ble_eq_true rfl⟩ (Nat.le_of_ble_eq_true rfl) ⟨Nat.le_of_ble_eq_true rfl, Nat.le_of_ble_eq_true rfl⟩ (fun v4 w5 h6 => ?_)
  obtain ⟨rfl, rfl⟩ := h6
  refine jt_pick X [1, 0] (w' := [(b, .inr (1, [.ref (v2), .int (0), .int (z), .int (nI t.length)])), (v2, .inl (cB, n2, .inl (f2)))]) (by decide) rfl ?_
  show J x [(0, .ref (b)), (1, .int ((32 : Int32)))] [.int (1)] [(b, .inr (1, [.ref (v2), .int (0), .int (z), .int (nI t.length)])), (v2, .inl (cB, n2, .inl (f2)))] 14 (1) (34)
  refine j_if_eq C0 dJ5_append_3fe6f_14 45 (by decide) (fun c7 => absurd c7 (by decide)) (fun c7_ => ?_)
  refine j_iload_n C0 dJ5_append_3fe6f_17 1 rfl ?_
  refine jt_callS (wr := [(b, .inr (1, [.ref (v2), .int (0), .int (z), .int (nI t.length)])), (v2, .inl (cB, n2, .inl (f2)))]) CV X (t_J1_canEncode_fc78d K D) dJ5_append_3fe6f_18 (gS9 v_49 v_50 v_51 v_52) rfl hy_J1_canEncode_fc78d rfl [] [0, 1] rfl rfl (by decide) (by decide) (by decide) rfl ⟨Nat.le_of_ble_eq_true rfl, Nat.le_of_ble_eq_true rfl⟩ (Nat.le_of_ble_eq_true rfl) ⟨Nat.le_of_ble_eq_true rfl, Nat.le_of_ble_eq_true rfl⟩ (fun v8 w9 h10 => ?_)
  obtain ⟨rfl, rfl⟩ := h10
  show J x [(0, .ref (b)), (1, .int ((32 : Int32)))] [.int (1)] [(b, .inr (1, [.ref (v2), .int (0), .int (z), .int (nI t.length)])), (v2, .inl (cB, n2, .inl (f2)))] 21 (1) (34)
  refine j_if_eq C0 dJ5_append_3fe6f_21 45 (by decide) (fun c11 => absurd c11 (by decide)) (fun c11_ => ?_)
  refine j_aload_n C0 dJ5_append_3fe6f_24 0 rfl ?_
  refine jt_get C0 X dJ5_append_3fe6f_25 0 rfl rfl 0 (by decide) (fin := false) rfl rfl inT_J4 (ref := "java/lang/AbstractStringBuilder") (fun _ _ h => h) (mT v_3) ?_
  refine j_aload_n C0 dJ5_append_3fe6f_28 0 rfl ?_
  refine j_dup C0 dJ5_append_3fe6f_29 rfl ?_
  refine jt_get C0 X dJ5_append_3fe6f_30 0 rfl rfl 3 (by decide) (fin := false) rfl rfl inT_J4 (ref := "java/lang/AbstractStringBuilder") (fun _ _ h => h) (mT v_2) ?_
  refine jt_dup_x1 C0 dJ5_append_3fe6f_33 rfl rfl ?_
  refine j_iconst C0 dJ5_append_3fe6f_34 ((1 : Int32)) (by decide) ?_
  refine j_iadd C0 dJ5_append_3fe6f_35 ?_
  refine jt_eqI (b := nI (t ++ [32]).length) (by rw [add1_nI, List.length_append]; rfl) ?_
  refine jt_put C0 X dJ5_append_3fe6f_36 0 (ty0 := tyJ4) (ty := .int) rfl rfl 3 (by decide) rfl (Nat.le_of_ble_eq_true rfl) tyJ4_ok nmJ4 rfl rfl rfl inT_J4 (ref := "java/lang/AbstractStringBuilder") (fun _ _ h => h) (mT v_2) ?_
  show J x [(0, .ref (b)), (1, .int ((32 : Int32)))] [.int (nI t.length), .ref (v2)] [(b, .inr (1, [.ref (v2), .int (0), .int (z), .int (nI (t ++ [32]).length)])), (v2, .inl (cB, n2, .inl (f2)))] 39 (1) (34)
  refine j_iload_n C0 dJ5_append_3fe6f_39 1 rfl ?_
  refine jt_i2b C0 dJ5_append_3fe6f_40 ((32 : Int32)) (by decide) ?_
  refine jt_bastN C0 X dJ5_append_3fe6f_41 1 0 rfl ht (u := 32) (j := t.length) (by rw [List.length_append] at p2; exact p2) (by rcases p1 with e | e <;> omega) (by omega) ?_
  show J x [(0, .ref (b)), (1, .int ((32 : Int32)))] [] [(b, .inr (1, [.ref (v2), .int (0), .int (z), .int (nI (t ++ [32]).length)])), (v2, .inl (cB, n2, .inl (upd f2 t.length (nI 32))))] 42 (1) (34)
  refine j_goto C0 dJ5_append_3fe6f_42 75 (by decide) ?_
  refine j_aload_n C0 dJ5_append_3fe6f_75 0 rfl ?_
  exact jy_areturn C (Or.inl ⟨_, rfl⟩) dJ5_append_3fe6f_76 ⟨rfl, v2, n2, _, rfl, p1, p2, fit_upd p3 (by omega), hasT_snoc p5⟩ (Nat.le_of_ble_eq_true rfl) (Nat.le_of_ble_eq_true rfl)
abbrev rmt_J0_coderK : Room := ({ frames := 10, cells := 0, slots := 0, locals := 200 } : Room)
abbrev wt_J0_coder_7d493 : List Cond := (Cond.code yJ0_coder_7d493 cJ0_coder_7d493 1 (some .byte)) :: wsT
set_option maxRecDepth 20000 in
set_option maxHeartbeats 4000000 in
theorem t_J0_coderK (K : Nat → Nat) (D : va_G) {tys : List (ClassId × FieldType)} (i : Nat) (hi : i < 8)  : MT yJ0_coder_7d493 wt_J0_coder_7d493 rmt_J0_coderK [.ref (K i)] K D tys [] (fun r w' => r = some (.int (0)) ∧ w' = []) := by
  refine mt_of (cc := cJ0_coder_7d493) (maxL := 1) (ret := (some .byte)) (v0 := some (.int (0))) (w0 := []) ⟨rfl, rfl⟩ (by decide +kernel) rfl (Nat.le_of_ble_eq_true rfl) (fun x C X => ?_)
  have C : Cy "coder" K (fun r w' => r = some (.int (0)) ∧ w' = []) x cJ0_coder_7d493 1 RJ0 (some .byte) [] wt_J0_coder_7d493 rmt_J0_coderK D tys := C
  have C0 := C.cx
  have CV := C.cv
  show J x [(0, .ref (K i))] [] [] 0 (0) (0)
  refine jy_compact C dJ0_coder_7d493_0 (mT v_53) rfl ?_
  refine j_if_eq C0 dJ0_coder_7d493_3 13 (by decide) (fun c1 => absurd c1 (by decide)) (fun c1_ => ?_)
  refine j_aload_n C0 dJ0_coder_7d493_6 0 rfl ?_
  refine jy_coder C (i := i) hi dJ0_coder_7d493_7 (mT v_54) ?_
  refine j_goto C0 dJ0_coder_7d493_10 14 (by decide) ?_
  exact jy_zreturn C (by decide) dJ0_coder_7d493_14 ⟨rfl, rfl⟩ (Nat.le_of_ble_eq_true rfl) (Nat.le_of_ble_eq_true rfl)
abbrev rmt_J0_lengthK : Room := ({ frames := 11, cells := 0, slots := 0, locals := 220 } : Room)
abbrev wt_J0_length_8abf5 : List Cond := (Cond.code yJ0_length_8abf5 cJ0_length_8abf5 1 (some .int)) :: wsT
set_option maxRecDepth 20000 in
set_option maxHeartbeats 4000000 in
theorem t_J0_lengthK (K : Nat → Nat) (D : va_G) {tys : List (ClassId × FieldType)} (i : Nat) (hi : i < 8)  : MT yJ0_length_8abf5 wt_J0_length_8abf5 rmt_J0_lengthK [.ref (K i)] K D tys [] (fun r w' => r = some (.int (nI (litN.getD i 0))) ∧ w' = []) := by
  refine mt_of (cc := cJ0_length_8abf5) (maxL := 1) (ret := (some .int)) (v0 := some (.int (nI (litN.getD i 0)))) (w0 := []) ⟨rfl, rfl⟩ (by decide +kernel) rfl (Nat.le_of_ble_eq_true rfl) (fun x C X => ?_)
  have C : Cy "length" K (fun r w' => r = some (.int (nI (litN.getD i 0))) ∧ w' = []) x cJ0_length_8abf5 1 RJ0 (some .int) [] wt_J0_length_8abf5 rmt_J0_lengthK D tys := C
  have C0 := C.cx
  have CV := C.cv
  show J x [(0, .ref (K i))] [] [] 0 (0) (0)
  refine j_aload_n C0 dJ0_length_8abf5_0 0 rfl ?_
  refine jy_value C (i := i) hi dJ0_length_8abf5_1 (mT v_55) ?_
  refine jy_alen C (i := i) hi dJ0_length_8abf5_4 ?_
  refine j_aload_n C0 dJ0_length_8abf5_5 0 rfl ?_
  refine jt_callK (wr := []) CV X (i := i) hi (t_J0_coderK K D i hi) dJ0_length_8abf5_6 (gV9 v_56 v_57 v_58 v_59 v_60) rfl hy_J0_coder_7d493 rfl rfl [] [] rfl rfl (by decide) (by decide) (by decide) rfl ⟨Nat.le_of_ble_eq_true rfl, Nat.le_of_ble_eq_true rfl⟩ (Nat.le_of_ble_eq_true rfl) ⟨Nat.le_of_ble_eq_true rfl, Nat.le_of_ble_eq_true rfl⟩ (fun v1 w2 h3 => ?_)
  obtain ⟨rfl, rfl⟩ := h3
  show J x [(0, .ref (K i))] [.int (0), .int (nI (litN.getD i 0))] [] 9 (0) (0)
  refine jt_ishr C0 dJ0_length_8abf5_9 (nI (litN.getD i 0)) (shr0 _) ?_
  exact jy_ireturn C dJ0_length_8abf5_10 ⟨rfl, rfl⟩ (Nat.le_of_ble_eq_true rfl) (Nat.le_of_ble_eq_true rfl)
abbrev rmt_J0_getBytesK : Room := ({ frames := 11, cells := 0, slots := 0, locals := 220 } : Room)
abbrev wt_J0_getBytes_840e7 : List Cond := (Cond.code yJ0_getBytes_840e7 cJ0_getBytes_840e7 4 none) :: wsT
set_option maxRecDepth 20000 in
set_option maxHeartbeats 4000000 in
theorem t_J0_getBytesK (K : Nat → Nat) (D : va_G) {tys : List (ClassId × FieldType)} {cB : ClassId} (ht : tys[0]? = some (cB, .byte)) (i : Nat) (hi : i < 8) (v m n : Nat) (f : Nat → Int32) (hm : m + litN.getD i 0 ≤ n) (hn : n < 100000) : MT yJ0_getBytes_840e7 wt_J0_getBytes_840e7 rmt_J0_getBytesK [.ref (K i), .ref (v), .int (nI m), .int ((0 : Int32))] K D tys [(v, .inl (cB, n, .inl (f)))] (fun r w' => r = none ∧ w' = [(v, .inl (cB, n, .inl (va_cpy (fun j => (litB.getD i []).getD j 0) f 0 m (litN.getD i 0))))]) := by
  have h9 := litN_le hi
  refine mt_of (cc := cJ0_getBytes_840e7) (maxL := 4) (ret := none) (v0 := none) (w0 := [(v, .inl (cB, n, .inl (va_cpy (fun j => (litB.getD i []).getD j 0) f 0 m (litN.getD i 0))))]) ⟨rfl, rfl⟩ (by decide +kernel) rfl (Nat.le_of_ble_eq_true rfl) (fun x C X => ?_)
  have C : Cy "getBytes" K (fun r w' => r = none ∧ w' = [(v, .inl (cB, n, .inl (va_cpy (fun j => (litB.getD i []).getD j 0) f 0 m (litN.getD i 0))))]) x cJ0_getBytes_840e7 4 RJ0 none [] wt_J0_getBytes_840e7 rmt_J0_getBytesK D tys := C
  have C0 := C.cx
  have CV := C.cv
  show J x [(0, .ref (K i)), (1, .ref (v)), (2, .int (nI m)), (3, .int ((0 : Int32)))] [] [(v, .inl (cB, n, .inl (f)))] 0 (0) (0)
  refine j_aload_n C0 dJ0_getBytes_840e7_0 0 rfl ?_
  refine jt_callK (wr := [(v, .inl (cB, n, .inl (f)))]) CV X (i := i) hi (t_J0_coderK K D i hi) dJ0_getBytes_840e7_1 (gV9 v_56 v_57 v_58 v_59 v_60) rfl hy_J0_coder_7d493 rfl rfl [] [0] rfl rfl (by decide) (by decide) (by decide) rfl ⟨Nat.le_of_ble_eq_true rfl, Nat.le_of_ble_eq_true rfl⟩ (Nat.le_of_ble_eq_true rfl) ⟨Nat.le_of_ble_eq_true rfl, Nat.le_of_ble_eq_true rfl⟩ (fun v1 w2 h3 => ?_)
  obtain ⟨rfl, rfl⟩ := h3
  show J x [(0, .ref (K i)), (1, .ref (v)), (2, .int (nI m)), (3, .int ((0 : Int32)))] [.int (0)] [(v, .inl (cB, n, .inl (f)))] 4 (0) (0)
  refine j_iload_n C0 dJ0_getBytes_840e7_4 3 rfl ?_
  refine j_icmp_ne C0 dJ0_getBytes_840e7_5 28 (by decide) (fun c4 => absurd c4 (by decide)) (fun c4_ => ?_)
  refine j_aload_n C0 dJ0_getBytes_840e7_8 0 rfl ?_
  refine jy_value C (i := i) hi dJ0_getBytes_840e7_9 (mT v_55) ?_
  refine j_iconst C0 dJ0_getBytes_840e7_12 ((0 : Int32)) (by decide) ?_
  refine j_aload_n C0 dJ0_getBytes_840e7_13 1 rfl ?_
  refine j_iload_n C0 dJ0_getBytes_840e7_14 2 rfl ?_
  refine j_iload_n C0 dJ0_getBytes_840e7_15 3 rfl ?_
  refine jt_ishl C0 dJ0_getBytes_840e7_16 (nI m) (shl0 _) ?_
  refine j_aload_n C0 dJ0_getBytes_840e7_17 0 rfl ?_
  refine jy_value C (i := i) hi dJ0_getBytes_840e7_18 (mT v_55) ?_
  refine jy_alen C (i := i) hi dJ0_getBytes_840e7_21 ?_
  refine jy_copyK C X (i := i) hi dJ0_getBytes_840e7_22 0 0 rfl ht (mT v_61) (mT v_27) (mT v_28) (mT v_29) (by decide) (nI_pos (by omega)) (nI_pos (by omega)) (by rw [c0_, nI_cl (by omega)]; omega) (by rw [nI_cl (by omega), nI_cl (by omega)]; exact hm) (fun j _ => litB_fit hi _) (Nat.le_of_ble_eq_true rfl) (Nat.le_of_ble_eq_true rfl) ?_
  rw [c0_, nI_cl (by omega), nI_cl (by omega)]
  show J x [(0, .ref (K i)), (1, .ref (v)), (2, .int (nI m)), (3, .int ((0 : Int32)))] [] [(v, .inl (cB, n, .inl (va_cpy (fun j => (litB.getD i []).getD j 0) f 0 m (litN.getD i 0))))] 25 (0) (0)
  refine j_goto C0 dJ0_getBytes_840e7_25 43 (by decide) ?_
  exact jy_return C dJ0_getBytes_840e7_43 ⟨rfl, rfl⟩ (Nat.le_of_ble_eq_true rfl) (Nat.le_of_ble_eq_true rfl)
abbrev rmt_J5_inflateIfNeededFor_a7421 : Room := ({ frames := 11, cells := 0, slots := 0, locals := 220 } : Room)
abbrev wt_J5_inflateIfNeededFor_a7421 : List Cond := (Cond.code yJ5_inflateIfNeededFor_a7421 cJ5_inflateIfNeededFor_a7421 2 none) :: wsT
set_option maxRecDepth 20000 in
set_option maxHeartbeats 4000000 in
theorem t_J5_inflateIfNeededFor_a7421 (K : Nat → Nat) (D : va_G) {tys : List (ClassId × FieldType)} (b v : Nat) (c z : Int32) (i : Nat) (hi : i < 8)  : MT yJ5_inflateIfNeededFor_a7421 wt_J5_inflateIfNeededFor_a7421 rmt_J5_inflateIfNeededFor_a7421 [.ref (b), .ref (K i)] K D tys [(b, .inr (1, [.ref (v), .int (0), .int (z), .int (c)]))] (fun r w' => r = none ∧ w' = [(b, .inr (1, [.ref (v), .int (0), .int (z), .int (c)]))]) := by
  refine mt_of (cc := cJ5_inflateIfNeededFor_a7421) (maxL := 2) (ret := none) (v0 := none) (w0 := [(b, .inr (1, [.ref (v), .int (0), .int (z), .int (c)]))]) ⟨rfl, rfl⟩ (by decide +kernel) rfl (Nat.le_of_ble_eq_true rfl) (fun x C X => ?_)
  have C : Cy "inflateIfNeededFor" K (fun r w' => r = none ∧ w' = [(b, .inr (1, [.ref (v), .int (0), .int (z), .int (c)]))]) x cJ5_inflateIfNeededFor_a7421 2 RJ5 none [] wt_J5_inflateIfNeededFor_a7421 rmt_J5_inflateIfNeededFor_a7421 D tys := C
  have C0 := C.cx
  have CV := C.cv
  show J x [(0, .ref (b)), (1, .ref (K i))] [] [(b, .inr (1, [.ref (v), .int (0), .int (z), .int (c)]))] 0 (0) (0)
  refine jy_compact C dJ5_inflateIfNeededFor_a7421_0 (mT v_0) rfl ?_
  refine j_if_eq C0 dJ5_inflateIfNeededFor_a7421_3 21 (by decide) (fun c1 => absurd c1 (by decide)) (fun c1_ => ?_)
  refine j_aload_n C0 dJ5_inflateIfNeededFor_a7421_6 0 rfl ?_
  refine jt_get C0 X dJ5_inflateIfNeededFor_a7421_7 0 rfl rfl 1 (by decide) (fin := false) rfl rfl inT_J4 (ref := "java/lang/AbstractStringBuilder") (fun _ _ h => h) (mT v_1) ?_
  refine j_aload_n C0 dJ5_inflateIfNeededFor_a7421_10 1 rfl ?_
  refine jt_callK (wr := [(b, .inr (1, [.ref (v), .int (0), .int (z), .int (c)]))]) CV X (i := i) hi (t_J0_coderK K D i hi) dJ5_inflateIfNeededFor_a7421_11 (gV9 v_62 v_57 v_58 v_59 v_60) rfl hy_J0_coder_7d493 rfl rfl [] [0] rfl rfl (by decide) (by decide) (by decide) rfl ⟨Nat.le_of_ble_eq_true rfl, Nat.le_of_ble_eq_true rfl⟩ (Nat.le_of_ble_eq_true rfl) ⟨Nat.le_of_ble_eq_true rfl, Nat.le_of_ble_eq_true rfl⟩ (fun v2 w3 h4 => ?_)
  obtain ⟨rfl, rfl⟩ := h4
  show J x [(0, .ref (b)), (1, .ref (K i))] [.int (0), .int (0)] [(b, .inr (1, [.ref (v), .int (0), .int (z), .int (c)]))] 14 (0) (0)
  refine j_icmp_eq C0 dJ5_inflateIfNeededFor_a7421_14 21 (by decide) (fun c5_ => ?_) (fun c5 => absurd c5 (by decide))
  exact jy_return C dJ5_inflateIfNeededFor_a7421_21 ⟨rfl, rfl⟩ (Nat.le_of_ble_eq_true rfl) (Nat.le_of_ble_eq_true rfl)
abbrev rmt_J5_putStringAt_47b60 : Room := ({ frames := 12, cells := 0, slots := 0, locals := 243 } : Room)
abbrev wt_J5_putStringAt_47b60 : List Cond := (Cond.code yJ5_putStringAt_47b60 cJ5_putStringAt_47b60 3 none) :: wsT
set_option maxRecDepth 20000 in
set_option maxHeartbeats 4000000 in
theorem t_J5_putStringAt_47b60 (K : Nat → Nat) (D : va_G) {tys : List (ClassId × FieldType)} {cB : ClassId} (ht : tys[0]? = some (cB, .byte)) (i : Nat) (hi : i < 8) (b v : Nat) (c z : Int32) (m n : Nat) (f : Nat → Int32) (hm : m + litN.getD i 0 ≤ n) (hn : n < 100000) : MT yJ5_putStringAt_47b60 wt_J5_putStringAt_47b60 rmt_J5_putStringAt_47b60 [.ref (b), .int (nI m), .ref (K i)] K D tys [(b, .inr (1, [.ref (v), .int (0), .int (z), .int (c)])), (v, .inl (cB, n, .inl (f)))] (fun r w' => r = none ∧ w' = [(b, .inr (1, [.ref (v), .int (0), .int (z), .int (c)])), (v, .inl (cB, n, .inl (va_cpy (fun j => (litB.getD i []).getD j 0) f 0 m (litN.getD i 0))))]) := by
  refine mt_of (cc := cJ5_putStringAt_47b60) (maxL := 3) (ret := none) (v0 := none) (w0 := [(b, .inr (1, [.ref (v), .int (0), .int (z), .int (c)])), (v, .inl (cB, n, .inl (va_cpy (fun j => (litB.getD i []).getD j 0) f 0 m (litN.getD i 0))))]) ⟨rfl, rfl⟩ (by decide +kernel) rfl (Nat.le_of_ble_eq_true rfl) (fun x C X => ?_)
  have C : Cy "putStringAt" K (fun r w' => r = none ∧ w' = [(b, .inr (1, [.ref (v), .int (0), .int (z), .int (c)])), (v, .inl (cB, n, .inl (va_cpy (fun j => (litB.getD i []).getD j 0) f 0 m (litN.getD i 0))))]) x cJ5_putStringAt_47b60 3 RJ5 none [] wt_J5_putStringAt_47b60 rmt_J5_putStringAt_47b60 D tys := C
  have C0 := C.cx
  have CV := C.cv
  show J x [(0, .ref (b)), (1, .int (nI m)), (2, .ref (K i))] [] [(b, .inr (1, [.ref (v), .int (0), .int (z), .int (c)])), (v, .inl (cB, n, .inl (f)))] 0 (0) (0)
  refine j_aload_n C0 dJ5_putStringAt_47b60_0 0 rfl ?_
  refine j_aload_n C0 dJ5_putStringAt_47b60_1 2 rfl ?_
  refine jt_callU (wr := [(v, .inl (cB, n, .inl (f)))]) CV X (t_J5_inflateIfNeededFor_a7421 K D b v c z i hi) dJ5_putStringAt_47b60_2 (gU9 v_63 v_64 v_65 v_66 v_8 v_67) rfl hy_J5_inflateIfNeededFor_a7421 rfl 0 rfl rfl rfl [0] [1] rfl rfl (by decide) (by decide) (by decide) rfl ⟨Nat.le_of_ble_eq_true rfl, Nat.le_of_ble_eq_true rfl⟩ (Nat.le_of_ble_eq_true rfl) ⟨Nat.le_of_ble_eq_true rfl, Nat.le_of_ble_eq_true rfl⟩ (fun v1 w2 h3 => ?_)
  obtain ⟨rfl, rfl⟩ := h3
  refine jt_pick X [1, 0] (w' := [(b, .inr (1, [.ref (v), .int (0), .int (z), .int (c)])), (v, .inl (cB, n, .inl (f)))]) (by decide) rfl ?_
  show J x [(0, .ref (b)), (1, .int (nI m)), (2, .ref (K i))] [] [(b, .inr (1, [.ref (v), .int (0), .int (z), .int (c)])), (v, .inl (cB, n, .inl (f)))] 5 (0) (0)
  refine j_aload_n C0 dJ5_putStringAt_47b60_5 2 rfl ?_
  refine j_aload_n C0 dJ5_putStringAt_47b60_6 0 rfl ?_
  refine jt_get C0 X dJ5_putStringAt_47b60_7 0 rfl rfl 0 (by decide) (fin := false) rfl rfl inT_J4 (ref := "java/lang/AbstractStringBuilder") (fun _ _ h => h) (mT v_3) ?_
  refine j_iload_n C0 dJ5_putStringAt_47b60_10 1 rfl ?_
  refine j_aload_n C0 dJ5_putStringAt_47b60_11 0 rfl ?_
  refine jt_get C0 X dJ5_putStringAt_47b60_12 0 rfl rfl 1 (by decide) (fin := false) rfl rfl inT_J4 (ref := "java/lang/AbstractStringBuilder") (fun _ _ h => h) (mT v_1) ?_
  refine jt_callK (wr := [(b, .inr (1, [.ref (v), .int (0), .int (z), .int (c)]))]) CV X (i := i) hi (t_J0_getBytesK K D ht i hi v m n f hm hn) dJ5_putStringAt_47b60_15 (gV9 v_68 v_69 v_70 v_59 v_71) rfl hy_J0_getBytes_840e7 rfl rfl [1] [0] rfl rfl (by decide) (by decide) (by decide) rfl ⟨Nat.le_of_ble_eq_true rfl, Nat.le_of_ble_eq_true rfl⟩ (Nat.le_of_ble_eq_true rfl) ⟨Nat.le_of_ble_eq_true rfl, Nat.le_of_ble_eq_true rfl⟩ (fun v4 w5 h6 => ?_)
  obtain ⟨rfl, rfl⟩ := h6
  show J x [(0, .ref (b)), (1, .int (nI m)), (2, .ref (K i))] [] [(b, .inr (1, [.ref (v), .int (0), .int (z), .int (c)])), (v, .inl (cB, n, .inl (va_cpy (fun j => (litB.getD i []).getD j 0) f 0 m (litN.getD i 0))))] 18 (0) (0)
  exact jy_return C dJ5_putStringAt_47b60_18 ⟨rfl, rfl⟩ (Nat.le_of_ble_eq_true rfl) (Nat.le_of_ble_eq_true rfl)
abbrev rmt_J5_append_cf1ce : Room := ({ frames := 13, cells := 1, slots := 34, locals := 270 } : Room)
abbrev wt_J5_append_cf1ce : List Cond := (Cond.code yJ5_append_cf1ce cJ5_append_cf1ce 3 (some (.object "java/lang/AbstractStringBuilder"))) :: wsT
set_option maxRecDepth 20000 in
set_option maxHeartbeats 4000000 in
theorem t_J5_append_cf1ce (K : Nat → Nat) (D : va_G) {tys : List (ClassId × FieldType)} {cB : ClassId} (ht : tys[0]? = some (cB, .byte)) (b v : Nat) (z : Int32) (n : Nat) (f : Nat → Int32) (t : List Nat) (i : Nat) (hi : i < 8) (hl : ltr t) (hm : (t ++ litL i).length ≤ 34) (hcp : cp n) (hn : t.length ≤ n) (hf : fitB f) (hT : hasT f t) : MT yJ5_append_cf1ce wt_J5_append_cf1ce rmt_J5_append_cf1ce [.ref (b), .ref (K i)] K D tys [(b, .inr (1, [.ref (v), .int (0), .int (z), .int (nI t.length)])), (v, .inl (cB, n, .inl (f)))] (fun r w' => r = some (.ref b) ∧ ∃ v' n' f', w' = Bw cB b v' (nI (t ++ litL i).length) z n' f' ∧ cp n' ∧ (t ++ litL i).length ≤ n' ∧ fitB f' ∧ hasT f' (t ++ litL i)) := by
  refine mt_of (cc := cJ5_append_cf1ce) (maxL := 3) (ret := (some (.object "java/lang/AbstractStringBuilder"))) (v0 := some (.ref b)) (w0 := Bw cB b v (nI (t ++ litL i).length) z 34 (tx (t ++ litL i))) ⟨rfl, v, 34, _, rfl, Or.inr rfl, hm, fit_tx (ltr_app hl (litL_ltr hi)), fun _ _ => rfl⟩ (by decide +kernel) rfl (Nat.le_of_ble_eq_true rfl) (fun x C X => ?_)
  have C : Cy "append" K (fun r w' => r = some (.ref b) ∧ ∃ v' n' f', w' = Bw cB b v' (nI (t ++ litL i).length) z n' f' ∧ cp n' ∧ (t ++ litL i).length ≤ n' ∧ fitB f' ∧ hasT f' (t ++ litL i)) x cJ5_append_cf1ce 3 RJ5 (some (.object "java/lang/AbstractStringBuilder")) [] wt_J5_append_cf1ce rmt_J5_append_cf1ce D tys := C
  have C0 := C.cx
  have CV := C.cv
  show J x [(0, .ref (b)), (1, .ref (K i))] [] [(b, .inr (1, [.ref (v), .int (0), .int (z), .int (nI t.length)])), (v, .inl (cB, n, .inl (f)))] 0 (0) (0)
  refine j_aload_n C0 dJ5_append_cf1ce_0 1 rfl ?_
  refine j_ifnonnull C0 dJ5_append_cf1ce_1 9 (by decide) ?_
  refine j_aload_n C0 dJ5_append_cf1ce_9 1 rfl ?_
  refine jt_callK (wr := [(b, .inr (1, [.ref (v), .int (0), .int (z), .int (nI t.length)])), (v, .inl (cB, n, .inl (f)))]) CV X (i := i) hi (t_J0_lengthK K D i hi) dJ5_append_cf1ce_10 (gV9 v_72 v_73 v_74 v_59 v_75) rfl hy_J0_length_8abf5 rfl rfl [] [0, 1] rfl rfl (by decide) (by decide) (by decide) rfl ⟨Nat.le_of_ble_eq_true rfl, Nat.le_of_ble_eq_true rfl⟩ (Nat.le_of_ble_eq_true rfl) ⟨Nat.le_of_ble_eq_true rfl, Nat.le_of_ble_eq_true rfl⟩ (fun v1 w2 h3 => ?_)
  obtain ⟨rfl, rfl⟩ := h3
  show J x [(0, .ref (b)), (1, .ref (K i))] [.int (nI (litN.getD i 0))] [(b, .inr (1, [.ref (v), .int (0), .int (z), .int (nI t.length)])), (v, .inl (cB, n, .inl (f)))] 13 (0) (0)
  refine j_istore_n C0 dJ5_append_cf1ce_13 (by decide) [(2, .int (nI (litN.getD i 0))), (0, .ref (b)), (1, .ref (K i))] rfl ?_
  refine j_aload_n C0 dJ5_append_cf1ce_14 1 rfl ?_
  refine j_aload_n C0 dJ5_append_cf1ce_15 1 rfl ?_
  refine jt_get C0 X dJ5_append_cf1ce_16 0 rfl rfl 3 (by decide) (fin := false) rfl rfl inT_J4 (ref := "java/lang/AbstractStringBuilder") (fun _ _ h => h) (mT v_2) ?_
  refine j_iload_n C0 dJ5_append_cf1ce_19 0 rfl ?_
  refine j_iadd C0 dJ5_append_cf1ce_20 ?_
  refine jt_eqI (b := nI (t ++ litL i).length) (by rw [add_nI, List.length_append, litL_len hi]) ?_
  refine jt_callU (wr := []) CV X (t_J5_ensureCapacityInternal_d00df K D ht b v (nI t.length) z n f (t ++ litL i).length hcp hf hm) dJ5_append_cf1ce_21 (gU9 v_39 v_40 v_41 v_42 v_8 v_43) rfl hy_J5_ensureCapacityInternal_d00df rfl 0 rfl rfl rfl [0, 1] [] rfl rfl (by decide) (by decide) (by decide) rfl ⟨Nat.le_of_ble_eq_true rfl, Nat.le_of_ble_eq_true rfl⟩ (Nat.le_of_ble_eq_true rfl) ⟨Nat.le_of_ble_eq_true rfl, Nat.le_of_ble_eq_true rfl⟩ (fun v4 w5 h6 => ?_)
  obtain ⟨rfl, v2, n2, f2, rfl, p1, p2, p3, p4⟩ := h6
  have p5 := hasT_to hT hn p4
  show J x [(2, .int (nI (litN.getD i 0))), (0, .ref (b)), (1, .ref (K i))] [] [(b, .inr (1, [.ref (v2), .int (0), .int (z), .int (nI t.length)])), (v2, .inl (cB, n2, .inl (f2)))] 24 (1) (34)
  refine j_aload_n C0 dJ5_append_cf1ce_24 1 rfl ?_
  refine j_aload_n C0 dJ5_append_cf1ce_25 1 rfl ?_
  refine jt_get C0 X dJ5_append_cf1ce_26 0 rfl rfl 3 (by decide) (fin := false) rfl rfl inT_J4 (ref := "java/lang/AbstractStringBuilder") (fun _ _ h => h) (mT v_2) ?_
  refine j_aload_n C0 dJ5_append_cf1ce_29 2 rfl ?_
  refine jt_callU (wr := []) CV X (t_J5_putStringAt_47b60 K D ht i hi b v2 (nI t.length) z t.length n2 f2 (by rw [List.length_append, litL_len hi] at p2; exact p2) (by rcases p1 with e | e <;> omega)) dJ5_append_cf1ce_30 (gU9 v_76 v_77 v_78 v_79 v_8 v_80) rfl hy_J5_putStringAt_47b60 rfl 0 rfl rfl rfl [0, 1] [] rfl rfl (by decide) (by decide) (by decide) rfl ⟨Nat.le_of_ble_eq_true rfl, Nat.le_of_ble_eq_true rfl⟩ (Nat.le_of_ble_eq_true rfl) ⟨Nat.le_of_ble_eq_true rfl, Nat.le_of_ble_eq_true rfl⟩ (fun v7 w8 h9 => ?_)
  obtain ⟨rfl, rfl⟩ := h9
  show J x [(2, .int (nI (litN.getD i 0))), (0, .ref (b)), (1, .ref (K i))] [] [(b, .inr (1, [.ref (v2), .int (0), .int (z), .int (nI t.length)])), (v2, .inl (cB, n2, .inl (va_cpy (fun j => (litB.getD i []).getD j 0) f2 0 t.length (litN.getD i 0))))] 33 (1) (34)
  refine j_aload_n C0 dJ5_append_cf1ce_33 1 rfl ?_
  refine j_dup C0 dJ5_append_cf1ce_34 rfl ?_
  refine jt_get C0 X dJ5_append_cf1ce_35 0 rfl rfl 3 (by decide) (fin := false) rfl rfl inT_J4 (ref := "java/lang/AbstractStringBuilder") (fun _ _ h => h) (mT v_2) ?_
  refine j_iload_n C0 dJ5_append_cf1ce_38 0 rfl ?_
  refine j_iadd C0 dJ5_append_cf1ce_39 ?_
  refine jt_eqI (b := nI (t ++ litL i).length) (by rw [add_nI, List.length_append, litL_len hi]) ?_
  refine jt_put C0 X dJ5_append_cf1ce_40 0 (ty0 := tyJ4) (ty := .int) rfl rfl 3 (by decide) rfl (Nat.le_of_ble_eq_true rfl) tyJ4_ok nmJ4 rfl rfl rfl inT_J4 (ref := "java/lang/AbstractStringBuilder") (fun _ _ h => h) (mT v_2) ?_
  show J x [(2, .int (nI (litN.getD i 0))), (0, .ref (b)), (1, .ref (K i))] [] [(b, .inr (1, [.ref (v2), .int (0), .int (z), .int (nI (t ++ litL i).length)])), (v2, .inl (cB, n2, .inl (va_cpy (fun j => (litB.getD i []).getD j 0) f2 0 t.length (litN.getD i 0))))] 43 (1) (34)
  refine j_aload_n C0 dJ5_append_cf1ce_43 1 rfl ?_
  exact jy_areturn C (Or.inl ⟨_, rfl⟩) dJ5_append_cf1ce_44 ⟨rfl, v2, n2, _, rfl, p1, p2, fit_cpy (fun j => litB_fit hi j) p3, hasT_lit hi p5⟩ (Nat.le_of_ble_eq_true rfl) (Nat.le_of_ble_eq_true rfl)
abbrev rmt_J5_append_c97b9 : Room := ({ frames := 13, cells := 1, slots := 34, locals := 270 } : Room)
abbrev wt_J5_append_c97b9 : List Cond := (Cond.code yJ5_append_c97b9 cJ5_append_c97b9 4 (some (.object "java/lang/AbstractStringBuilder"))) :: wsT
set_option maxRecDepth 20000 in
set_option maxHeartbeats 4000000 in
theorem t_J5_append_c97b9 (K : Nat → Nat) (D : va_G) {tys : List (ClassId × FieldType)} {cB : ClassId} (ht : tys[0]? = some (cB, .byte)) (b v : Nat) (z : Int32) (n : Nat) (f : Nat → Int32) (t : List Nat) (k : Nat) (hk : k ≤ 10000) (hl : ltr t) (hm : (t ++ dgL k).length ≤ 34) (hcp : cp n) (hn : t.length ≤ n) (hf : fitB f) (hT : hasT f t) : MT yJ5_append_c97b9 wt_J5_append_c97b9 rmt_J5_append_c97b9 [.ref (b), .int (nI k)] K D tys [(b, .inr (1, [.ref (v), .int (0), .int (z), .int (nI t.length)])), (v, .inl (cB, n, .inl (f)))] (fun r w' => r = some (.ref b) ∧ ∃ v' n' f', w' = Bw cB b v' (nI (t ++ dgL k).length) z n' f' ∧ cp n' ∧ (t ++ dgL k).length ≤ n' ∧ fitB f' ∧ hasT f' (t ++ dgL k)) := by
  refine mt_of (cc := cJ5_append_c97b9) (maxL := 4) (ret := (some (.object "java/lang/AbstractStringBuilder"))) (v0 := some (.ref b)) (w0 := Bw cB b v (nI (t ++ dgL k).length) z 34 (tx (t ++ dgL k))) ⟨rfl, v, 34, _, rfl, Or.inr rfl, hm, fit_tx (ltr_app hl (dgL_ltr hk)), fun _ _ => rfl⟩ (by decide +kernel) rfl (Nat.le_of_ble_eq_true rfl) (fun x C X => ?_)
  have C : Cy "append" K (fun r w' => r = some (.ref b) ∧ ∃ v' n' f', w' = Bw cB b v' (nI (t ++ dgL k).length) z n' f' ∧ cp n' ∧ (t ++ dgL k).length ≤ n' ∧ fitB f' ∧ hasT f' (t ++ dgL k)) x cJ5_append_c97b9 4 RJ5 (some (.object "java/lang/AbstractStringBuilder")) [] wt_J5_append_c97b9 rmt_J5_append_c97b9 D tys := C
  have C0 := C.cx
  have CV := C.cv
  show J x [(0, .ref (b)), (1, .int (nI k))] [] [(b, .inr (1, [.ref (v), .int (0), .int (z), .int (nI t.length)])), (v, .inl (cB, n, .inl (f)))] 0 (0) (0)
  refine j_aload_n C0 dJ5_append_c97b9_0 0 rfl ?_
  refine jt_get C0 X dJ5_append_c97b9_1 0 rfl rfl 3 (by decide) (fin := false) rfl rfl inT_J4 (ref := "java/lang/AbstractStringBuilder") (fun _ _ h => h) (mT v_2) ?_
  refine j_istore_n C0 dJ5_append_c97b9_4 (by decide) [(2, .int (nI t.length)), (0, .ref (b)), (1, .int (nI k))] rfl ?_
  refine j_iload_n C0 dJ5_append_c97b9_5 0 rfl ?_
  refine j_iload_n C0 dJ5_append_c97b9_6 2 rfl ?_
  refine jt_callS (wr := [(b, .inr (1, [.ref (v), .int (0), .int (z), .int (nI t.length)])), (v, .inl (cB, n, .inl (f)))]) CV X (t_J6_stringSize_0f7a4 K D k hk) dJ5_append_c97b9_7 (gS9 v_81 v_82 v_83 v_84) rfl hy_J6_stringSize_0f7a4 rfl [] [0, 1] rfl rfl (by decide) (by decide) (by decide) rfl ⟨Nat.le_of_ble_eq_true rfl, Nat.le_of_ble_eq_true rfl⟩ (Nat.le_of_ble_eq_true rfl) ⟨Nat.le_of_ble_eq_true rfl, Nat.le_of_ble_eq_true rfl⟩ (fun v1 w2 h3 => ?_)
  obtain ⟨rfl, rfl⟩ := h3
  show J x [(2, .int (nI t.length)), (0, .ref (b)), (1, .int (nI k))] [.int (nI (ds k)), .int (nI t.length)] [(b, .inr (1, [.ref (v), .int (0), .int (z), .int (nI t.length)])), (v, .inl (cB, n, .inl (f)))] 10 (0) (0)
  refine j_iadd C0 dJ5_append_c97b9_10 ?_
  refine jt_eqI (b := nI (t ++ dgL k).length) (by rw [add_nI, List.length_append, dgL_len]) ?_
  refine j_istore_n C0 dJ5_append_c97b9_11 (by decide) [(3, .int (nI (t ++ dgL k).length)), (2, .int (nI t.length)), (0, .ref (b)), (1, .int (nI k))] rfl ?_
  refine j_aload_n C0 dJ5_append_c97b9_12 2 rfl ?_
  refine j_iload_n C0 dJ5_append_c97b9_13 0 rfl ?_
  refine jt_callU (wr := []) CV X (t_J5_ensureCapacityInternal_d00df K D ht b v (nI t.length) z n f (t ++ dgL k).length hcp hf hm) dJ5_append_c97b9_14 (gU9 v_39 v_40 v_41 v_42 v_8 v_43) rfl hy_J5_ensureCapacityInternal_d00df rfl 0 rfl rfl rfl [0, 1] [] rfl rfl (by decide) (by decide) (by decide) rfl ⟨Nat.le_of_ble_eq_true rfl, Nat.le_of_ble_eq_true rfl⟩ (Nat.le_of_ble_eq_true rfl) ⟨Nat.le_of_ble_eq_true rfl, Nat.le_of_ble_eq_true rfl⟩ (fun v4 w5 h6 => ?_)
  obtain ⟨rfl, v2, n2, f2, rfl, p1, p2, p3, p4⟩ := h6
  have p5 := hasT_to hT hn p4
  show J x [(3, .int (nI (t ++ dgL k).length)), (2, .int (nI t.length)), (0, .ref (b)), (1, .int (nI k))] [] [(b, .inr (1, [.ref (v2), .int (0), .int (z), .int (nI t.length)])), (v2, .inl (cB, n2, .inl (f2)))] 17 (1) (34)
  refine j_aload_n C0 dJ5_append_c97b9_17 2 rfl ?_
  refine jt_callU (wr := [(v2, .inl (cB, n2, .inl (f2)))]) CV X (t_J5_isLatin1_aae02 K D b v2 (nI t.length) z) dJ5_append_c97b9_18 (gU9 v_44 v_45 v_46 v_47 v_8 v_48) rfl hy_J5_isLatin1_aae02 rfl 0 rfl rfl rfl [0] [1] rfl rfl (by decide) (by decide) (by decide) rfl ⟨Nat.le_of_ble_eq_true rfl, Nat.le_of_ble_eq_true rfl⟩ (Nat.le_of_ble_eq_true rfl) ⟨Nat.le_of_ble_eq_true rfl, Nat.le_of_ble_eq_true rfl⟩ (fun v7 w8 h9 => ?_)
  obtain ⟨rfl, rfl⟩ := h9
  refine jt_pick X [1, 0] (w' := [(b, .inr (1, [.ref (v2), .int (0), .int (z), .int (nI t.length)])), (v2, .inl (cB, n2, .inl (f2)))]) (by decide) rfl ?_
  show J x [(3, .int (nI (t ++ dgL k).length)), (2, .int (nI t.length)), (0, .ref (b)), (1, .int (nI k))] [.int (1)] [(b, .inr (1, [.ref (v2), .int (0), .int (z), .int (nI t.length)])), (v2, .inl (cB, n2, .inl (f2)))] 21 (1) (34)
  refine j_if_eq C0 dJ5_append_c97b9_21 37 (by decide) (fun c10 => absurd c10 (by decide)) (fun c10_ => ?_)
  refine j_iload_n C0 dJ5_append_c97b9_24 3 rfl ?_
  refine j_iload_n C0 dJ5_append_c97b9_25 0 rfl ?_
  refine j_aload_n C0 dJ5_append_c97b9_26 2 rfl ?_
  refine jt_get C0 X dJ5_append_c97b9_27 0 rfl rfl 0 (by decide) (fin := false) rfl rfl inT_J4 (ref := "java/lang/AbstractStringBuilder") (fun _ _ h => h) (mT v_3) ?_
  refine jt_callS (wr := [(b, .inr (1, [.ref (v2), .int (0), .int (z), .int (nI t.length)]))]) CV X (t_J6_getChars_ba4f3 K D ht v2 n2 (t ++ dgL k).length k f2 hk (by rw [List.length_append, dgL_len]; omega) p2 (by rcases p1 with e | e <;> omega)) dJ5_append_c97b9_30 (gS9 v_85 v_86 v_83 v_87) rfl hy_J6_getChars_ba4f3 rfl [1] [0] rfl rfl (by decide) (by decide) (by decide) rfl ⟨Nat.le_of_ble_eq_true rfl, Nat.le_of_ble_eq_true rfl⟩ (Nat.le_of_ble_eq_true rfl) ⟨Nat.le_of_ble_eq_true rfl, Nat.le_of_ble_eq_true rfl⟩ (fun v11 w12 h13 => ?_)
  obtain ⟨⟨a9, rfl⟩, rfl⟩ := h13
  show J x [(3, .int (nI (t ++ dgL k).length)), (2, .int (nI t.length)), (0, .ref (b)), (1, .int (nI k))] [.int (a9)] [(b, .inr (1, [.ref (v2), .int (0), .int (z), .int (nI t.length)])), (v2, .inl (cB, n2, .inl (gcR f2 (t ++ dgL k).length k)))] 33 (1) (34)
  refine j_pop C0 dJ5_append_c97b9_33 rfl ?_
  refine j_goto C0 dJ5_append_c97b9_34 48 (by decide) ?_
  refine j_aload_n C0 dJ5_append_c97b9_48 2 rfl ?_
  refine j_iload_n C0 dJ5_append_c97b9_49 0 rfl ?_
  refine jt_put C0 X dJ5_append_c97b9_50 0 (ty0 := tyJ4) (ty := .int) rfl rfl 3 (by decide) rfl (Nat.le_of_ble_eq_true rfl) tyJ4_ok nmJ4 rfl rfl rfl inT_J4 (ref := "java/lang/AbstractStringBuilder") (fun _ _ h => h) (mT v_2) ?_
  show J x [(3, .int (nI (t ++ dgL k).length)), (2, .int (nI t.length)), (0, .ref (b)), (1, .int (nI k))] [] [(b, .inr (1, [.ref (v2), .int (0), .int (z), .int (nI (t ++ dgL k).length)])), (v2, .inl (cB, n2, .inl (gcR f2 (t ++ dgL k).length k)))] 53 (1) (34)
  refine j_aload_n C0 dJ5_append_c97b9_53 2 rfl ?_
  exact jy_areturn C (Or.inl ⟨_, rfl⟩) dJ5_append_c97b9_54 ⟨rfl, v2, n2, _, rfl, p1, p2, fit_gcR p3 hk, hasT_dig hk p5⟩ (Nat.le_of_ble_eq_true rfl) (Nat.le_of_ble_eq_true rfl)
abbrev rmt_J4_append_cf468 : Room := ({ frames := 14, cells := 1, slots := 34, locals := 291 } : Room)
abbrev wt_J4_append_cf468 : List Cond := (Cond.code yJ4_append_cf468 cJ4_append_cf468 2 (some (.object "java/lang/StringBuilder"))) :: wsT
set_option maxRecDepth 20000 in
set_option maxHeartbeats 4000000 in
theorem t_J4_append_cf468 (K : Nat → Nat) (D : va_G) {tys : List (ClassId × FieldType)} {cB : ClassId} (ht : tys[0]? = some (cB, .byte)) (b v : Nat) (z : Int32) (n : Nat) (f : Nat → Int32) (t : List Nat) (hl : ltr t) (hm : (t ++ [32]).length ≤ 34) (hcp : cp n) (hn : t.length ≤ n) (hf : fitB f) (hT : hasT f t) : MT yJ4_append_cf468 wt_J4_append_cf468 rmt_J4_append_cf468 [.ref (b), .int ((32 : Int32))] K D tys [(b, .inr (1, [.ref (v), .int (0), .int (z), .int (nI t.length)])), (v, .inl (cB, n, .inl (f)))] (fun r w' => r = some (.ref b) ∧ ∃ v' n' f', w' = Bw cB b v' (nI (t ++ [32]).length) z n' f' ∧ cp n' ∧ (t ++ [32]).length ≤ n' ∧ fitB f' ∧ hasT f' (t ++ [32])) := by
  refine mt_of (cc := cJ4_append_cf468) (maxL := 2) (ret := (some (.object "java/lang/StringBuilder"))) (v0 := some (.ref b)) (w0 := Bw cB b v (nI (t ++ [32]).length) z 34 (tx (t ++ [32]))) ⟨rfl, v, 34, _, rfl, Or.inr rfl, hm, fit_tx (ltr_app hl ltr_32), fun _ _ => rfl⟩ (by decide +kernel) rfl (Nat.le_of_ble_eq_true rfl) (fun x C X => ?_)
  have C : Cy "append" K (fun r w' => r = some (.ref b) ∧ ∃ v' n' f', w' = Bw cB b v' (nI (t ++ [32]).length) z n' f' ∧ cp n' ∧ (t ++ [32]).length ≤ n' ∧ fitB f' ∧ hasT f' (t ++ [32])) x cJ4_append_cf468 2 RJ4 (some (.object "java/lang/StringBuilder")) [] wt_J4_append_cf468 rmt_J4_append_cf468 D tys := C
  have C0 := C.cx
  have CV := C.cv
  show J x [(0, .ref (b)), (1, .int ((32 : Int32)))] [] [(b, .inr (1, [.ref (v), .int (0), .int (z), .int (nI t.length)])), (v, .inl (cB, n, .inl (f)))] 0 (0) (0)
  refine j_aload_n C0 dJ4_append_cf468_0 0 rfl ?_
  refine j_iload_n C0 dJ4_append_cf468_1 1 rfl ?_
  refine jt_callSU (wr := []) CV X (t_J5_append_3fe6f K D ht b v z n f t hl hm hcp hn hf hT) dJ4_append_cf468_2 (gSU9 v_88 v_89 v_6 v_90 v_8 v_91) rfl ⟨by decide +kernel, hy_J5_append_3fe6f.2.2⟩ rfl 0 rfl rfl [0, 1] [] rfl rfl (by decide) (by decide) (by decide) rfl ⟨Nat.le_of_ble_eq_true rfl, Nat.le_of_ble_eq_true rfl⟩ (Nat.le_of_ble_eq_true rfl) ⟨Nat.le_of_ble_eq_true rfl, Nat.le_of_ble_eq_true rfl⟩ (fun v1 w2 h3 => ?_)
  obtain ⟨rfl, v2, n2, f2, rfl, p1, p2, p3, p4⟩ := h3
  show J x [(0, .ref (b)), (1, .int ((32 : Int32)))] [.ref (b)] [(b, .inr (1, [.ref (v2), .int (0), .int (z), .int (nI (t ++ [32]).length)])), (v2, .inl (cB, n2, .inl (f2)))] 5 (1) (34)
  refine j_pop C0 dJ4_append_cf468_5 rfl ?_
  refine j_aload_n C0 dJ4_append_cf468_6 0 rfl ?_
  exact jy_areturn C (Or.inl ⟨_, rfl⟩) dJ4_append_cf468_7 ⟨rfl, v2, n2, f2, rfl, p1, p2, p3, p4⟩ (Nat.le_of_ble_eq_true rfl) (Nat.le_of_ble_eq_true rfl)
abbrev rmt_J4_append_15ec4 : Room := ({ frames := 14, cells := 1, slots := 34, locals := 292 } : Room)
abbrev wt_J4_append_15ec4 : List Cond := (Cond.code yJ4_append_15ec4 cJ4_append_15ec4 2 (some (.object "java/lang/StringBuilder"))) :: wsT
set_option maxRecDepth 20000 in
set_option maxHeartbeats 4000000 in
theorem t_J4_append_15ec4 (K : Nat → Nat) (D : va_G) {tys : List (ClassId × FieldType)} {cB : ClassId} (ht : tys[0]? = some (cB, .byte)) (b v : Nat) (z : Int32) (n : Nat) (f : Nat → Int32) (t : List Nat) (i : Nat) (hi : i < 8) (hl : ltr t) (hm : (t ++ litL i).length ≤ 34) (hcp : cp n) (hn : t.length ≤ n) (hf : fitB f) (hT : hasT f t) : MT yJ4_append_15ec4 wt_J4_append_15ec4 rmt_J4_append_15ec4 [.ref (b), .ref (K i)] K D tys [(b, .inr (1, [.ref (v), .int (0), .int (z), .int (nI t.length)])), (v, .inl (cB, n, .inl (f)))] (fun r w' => r = some (.ref b) ∧ ∃ v' n' f', w' = Bw cB b v' (nI (t ++ litL i).length) z n' f' ∧ cp n' ∧ (t ++ litL i).length ≤ n' ∧ fitB f' ∧ hasT f' (t ++ litL i)) := by
  refine mt_of (cc := cJ4_append_15ec4) (maxL := 2) (ret := (some (.object "java/lang/StringBuilder"))) (v0 := some (.ref b)) (w0 := Bw cB b v (nI (t ++ litL i).length) z 34 (tx (t ++ litL i))) ⟨rfl, v, 34, _, rfl, Or.inr rfl, hm, fit_tx (ltr_app hl (litL_ltr hi)), fun _ _ => rfl⟩ (by decide +kernel) rfl (Nat.le_of_ble_eq_true rfl) (fun x C X => ?_)
  have C : Cy "append" K (fun r w' => r = some (.ref b) ∧ ∃ v' n' f', w' = Bw cB b v' (nI (t ++ litL i).length) z n' f' ∧ cp n' ∧ (t ++ litL i).length ≤ n' ∧ fitB f' ∧ hasT f' (t ++ litL i)) x cJ4_append_15ec4 2 RJ4 (some (.object "java/lang/StringBuilder")) [] wt_J4_append_15ec4 rmt_J4_append_15ec4 D tys := C
  have C0 := C.cx
  have CV := C.cv
  show J x [(0, .ref (b)), (1, .ref (K i))] [] [(b, .inr (1, [.ref (v), .int (0), .int (z), .int (nI t.length)])), (v, .inl (cB, n, .inl (f)))] 0 (0) (0)
  refine j_aload_n C0 dJ4_append_15ec4_0 0 rfl ?_
  refine j_aload_n C0 dJ4_append_15ec4_1 1 rfl ?_
  refine jt_callSU (wr := []) CV X (t_J5_append_cf1ce K D ht b v z n f t i hi hl hm hcp hn hf hT) dJ4_append_15ec4_2 (gSU9 v_92 v_93 v_6 v_94 v_8 v_95) rfl ⟨by decide +kernel, hy_J5_append_cf1ce.2.2⟩ rfl 0 rfl rfl [0, 1] [] rfl rfl (by decide) (by decide) (by decide) rfl ⟨Nat.le_of_ble_eq_true rfl, Nat.le_of_ble_eq_true rfl⟩ (Nat.le_of_ble_eq_true rfl) ⟨Nat.le_of_ble_eq_true rfl, Nat.le_of_ble_eq_true rfl⟩ (fun v1 w2 h3 => ?_)
  obtain ⟨rfl, v2, n2, f2, rfl, p1, p2, p3, p4⟩ := h3
  show J x [(0, .ref (b)), (1, .ref (K i))] [.ref (b)] [(b, .inr (1, [.ref (v2), .int (0), .int (z), .int (nI (t ++ litL i).length)])), (v2, .inl (cB, n2, .inl (f2)))] 5 (1) (34)
  refine j_pop C0 dJ4_append_15ec4_5 rfl ?_
  refine j_aload_n C0 dJ4_append_15ec4_6 0 rfl ?_
  exact jy_areturn C (Or.inl ⟨_, rfl⟩) dJ4_append_15ec4_7 ⟨rfl, v2, n2, f2, rfl, p1, p2, p3, p4⟩ (Nat.le_of_ble_eq_true rfl) (Nat.le_of_ble_eq_true rfl)
abbrev rmt_J4_append_bf812 : Room := ({ frames := 14, cells := 1, slots := 34, locals := 293 } : Room)
abbrev wt_J4_append_bf812 : List Cond := (Cond.code yJ4_append_bf812 cJ4_append_bf812 2 (some (.object "java/lang/StringBuilder"))) :: wsT
set_option maxRecDepth 20000 in
set_option maxHeartbeats 4000000 in
theorem t_J4_append_bf812 (K : Nat → Nat) (D : va_G) {tys : List (ClassId × FieldType)} {cB : ClassId} (ht : tys[0]? = some (cB, .byte)) (b v : Nat) (z : Int32) (n : Nat) (f : Nat → Int32) (t : List Nat) (k : Nat) (hk : k ≤ 10000) (hl : ltr t) (hm : (t ++ dgL k).length ≤ 34) (hcp : cp n) (hn : t.length ≤ n) (hf : fitB f) (hT : hasT f t) : MT yJ4_append_bf812 wt_J4_append_bf812 rmt_J4_append_bf812 [.ref (b), .int (nI k)] K D tys [(b, .inr (1, [.ref (v), .int (0), .int (z), .int (nI t.length)])), (v, .inl (cB, n, .inl (f)))] (fun r w' => r = some (.ref b) ∧ ∃ v' n' f', w' = Bw cB b v' (nI (t ++ dgL k).length) z n' f' ∧ cp n' ∧ (t ++ dgL k).length ≤ n' ∧ fitB f' ∧ hasT f' (t ++ dgL k)) := by
  refine mt_of (cc := cJ4_append_bf812) (maxL := 2) (ret := (some (.object "java/lang/StringBuilder"))) (v0 := some (.ref b)) (w0 := Bw cB b v (nI (t ++ dgL k).length) z 34 (tx (t ++ dgL k))) ⟨rfl, v, 34, _, rfl, Or.inr rfl, hm, fit_tx (ltr_app hl (dgL_ltr hk)), fun _ _ => rfl⟩ (by decide +kernel) rfl (Nat.le_of_ble_eq_true rfl) (fun x C X => ?_)
  have C : Cy "append" K (fun r w' => r = some (.ref b) ∧ ∃ v' n' f', w' = Bw cB b v' (nI (t ++ dgL k).length) z n' f' ∧ cp n' ∧ (t ++ dgL k).length ≤ n' ∧ fitB f' ∧ hasT f' (t ++ dgL k)) x cJ4_append_bf812 2 RJ4 (some (.object "java/lang/StringBuilder")) [] wt_J4_append_bf812 rmt_J4_append_bf812 D tys := C
  have C0 := C.cx
  have CV := C.cv
  show J x [(0, .ref (b)), (1, .int (nI k))] [] [(b, .inr (1, [.ref (v), .int (0), .int (z), .int (nI t.length)])), (v, .inl (cB, n, .inl (f)))] 0 (0) (0)
  refine j_aload_n C0 dJ4_append_bf812_0 0 rfl ?_
  refine j_iload_n C0 dJ4_append_bf812_1 1 rfl ?_
  refine jt_callSU (wr := []) CV X (t_J5_append_c97b9 K D ht b v z n f t k hk hl hm hcp hn hf hT) dJ4_append_bf812_2 (gSU9 v_96 v_97 v_6 v_98 v_8 v_99) rfl ⟨by decide +kernel, hy_J5_append_c97b9.2.2⟩ rfl 0 rfl rfl [0, 1] [] rfl rfl (by decide) (by decide) (by decide) rfl ⟨Nat.le_of_ble_eq_true rfl, Nat.le_of_ble_eq_true rfl⟩ (Nat.le_of_ble_eq_true rfl) ⟨Nat.le_of_ble_eq_true rfl, Nat.le_of_ble_eq_true rfl⟩ (fun v1 w2 h3 => ?_)
  obtain ⟨rfl, v2, n2, f2, rfl, p1, p2, p3, p4⟩ := h3
  show J x [(0, .ref (b)), (1, .int (nI k))] [.ref (b)] [(b, .inr (1, [.ref (v2), .int (0), .int (z), .int (nI (t ++ dgL k).length)])), (v2, .inl (cB, n2, .inl (f2)))] 5 (1) (34)
  refine j_pop C0 dJ4_append_bf812_5 rfl ?_
  refine j_aload_n C0 dJ4_append_bf812_6 0 rfl ?_
  exact jy_areturn C (Or.inl ⟨_, rfl⟩) dJ4_append_bf812_7 ⟨rfl, v2, n2, f2, rfl, p1, p2, p3, p4⟩ (Nat.le_of_ble_eq_true rfl) (Nat.le_of_ble_eq_true rfl)
