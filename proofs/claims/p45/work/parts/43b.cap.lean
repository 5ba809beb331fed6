abbrev rmt_J5_newCapacity_0f7a4 : Room := ({ frames := 11, cells := 0, slots := 0, locals := 223 } : Room)
abbrev wt_J5_newCapacity_0f7a4 : List Cond := (Cond.code yJ5_newCapacity_0f7a4 cJ5_newCapacity_0f7a4 6 (some .int)) :: wsT
set_option maxRecDepth 20000 in
set_option maxHeartbeats 4000000 in
theorem t_J5_newCapacity_0f7a4 (K : Nat → Nat) (D : va_G) {tys : List (ClassId × FieldType)} {cB : ClassId} (ht : tys[0]? = some (cB, .byte)) (b v k : Nat) (c z : Int32) (f : Nat → Int32) (hk : 16 < k) (hk2 : k ≤ 34) : MT yJ5_newCapacity_0f7a4 wt_J5_newCapacity_0f7a4 rmt_J5_newCapacity_0f7a4 [.ref (b), .int (nI k)] K D tys [(b, .inr (1, [.ref (v), .int (0), .int (z), .int (c)])), (v, .inl (cB, 16, .inl (f)))] (fun r w' => r = some (.int ((34 : Int32))) ∧ w' = [(b, .inr (1, [.ref (v), .int (0), .int (z), .int (c)])), (v, .inl (cB, 16, .inl (f)))]) := by
  refine mt_of (cc := cJ5_newCapacity_0f7a4) (maxL := 6) (ret := (some .int)) (v0 := some (.int ((34 : Int32)))) (w0 := [(b, .inr (1, [.ref (v), .int (0), .int (z), .int (c)])), (v, .inl (cB, 16, .inl (f)))]) ⟨rfl, rfl⟩ (by decide +kernel) rfl (Nat.le_of_ble_eq_true rfl) (fun x C X => ?_)
  have C : Cy "newCapacity" K (fun r w' => r = some (.int ((34 : Int32))) ∧ w' = [(b, .inr (1, [.ref (v), .int (0), .int (z), .int (c)])), (v, .inl (cB, 16, .inl (f)))]) x cJ5_newCapacity_0f7a4 6 RJ5 (some .int) [] wt_J5_newCapacity_0f7a4 rmt_J5_newCapacity_0f7a4 D tys := C
  have C0 := C.cx
  have CV := C.cv
  show J x [(0, .ref (b)), (1, .int (nI k))] [] [(b, .inr (1, [.ref (v), .int (0), .int (z), .int (c)])), (v, .inl (cB, 16, .inl (f)))] 0 (0) (0)
  refine j_aload_n C0 dJ5_newCapacity_0f7a4_0 0 rfl ?_
  refine jt_get C0 X dJ5_newCapacity_0f7a4_1 0 rfl rfl 0 (by decide) (fin := false) rfl rfl inT_J4 (ref := "java/lang/AbstractStringBuilder") (fun _ _ h => h) (mT v_3) ?_
  refine jt_alen C0 X dJ5_newCapacity_0f7a4_4 1 0 rfl ht ((16 : Int32)) (show Int32.ofNat 16 = (16 : Int32) by decide) ?_
  refine j_istore_n C0 dJ5_newCapacity_0f7a4_5 (by decide) [(2, .int ((16 : Int32))), (0, .ref (b)), (1, .int (nI k))] rfl ?_
  refine j_iload_n C0 dJ5_newCapacity_0f7a4_6 2 rfl ?_
  refine j_aload_n C0 dJ5_newCapacity_0f7a4_7 1 rfl ?_
  refine jt_get C0 X dJ5_newCapacity_0f7a4_8 0 rfl rfl 1 (by decide) (fin := false) rfl rfl inT_J4 (ref := "java/lang/AbstractStringBuilder") (fun _ _ h => h) (mT v_1) ?_
  refine jt_ishl C0 dJ5_newCapacity_0f7a4_11 (nI k) (shl0 _) ?_
  refine j_istore_n C0 dJ5_newCapacity_0f7a4_12 (by decide) [(3, .int (nI k)), (2, .int ((16 : Int32))), (0, .ref (b)), (1, .int (nI k))] rfl ?_
  refine j_iload_n C0 dJ5_newCapacity_0f7a4_13 0 rfl ?_
  refine j_iload_n C0 dJ5_newCapacity_0f7a4_14 1 rfl ?_
  refine j_isub C0 dJ5_newCapacity_0f7a4_15 ?_
  refine jt_eqI (b := nI (k - 16)) (sub_nI (b := 16) (by omega)) ?_
  refine j_istore C0 dJ5_newCapacity_0f7a4_16 (by decide) [(4, .int (nI (k - 16))), (3, .int (nI k)), (2, .int ((16 : Int32))), (0, .ref (b)), (1, .int (nI k))] rfl ?_
  refine j_iload_n C0 dJ5_newCapacity_0f7a4_18 2 rfl ?_
  refine j_iload C0 dJ5_newCapacity_0f7a4_19 0 rfl ?_
  refine j_iload_n C0 dJ5_newCapacity_0f7a4_21 2 rfl ?_
  refine j_iconst C0 dJ5_newCapacity_0f7a4_22 ((2 : Int32)) (by decide) ?_
  refine j_aload_n C0 dJ5_newCapacity_0f7a4_23 3 rfl ?_
  refine jt_get C0 X dJ5_newCapacity_0f7a4_24 0 rfl rfl 1 (by decide) (fin := false) rfl rfl inT_J4 (ref := "java/lang/AbstractStringBuilder") (fun _ _ h => h) (mT v_1) ?_
  refine jt_ishl C0 dJ5_newCapacity_0f7a4_27 ((2 : Int32)) (shl0 _) ?_
  refine j_iadd C0 dJ5_newCapacity_0f7a4_28 ?_
  refine jt_eqI (b := (18 : Int32)) (by decide) ?_
  refine jt_callS (wr := [(b, .inr (1, [.ref (v), .int (0), .int (z), .int (c)])), (v, .inl (cB, 16, .inl (f)))]) CV X (t_J8_newLength_cabcc K D (k - 16) (by omega)) dJ5_newCapacity_0f7a4_29 (gS9 v_17 v_18 v_19 v_20) rfl hy_J8_newLength_cabcc rfl [] [0, 1] rfl rfl (by decide) (by decide) (by decide) rfl ⟨Nat.le_of_ble_eq_true rfl, Nat.le_of_ble_eq_true rfl⟩ (Nat.le_of_ble_eq_true rfl) ⟨Nat.le_of_ble_eq_true rfl, Nat.le_of_ble_eq_true rfl⟩ (fun v1 w2 h3 => ?_)
  obtain ⟨rfl, rfl⟩ := h3
  show J x [(4, .int (nI (k - 16))), (3, .int (nI k)), (2, .int ((16 : Int32))), (0, .ref (b)), (1, .int (nI k))] [.int ((34 : Int32))] [(b, .inr (1, [.ref (v), .int (0), .int (z), .int (c)])), (v, .inl (cB, 16, .inl (f)))] 32 (0) (0)
  refine j_istore C0 dJ5_newCapacity_0f7a4_32 (by decide) [(5, .int ((34 : Int32))), (4, .int (nI (k - 16))), (3, .int (nI k)), (2, .int ((16 : Int32))), (0, .ref (b)), (1, .int (nI k))] rfl ?_
  refine j_iload C0 dJ5_newCapacity_0f7a4_34 0 rfl ?_
  refine jt_ldcI C0 dJ5_newCapacity_0f7a4_36 (mT v_21) ?_
  refine j_icmp_ne C0 dJ5_newCapacity_0f7a4_38 51 (by decide) (fun c4_ => ?_) (fun c4 => absurd c4 (by decide))
  refine j_iload C0 dJ5_newCapacity_0f7a4_51 0 rfl ?_
  refine j_aload_n C0 dJ5_newCapacity_0f7a4_53 4 rfl ?_
  refine jt_get C0 X dJ5_newCapacity_0f7a4_54 0 rfl rfl 1 (by decide) (fin := false) rfl rfl inT_J4 (ref := "java/lang/AbstractStringBuilder") (fun _ _ h => h) (mT v_1) ?_
  refine jt_ishr C0 dJ5_newCapacity_0f7a4_57 ((34 : Int32)) (shr0 _) ?_
  exact jy_ireturn C dJ5_newCapacity_0f7a4_58 ⟨rfl, rfl⟩ (Nat.le_of_ble_eq_true rfl) (Nat.le_of_ble_eq_true rfl)
abbrev rmt_J7_copyOf_9075b : Room := ({ frames := 10, cells := 1, slots := 34, locals := 200 } : Room)
abbrev wt_J7_copyOf_9075b : List Cond := (Cond.code yJ7_copyOf_9075b cJ7_copyOf_9075b 3 (some (.array .byte))) :: wsT
set_option maxRecDepth 20000 in
set_option maxHeartbeats 4000000 in
theorem t_J7_copyOf_9075b (K : Nat → Nat) (D : va_G) {tys : List (ClassId × FieldType)} {cB : ClassId} (ht : tys[0]? = some (cB, .byte)) (v : Nat) (f : Nat → Int32) (hf : fitB f) : MT yJ7_copyOf_9075b wt_J7_copyOf_9075b rmt_J7_copyOf_9075b [.ref (v), .int ((34 : Int32))] K D tys [(v, .inl (cB, 16, .inl (f)))] (fun r w' => ∃ q f', r = some (.ref q) ∧ w' = [(v, .inl (cB, 16, .inl f)), (q, .inl (cB, 34, .inl f'))] ∧ fitB f' ∧ ∀ j, j < 16 → f' j = f j) := by
  refine mt_of (cc := cJ7_copyOf_9075b) (maxL := 3) (ret := (some (.array .byte))) (v0 := some (.ref 0)) (w0 := [(v, .inl (cB, 16, .inl f)), (0, .inl (cB, 34, .inl f))]) ⟨0, f, rfl, rfl, hf, fun _ _ => rfl⟩ (by decide +kernel) rfl (Nat.le_of_ble_eq_true rfl) (fun x C X => ?_)
  have C : Cy "copyOf" K (fun r w' => ∃ q f', r = some (.ref q) ∧ w' = [(v, .inl (cB, 16, .inl f)), (q, .inl (cB, 34, .inl f'))] ∧ fitB f' ∧ ∀ j, j < 16 → f' j = f j) x cJ7_copyOf_9075b 3 RJ7 (some (.array .byte)) [] wt_J7_copyOf_9075b rmt_J7_copyOf_9075b D tys := C
  have C0 := C.cx
  have CV := C.cv
  show J x [(0, .ref (v)), (1, .int ((34 : Int32)))] [] [(v, .inl (cB, 16, .inl (f)))] 0 (0) (0)
  refine j_iload_n C0 dJ7_copyOf_9075b_0 1 rfl ?_
  refine j_aload_n C0 dJ7_copyOf_9075b_1 0 rfl ?_
  refine jt_alen C0 X dJ7_copyOf_9075b_2 0 0 rfl ht ((16 : Int32)) (show Int32.ofNat 16 = (16 : Int32) by decide) ?_
  refine j_icmp_ne C0 dJ7_copyOf_9075b_3 14 (by decide) (fun c1_ => ?_) (fun c1 => absurd c1 (by decide))
  refine j_iload_n C0 dJ7_copyOf_9075b_14 1 rfl ?_
  refine jt_newb C0 X dJ7_copyOf_9075b_15 0 ht (mT v_22) (by decide) (N' := 34) (by decide) (by decide) (Nat.le_of_ble_eq_true rfl) (Nat.le_of_ble_eq_true rfl) (fun q2 => ?_)
  show J x [(0, .ref (v)), (1, .int ((34 : Int32)))] [.ref (q2)] [(v, .inl (cB, 16, .inl (f))), (q2, .inl (cB, 34, .inl (fun _ => 0)))] 17 (1) (34)
  refine j_astore_n C0 dJ7_copyOf_9075b_17 (by decide) [(2, .ref (q2)), (0, .ref (v)), (1, .int ((34 : Int32)))] rfl ?_
  refine j_aload_n C0 dJ7_copyOf_9075b_18 1 rfl ?_
  refine j_iconst C0 dJ7_copyOf_9075b_19 ((0 : Int32)) (by decide) ?_
  refine j_aload_n C0 dJ7_copyOf_9075b_20 0 rfl ?_
  refine j_iconst C0 dJ7_copyOf_9075b_21 ((0 : Int32)) (by decide) ?_
  refine j_aload_n C0 dJ7_copyOf_9075b_22 1 rfl ?_
  refine jt_alen C0 X dJ7_copyOf_9075b_23 0 0 rfl ht ((16 : Int32)) (show Int32.ofNat 16 = (16 : Int32) by decide) ?_
  refine j_iload_n C0 dJ7_copyOf_9075b_24 2 rfl ?_
  refine j_mmin C0 dJ7_copyOf_9075b_25 (mT v_23) (mT v_24) (mT v_14) (mT v_25) (Nat.le_of_ble_eq_true rfl) (Nat.le_of_ble_eq_true rfl) (Nat.le_of_ble_eq_true rfl) (Nat.le_of_ble_eq_true rfl) ?_
  refine jt_eqI (b := (16 : Int32)) (by decide) ?_
  refine jt_copy C0 X dJ7_copyOf_9075b_28 0 1 0 rfl rfl ht (mT v_26) (mT v_27) (mT v_28) (mT v_29) (by decide) (by decide) (by decide) (by decide) (by decide) (fun i _ => hf _) (Nat.le_of_ble_eq_true rfl) (Nat.le_of_ble_eq_true rfl) ?_
  rw [c0_, c16_]
  show J x [(2, .ref (q2)), (0, .ref (v)), (1, .int ((34 : Int32)))] [] [(v, .inl (cB, 16, .inl (f))), (q2, .inl (cB, 34, .inl (va_cpy f (fun _ => 0) 0 0 16)))] 31 (1) (34)
  refine j_aload_n C0 dJ7_copyOf_9075b_31 0 rfl ?_
  exact jy_areturn C (Or.inr ⟨_, rfl⟩) dJ7_copyOf_9075b_32 ⟨_, _, rfl, rfl, fit_cpy hf fit_0, fun j hj => cpy_lt hj⟩ (Nat.le_of_ble_eq_true rfl) (Nat.le_of_ble_eq_true rfl)
abbrev rmt_J5_ensureCapacityInternal_d00df : Room := ({ frames := 12, cells := 1, slots := 34, locals := 248 } : Room)
abbrev wt_J5_ensureCapacityInternal_d00df : List Cond := (Cond.code yJ5_ensureCapacityInternal_d00df cJ5_ensureCapacityInternal_d00df 3 none) :: wsT
set_option maxRecDepth 20000 in
set_option maxHeartbeats 4000000 in
theorem t_J5_ensureCapacityInternal_d00df (K : Nat → Nat) (D : va_G) {tys : List (ClassId × FieldType)} {cB : ClassId} (ht : tys[0]? = some (cB, .byte)) (b v : Nat) (c z : Int32) (n : Nat) (f : Nat → Int32) (k : Nat) (hcp : cp n) (hf : fitB f) (hk : k ≤ 34) : MT yJ5_ensureCapacityInternal_d00df wt_J5_ensureCapacityInternal_d00df rmt_J5_ensureCapacityInternal_d00df [.ref (b), .int (nI k)] K D tys [(b, .inr (1, [.ref (v), .int (0), .int (z), .int (c)])), (v, .inl (cB, n, .inl (f)))] (fun r w' => r = none ∧ ∃ v' n' f', w' = Bw cB b v' c z n' f' ∧ cp n' ∧ k ≤ n' ∧ fitB f' ∧ ∀ j, j < n → f' j = f j) := by
  have hn9 : n < 100000 := by rcases hcp with e | e <;> omega
  refine mt_of (cc := cJ5_ensureCapacityInternal_d00df) (maxL := 3) (ret := none) (v0 := none) (w0 := Bw cB b v c z 34 f) ⟨rfl, v, 34, f, rfl, Or.inr rfl, hk, hf, fun _ _ => rfl⟩ (by decide +kernel) rfl (Nat.le_of_ble_eq_true rfl) (fun x C X => ?_)
  have C : Cy "ensureCapacityInternal" K (fun r w' => r = none ∧ ∃ v' n' f', w' = Bw cB b v' c z n' f' ∧ cp n' ∧ k ≤ n' ∧ fitB f' ∧ ∀ j, j < n → f' j = f j) x cJ5_ensureCapacityInternal_d00df 3 RJ5 none [] wt_J5_ensureCapacityInternal_d00df rmt_J5_ensureCapacityInternal_d00df D tys := C
  have C0 := C.cx
  have CV := C.cv
  show J x [(0, .ref (b)), (1, .int (nI k))] [] [(b, .inr (1, [.ref (v), .int (0), .int (z), .int (c)])), (v, .inl (cB, n, .inl (f)))] 0 (0) (0)
  refine j_aload_n C0 dJ5_ensureCapacityInternal_d00df_0 0 rfl ?_
  refine jt_get C0 X dJ5_ensureCapacityInternal_d00df_1 0 rfl rfl 0 (by decide) (fin := false) rfl rfl inT_J4 (ref := "java/lang/AbstractStringBuilder") (fun _ _ h => h) (mT v_3) ?_
  refine jt_alen C0 X dJ5_ensureCapacityInternal_d00df_4 1 0 rfl ht (nI n) rfl ?_
  refine j_aload_n C0 dJ5_ensureCapacityInternal_d00df_5 0 rfl ?_
  refine jt_get C0 X dJ5_ensureCapacityInternal_d00df_6 0 rfl rfl 1 (by decide) (fin := false) rfl rfl inT_J4 (ref := "java/lang/AbstractStringBuilder") (fun _ _ h => h) (mT v_1) ?_
  refine jt_ishr C0 dJ5_ensureCapacityInternal_d00df_9 (nI n) (shr0 _) ?_
  refine j_istore_n C0 dJ5_ensureCapacityInternal_d00df_10 (by decide) [(2, .int (nI n)), (0, .ref (b)), (1, .int (nI k))] rfl ?_
  refine j_iload_n C0 dJ5_ensureCapacityInternal_d00df_11 2 rfl ?_
  refine j_iload_n C0 dJ5_ensureCapacityInternal_d00df_12 0 rfl ?_
  refine j_isub C0 dJ5_ensureCapacityInternal_d00df_13 ?_
  refine j_if_le C0 dJ5_ensureCapacityInternal_d00df_14 38 (by decide) (fun gk => ?_) (fun gk => ?_)
  · have gk := (sub_le0 (by omega) hn9).mp gk
    exact jy_return C dJ5_ensureCapacityInternal_d00df_38 ⟨rfl, v, n, f, rfl, hcp, gk, hf, fun _ _ => rfl⟩ (Nat.le_of_ble_eq_true rfl) (Nat.le_of_ble_eq_true rfl)
  · have gk : ¬ k ≤ n := fun z => gk ((sub_le0 (by omega) hn9).mpr z)
    obtain rfl : n = 16 := by rcases hcp with e | e <;> omega
    refine j_aload_n C0 dJ5_ensureCapacityInternal_d00df_17 1 rfl ?_
    refine j_aload_n C0 dJ5_ensureCapacityInternal_d00df_18 1 rfl ?_
    refine jt_get C0 X dJ5_ensureCapacityInternal_d00df_19 0 rfl rfl 0 (by decide) (fin := false) rfl rfl inT_J4 (ref := "java/lang/AbstractStringBuilder") (fun _ _ h => h) (mT v_3) ?_
    refine j_aload_n C0 dJ5_ensureCapacityInternal_d00df_22 1 rfl ?_
    refine j_iload_n C0 dJ5_ensureCapacityInternal_d00df_23 2 rfl ?_
    refine jt_callU (wr := []) CV X (t_J5_newCapacity_0f7a4 K D ht b v k c z f (by omega) hk) dJ5_ensureCapacityInternal_d00df_24 (gU9 v_30 v_31 v_32 v_33 v_8 v_34) rfl hy_J5_newCapacity_0f7a4 rfl 0 rfl rfl rfl [0, 1] [] rfl rfl (by decide) (by decide) (by decide) rfl ⟨Nat.le_of_ble_eq_true rfl, Nat.le_of_ble_eq_true rfl⟩ (Nat.le_of_ble_eq_true rfl) ⟨Nat.le_of_ble_eq_true rfl, Nat.le_of_ble_eq_true rfl⟩ (fun v2 w3 h4 => ?_)
    obtain ⟨rfl, rfl⟩ := h4
    show J x [(2, .int (nI 16)), (0, .ref (b)), (1, .int (nI k))] [.int ((34 : Int32)), .ref (v), .ref (b)] [(b, .inr (1, [.ref (v), .int (0), .int (z), .int (c)])), (v, .inl (cB, 16, .inl (f)))] 27 (0) (0)
    refine j_aload_n C0 dJ5_ensureCapacityInternal_d00df_27 1 rfl ?_
    refine jt_get C0 X dJ5_ensureCapacityInternal_d00df_28 0 rfl rfl 1 (by decide) (fin := false) rfl rfl inT_J4 (ref := "java/lang/AbstractStringBuilder") (fun _ _ h => h) (mT v_1) ?_
    refine jt_ishl C0 dJ5_ensureCapacityInternal_d00df_31 ((34 : Int32)) (shl0 _) ?_
    refine jt_callS (wr := [(b, .inr (1, [.ref (v), .int (0), .int (z), .int (c)]))]) CV X (t_J7_copyOf_9075b K D ht v f hf) dJ5_ensureCapacityInternal_d00df_32 (gS9 v_35 v_36 v_37 v_38) rfl hy_J7_copyOf_9075b rfl [1] [0] rfl rfl (by decide) (by decide) (by decide) rfl ⟨Nat.le_of_ble_eq_true rfl, Nat.le_of_ble_eq_true rfl⟩ (Nat.le_of_ble_eq_true rfl) ⟨Nat.le_of_ble_eq_true rfl, Nat.le_of_ble_eq_true rfl⟩ (fun v5 w6 h7 => ?_)
    obtain ⟨q9, f9, rfl, rfl, hq3, hq4⟩ := h7
    show J x [(2, .int (nI 16)), (0, .ref (b)), (1, .int (nI k))] [.ref (q9), .ref (b)] [(b, .inr (1, [.ref (v), .int (0), .int (z), .int (c)])), (v, .inl (cB, 16, .inl (f))), (q9, .inl (cB, 34, .inl (f9)))] 35 (1) (34)
    refine jt_put C0 X dJ5_ensureCapacityInternal_d00df_35 0 (ty0 := tyJ4) (ty := .array .byte) rfl rfl 0 (by decide) rfl (Nat.le_of_ble_eq_true rfl) tyJ4_ok nmJ4 rfl rfl rfl inT_J4 (ref := "java/lang/AbstractStringBuilder") (fun _ _ h => h) (mT v_3) ?_
    show J x [(2, .int (nI 16)), (0, .ref (b)), (1, .int (nI k))] [] [(b, .inr (1, [.ref (q9), .int (0), .int (z), .int (c)])), (v, .inl (cB, 16, .inl (f))), (q9, .inl (cB, 34, .inl (f9)))] 38 (1) (34)
    refine jt_pick X [0, 2] (w' := [(b, .inr (1, [.ref (q9), .int (0), .int (z), .int (c)])), (q9, .inl (cB, 34, .inl (f9)))]) (by decide) rfl ?_
    exact jy_return C dJ5_ensureCapacityInternal_d00df_38 ⟨rfl, _, 34, _, rfl, Or.inr rfl, hk, hq3, hq4⟩ (Nat.le_of_ble_eq_true rfl) (Nat.le_of_ble_eq_true rfl)
