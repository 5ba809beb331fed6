theorem mn9_nI {a b : Nat} (h : a ≤ b) (hb : b < 100000) : (if nI a < nI b then nI a else nI b) = nI a := by
  by_cases e : a < b
  · exact if_pos ((lt_nI (by omega) (by omega)).mpr e)
  · obtain rfl : a = b := by omega
    exact if_neg (fun z => absurd ((lt_nI (by omega) (by omega)).mp z) (by omega))
abbrev rmt_J7_checkLength_df160 : Room := ({ frames := 10, cells := 0, slots := 0, locals := 200 } : Room)
abbrev wt_J7_checkLength_df160 : List Cond := (Cond.code yJ7_checkLength_df160 cJ7_checkLength_df160 2 none) :: wsT
set_option maxRecDepth 20000 in
set_option maxHeartbeats 4000000 in
theorem t_J7_checkLength_df160 (K : Nat → Nat) (D : va_G) {tys : List (ClassId × FieldType)} (m : Nat) (hm : m < 100000) : MT yJ7_checkLength_df160 wt_J7_checkLength_df160 rmt_J7_checkLength_df160 [.int ((0 : Int32)), .int (nI m)] K D tys [] (fun r w' => r = none ∧ w' = []) := by
  refine mt_of (cc := cJ7_checkLength_df160) (maxL := 2) (ret := none) (v0 := none) (w0 := []) ⟨rfl, rfl⟩ (by decide +kernel) rfl (Nat.le_of_ble_eq_true rfl) (fun x C X => ?_)
  have C : Cy "checkLength" K (fun r w' => r = none ∧ w' = []) x cJ7_checkLength_df160 2 RJ7 none [] wt_J7_checkLength_df160 rmt_J7_checkLength_df160 D tys := C
  have C0 := C.cx
  have CV := C.cv
  show J x [(0, .int ((0 : Int32))), (1, .int (nI m))] [] [] 0 (0) (0)
  refine j_iload_n C0 dJ7_checkLength_df160_0 1 rfl ?_
  refine j_iload_n C0 dJ7_checkLength_df160_1 0 rfl ?_
  refine j_icmp_ge C0 dJ7_checkLength_df160_2 37 (by decide) (fun c1_ => ?_) (fun c => absurd (nI_le (a := 0) (Nat.zero_le m) (by omega)) c)
  exact jy_return C dJ7_checkLength_df160_37 ⟨rfl, rfl⟩ (Nat.le_of_ble_eq_true rfl) (Nat.le_of_ble_eq_true rfl)
abbrev rmt_J7_copyOfRangeByte_39247 : Room := ({ frames := 11, cells := 1, slots := 34, locals := 221 } : Room)
abbrev wt_J7_copyOfRangeByte_39247 : List Cond := (Cond.code yJ7_copyOfRangeByte_39247 cJ7_copyOfRangeByte_39247 5 (some (.array .byte))) :: wsT
set_option maxRecDepth 20000 in
set_option maxHeartbeats 4000000 in
theorem t_J7_copyOfRangeByte_39247 (K : Nat → Nat) (D : va_G) {tys : List (ClassId × FieldType)} {cB : ClassId} (ht : tys[0]? = some (cB, .byte)) (v m n : Nat) (f : Nat → Int32) (hm : m ≤ n) (hn : n ≤ 34) (hf : fitB f) : MT yJ7_copyOfRangeByte_39247 wt_J7_copyOfRangeByte_39247 rmt_J7_copyOfRangeByte_39247 [.ref (v), .int ((0 : Int32)), .int (nI m)] K D tys [(v, .inl (cB, n, .inl (f)))] (fun r w' => ∃ q f', r = some (.ref q) ∧ w' = [(v, .inl (cB, n, .inl f)), (q, .inl (cB, m, .inl f'))] ∧ ∀ j, j < m → f' j = f j) := by
  refine mt_of (cc := cJ7_copyOfRangeByte_39247) (maxL := 5) (ret := (some (.array .byte))) (v0 := some (.ref 0)) (w0 := [(v, .inl (cB, n, .inl f)), (0, .inl (cB, m, .inl f))]) ⟨0, f, rfl, rfl, fun _ _ => rfl⟩ (by decide +kernel) rfl (Nat.le_of_ble_eq_true rfl) (fun x C X => ?_)
  have C : Cy "copyOfRangeByte" K (fun r w' => ∃ q f', r = some (.ref q) ∧ w' = [(v, .inl (cB, n, .inl f)), (q, .inl (cB, m, .inl f'))] ∧ ∀ j, j < m → f' j = f j) x cJ7_copyOfRangeByte_39247 5 RJ7 (some (.array .byte)) [] wt_J7_copyOfRangeByte_39247 rmt_J7_copyOfRangeByte_39247 D tys := C
  have C0 := C.cx
  have CV := C.cv
  show J x [(0, .ref (v)), (1, .int ((0 : Int32))), (2, .int (nI m))] [] [(v, .inl (cB, n, .inl (f)))] 0 (0) (0)
  refine j_iload_n C0 dJ7_copyOfRangeByte_39247_0 1 rfl ?_
  refine j_iload_n C0 dJ7_copyOfRangeByte_39247_1 2 rfl ?_
  refine jt_callS (wr := [(v, .inl (cB, n, .inl (f)))]) CV X (t_J7_checkLength_df160 K D m (by omega)) dJ7_copyOfRangeByte_39247_2 (gS9 v_124 v_125 v_37 v_126) rfl hy_J7_checkLength_df160 rfl [] [0] rfl rfl (by decide) (by decide) (by decide) rfl ⟨Nat.le_of_ble_eq_true rfl, Nat.le_of_ble_eq_true rfl⟩ (Nat.le_of_ble_eq_true rfl) ⟨Nat.le_of_ble_eq_true rfl, Nat.le_of_ble_eq_true rfl⟩ (fun v1 w2 h3 => ?_)
  obtain ⟨rfl, rfl⟩ := h3
  show J x [(0, .ref (v)), (1, .int ((0 : Int32))), (2, .int (nI m))] [] [(v, .inl (cB, n, .inl (f)))] 5 (0) (0)
  refine j_iload_n C0 dJ7_copyOfRangeByte_39247_5 2 rfl ?_
  refine j_iload_n C0 dJ7_copyOfRangeByte_39247_6 1 rfl ?_
  refine j_isub C0 dJ7_copyOfRangeByte_39247_7 ?_
  refine jt_eqI (b := nI m) (Int32.sub_zero _) ?_
  refine j_istore_n C0 dJ7_copyOfRangeByte_39247_8 (by decide) [(3, .int (nI m)), (0, .ref (v)), (1, .int ((0 : Int32))), (2, .int (nI m))] rfl ?_
  refine j_iload_n C0 dJ7_copyOfRangeByte_39247_9 0 rfl ?_
  refine jt_newb C0 X dJ7_copyOfRangeByte_39247_10 0 ht (mT v_22) (nI_pos (by omega)) (N' := m) (nI_cl (by omega)) (by omega) (Nat.le_of_ble_eq_true rfl) ((show 0 + m ≤ 34 by omega)) (fun q4 => ?_)
  show J x [(3, .int (nI m)), (0, .ref (v)), (1, .int ((0 : Int32))), (2, .int (nI m))] [.ref (q4)] [(v, .inl (cB, n, .inl (f))), (q4, .inl (cB, m, .inl (fun _ => 0)))] 12 (1) (0 + m)
  refine j_astore C0 dJ7_copyOfRangeByte_39247_12 (by decide) [(4, .ref (q4)), (3, .int (nI m)), (0, .ref (v)), (1, .int ((0 : Int32))), (2, .int (nI m))] rfl ?_
  refine j_aload_n C0 dJ7_copyOfRangeByte_39247_14 2 rfl ?_
  refine j_iload_n C0 dJ7_copyOfRangeByte_39247_15 3 rfl ?_
  refine j_aload C0 dJ7_copyOfRangeByte_39247_16 0 rfl ?_
  refine j_iconst C0 dJ7_copyOfRangeByte_39247_18 ((0 : Int32)) (by decide) ?_
  refine j_aload_n C0 dJ7_copyOfRangeByte_39247_19 2 rfl ?_
  refine jt_alen C0 X dJ7_copyOfRangeByte_39247_20 0 0 rfl ht (nI n) rfl ?_
  refine j_iload_n C0 dJ7_copyOfRangeByte_39247_21 3 rfl ?_
  refine j_isub C0 dJ7_copyOfRangeByte_39247_22 ?_
  refine jt_eqI (b := nI n) (Int32.sub_zero _) ?_
  refine j_iload_n C0 dJ7_copyOfRangeByte_39247_23 1 rfl ?_
  refine j_mmin C0 dJ7_copyOfRangeByte_39247_24 (mT v_23) (mT v_24) (mT v_14) (mT v_25) (Nat.le_of_ble_eq_true rfl) (Nat.le_of_ble_eq_true rfl) (Nat.le_of_ble_eq_true rfl) ((show 0 + m ≤ 34 by omega)) ?_
  refine jt_eqI (b := nI m) (mn9_nI hm (by omega)) ?_
  refine jt_copy C0 X dJ7_copyOfRangeByte_39247_27 0 1 0 rfl rfl ht (mT v_26) (mT v_27) (mT v_28) (mT v_29) (by decide) (by decide) (nI_pos (by omega)) (by rw [c0_, nI_cl (by omega)]; omega) (by rw [c0_, nI_cl (by omega)]; omega) (fun i _ => hf _) (Nat.le_of_ble_eq_true rfl) (Nat.le_of_ble_eq_true rfl) ?_
  rw [c0_, nI_cl (by omega)]
  show J x [(4, .ref (q4)), (3, .int (nI m)), (0, .ref (v)), (1, .int ((0 : Int32))), (2, .int (nI m))] [] [(v, .inl (cB, n, .inl (f))), (q4, .inl (cB, m, .inl (va_cpy f (fun _ => 0) 0 0 m)))] 30 (1) (0 + m)
  refine j_aload C0 dJ7_copyOfRangeByte_39247_30 0 rfl ?_
  exact jy_areturn C (Or.inr ⟨_, rfl⟩) dJ7_copyOfRangeByte_39247_32 ⟨_, _, rfl, rfl, fun j hj => cpy_lt hj⟩ (Nat.le_of_ble_eq_true rfl) ((show 0 + m ≤ 34 by omega))
abbrev rmt_J7_copyOfRange_39247 : Room := ({ frames := 12, cells := 1, slots := 34, locals := 245 } : Room)
abbrev wt_J7_copyOfRange_39247 : List Cond := (Cond.code yJ7_copyOfRange_39247 cJ7_copyOfRange_39247 3 (some (.array .byte))) :: wsT
set_option maxRecDepth 20000 in
set_option maxHeartbeats 4000000 in
theorem t_J7_copyOfRange_39247 (K : Nat → Nat) (D : va_G) {tys : List (ClassId × FieldType)} {cB : ClassId} (ht : tys[0]? = some (cB, .byte)) (v m n : Nat) (f : Nat → Int32) (hm : m ≤ n) (hn : n ≤ 34) (hf : fitB f) : MT yJ7_copyOfRange_39247 wt_J7_copyOfRange_39247 rmt_J7_copyOfRange_39247 [.ref (v), .int ((0 : Int32)), .int (nI m)] K D tys [(v, .inl (cB, n, .inl (f)))] (fun r w' => ∃ q f', r = some (.ref q) ∧ w' = [(v, .inl (cB, n, .inl f)), (q, .inl (cB, m, .inl f'))] ∧ ∀ j, j < m → f' j = f j) := by
  refine mt_of (cc := cJ7_copyOfRange_39247) (maxL := 3) (ret := (some (.array .byte))) (v0 := some (.ref 0)) (w0 := [(v, .inl (cB, n, .inl f)), (0, .inl (cB, m, .inl f))]) ⟨0, f, rfl, rfl, fun _ _ => rfl⟩ (by decide +kernel) rfl (Nat.le_of_ble_eq_true rfl) (fun x C X => ?_)
  have C : Cy "copyOfRange" K (fun r w' => ∃ q f', r = some (.ref q) ∧ w' = [(v, .inl (cB, n, .inl f)), (q, .inl (cB, m, .inl f'))] ∧ ∀ j, j < m → f' j = f j) x cJ7_copyOfRange_39247 3 RJ7 (some (.array .byte)) [] wt_J7_copyOfRange_39247 rmt_J7_copyOfRange_39247 D tys := C
  have C0 := C.cx
  have CV := C.cv
  show J x [(0, .ref (v)), (1, .int ((0 : Int32))), (2, .int (nI m))] [] [(v, .inl (cB, n, .inl (f)))] 0 (0) (0)
  refine j_iload_n C0 dJ7_copyOfRange_39247_0 1 rfl ?_
  refine j_if_ne C0 dJ7_copyOfRange_39247_1 10 (by decide) (fun c1 => absurd c1 (by decide)) (fun c1_ => ?_)
  refine j_iload_n C0 dJ7_copyOfRange_39247_4 2 rfl ?_
  refine j_aload_n C0 dJ7_copyOfRange_39247_5 0 rfl ?_
  refine jt_alen C0 X dJ7_copyOfRange_39247_6 0 0 rfl ht (nI n) rfl ?_
  refine j_icmp_eq C0 dJ7_copyOfRange_39247_7 17 (by decide) (fun ge => ?_) (fun ge => ?_)
  · obtain rfl := (eq_nI (by omega) (by omega)).mp ge
    refine j_aload_n C0 dJ7_copyOfRange_39247_17 0 rfl ?_
    refine jt_clone CV X dJ7_copyOfRange_39247_18 0 0 ht rfl hf (mT v_127) (mT v_128) (mT v_129) (mT v_130) (mT v_131) (Nat.le_of_ble_eq_true rfl) (Nat.le_of_ble_eq_true rfl) (Nat.le_of_ble_eq_true rfl) ((show 0 + m ≤ 34 by omega)) (fun q3 => ?_)
    show J x [(0, .ref (v)), (1, .int ((0 : Int32))), (2, .int (nI m))] [.ref (q3)] [(v, .inl (cB, m, .inl (f))), (q3, .inl (cB, m, .inl (f)))] 21 (1) (0 + m)
    refine jt_castB CV X dJ7_copyOfRange_39247_21 1 0 ht rfl (mT v_132) ?_
    exact jy_areturn C (Or.inr ⟨_, rfl⟩) dJ7_copyOfRange_39247_24 ⟨_, _, rfl, rfl, fun _ _ => rfl⟩ (Nat.le_of_ble_eq_true rfl) ((show 0 + m ≤ 34 by omega))
  · refine j_aload_n C0 dJ7_copyOfRange_39247_10 0 rfl ?_
    refine j_iload_n C0 dJ7_copyOfRange_39247_11 1 rfl ?_
    refine j_iload_n C0 dJ7_copyOfRange_39247_12 2 rfl ?_
    refine jt_callS (wr := []) CV X (t_J7_copyOfRangeByte_39247 K D ht v m n f hm hn hf) dJ7_copyOfRange_39247_13 (gS9 v_133 v_134 v_37 v_135) rfl hy_J7_copyOfRangeByte_39247 rfl [0] [] rfl rfl (by decide) (by decide) (by decide) rfl ⟨Nat.le_of_ble_eq_true rfl, Nat.le_of_ble_eq_true rfl⟩ (Nat.le_of_ble_eq_true rfl) ⟨Nat.le_of_ble_eq_true rfl, Nat.le_of_ble_eq_true rfl⟩ (fun v4 w5 h6 => ?_)
    obtain ⟨q9, f9, rfl, rfl, hq⟩ := h6
    show J x [(0, .ref (v)), (1, .int ((0 : Int32))), (2, .int (nI m))] [.ref (q9)] [(v, .inl (cB, n, .inl (f))), (q9, .inl (cB, m, .inl (f9)))] 16 (1) (34)
    exact jy_areturn C (Or.inr ⟨_, rfl⟩) dJ7_copyOfRange_39247_16 ⟨q9, f9, rfl, rfl, hq⟩ (Nat.le_of_ble_eq_true rfl) (Nat.le_of_ble_eq_true rfl)
