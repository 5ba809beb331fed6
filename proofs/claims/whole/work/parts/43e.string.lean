theorem mn9_nI {a b : Nat} (h : a ≤ b) (hb : b < 100000) : (if nI a < nI b then nI a else nI b) = nI a := by
  by_cases e : a < b
  · exact if_pos ((lt_nI (by omega) (by omega)).mpr e)
  · obtain rfl : a = b := by omega
    exact if_neg (fun z => absurd ((lt_nI (by omega) (by omega)).mp z) (by omega))
abbrev rmt_J7_checkLength_df160 : Room := ({ frames := 10, cells := 0, slots := 0, locals := 200 } : Room)
abbrev wt_J7_checkLength_df160 : List Cond := (Cond.code yJ7_checkLength_df160 cJ7_checkLength_df160 2 none) :: wsT
set_option maxRecDepth 20000 in
set_option maxHeartbeats 4000000 in
theorem t_J7_checkLength_df160 (K : Nat → Nat) (D : va_G) {tys : List (ClassId × FieldType)} (m : Nat) (hm : m < 100000) : MT yJ7_checkLength_df160 wt_J7_checkLength_df160 rmt_J7_checkLength_df160 [.int ((0 : Int32)), .int (nI m)] K D tys [] (fun r w' => r = none ∧ w' = []) := by
  refine mt_of (cc := cJ7_checkLength_df160) (maxL := 2) (ret := none) (v0 := none) (w0 := []) ⟨rfl, rfl⟩ (by decide +kernel) rfl (Nat.le_of_ble_eq_true rfl) (fun x C X => ?_)
  have C : Cy "checkLength" K (fun r w' => r = none ∧ w' = []) x cJ7_checkLength_df160 2 RJ7 none [] wt_J7_checkLength_df160 rmt_J7_checkLength_df160 D tys := C
  have C0 := C.cx
  have CV := C.cv
  show J x [(0, .int ((0 : Int32))), (1, .int (nI m))] [] [] 0 (0) (0)
  refine j_iload_n C0 dJ7_checkLength_df160_0 1 rfl ?_
  refine j_iload_n C0 dJ7_checkLength_df160_1 0 rfl ?_
  refine j_icmp_ge C0 dJ7_checkLength_df160_2 37 (by decide) (fun c1_ => ?_) (fun c => absurd (nI_le (a := 0) (Nat.zero_le m) (by omega)) c)
  exact jy_return C dJ7_checkLength_df160_37 ⟨rfl, rfl⟩ (Nat.le_of_ble_eq_true rfl) (Nat.le_of_ble_eq_true rfl)
abbrev rmt_J7_copyOfRangeByte_39247 : Room := ({ frames := 11, cells := 1, slots := 34, locals := 221 } : Room)
abbrev wt_J7_copyOfRangeByte_39247 : List Cond := (Cond.code yJ7_copyOfRangeByte_39247 cJ7_copyOfRangeByte_39247 5 (some (.array .byte))) :: wsT
set_option maxRecDepth 20000 in
set_option maxHeartbeats 4000000 in
theorem t_J7_copyOfRangeByte_39247 (K : Nat → Nat) (D : va_G) {tys : List (ClassId × FieldType)} {cB : ClassId} (ht : tys[0]? = some (cB, .byte)) (v m n : Nat) (f : Nat → Int32) (hm : m ≤ n) (hn : n ≤ 34) (hf : fitB f) : MT yJ7_copyOfRangeByte_39247 wt_J7_copyOfRangeByte_39247 rmt_J7_copyOfRangeByte_39247 [.ref (v), .int ((0 : Int32)), .int (nI m)] K D tys [(v, .inl (cB, n, .inl (f)))] (fun r w' => ∃ q f', r = some (.ref q) ∧ w' = [(v, .inl (cB, n, .inl f)), (q, .inl (cB, m, .inl f'))] ∧ ∀ j, j < m → f' j = f j) := by
  refine mt_of (cc := cJ7_copyOfRangeByte_39247) (maxL := 5) (ret := (some (.array .byte))) (v0 := some (.ref 0)) (w0 := [(v, .inl (cB, n, .inl f)), (0, .inl (cB, m, .inl f))]) ⟨0, f, rfl, rfl, fun _ _ => rfl⟩ (by decide +kernel) rfl (Nat.le_of_ble_eq_true rfl) (fun x C X => ?_)
  have C : Cy "copyOfRangeByte" K (fun r w' => ∃ q f', r = some (.ref q) ∧ w' = [(v, .inl (cB, n, .inl f)), (q, .inl (cB, m, .inl f'))] ∧ ∀ j, j < m → f' j = f j) x cJ7_copyOfRangeByte_39247 5 RJ7 (some (.array .byte)) [] wt_J7_copyOfRangeByte_39247 rmt_J7_copyOfRangeByte_39247 D tys := C
  have C0 := C.cx
  have CV := C.cv
  show J x [(0, .ref (v)), (1, .int ((0 : Int32))), (2, .int (nI m))] [] [(v, .inl (cB, n, .inl (f)))] 0 (0) (0)
  refine j_iload_n C0 dJ7_copyOfRangeByte_39247_0 1 rfl ?_
  refine j_iload_n C0 dJ7_copyOfRangeByte_39247_1 2 rfl ?_
  refine jt_callS (wr := [(v, .inl (cB, n, .inl (f)))]) CV X (t_J7_checkLength_df160 K D m (by omega)) dJ7_copyOfRangeByte_39247_2 (gS9 v_124 v_125 v_37 v_126) rfl hy_J7_checkLength_df160 rfl [] [0] rfl rfl (by decide) (by decide) (by decide) rfl ⟨Nat.le_of_ble_eq_true rfl, Nat.le_of_ble_eq_true rfl⟩ (Nat.le_of_ble_eq_true rfl) ⟨Nat.le_of_ble_eq_true rfl, Nat.le_of_ble_eq_true rfl⟩ (fun v1 w2 h3 => ?_)
  obtain ⟨rfl, rfl⟩ := h3
  show J x [(0, .ref (v)), (1, .int ((0 : Int32))), (2, .int (nI m))] [] [(v, .inl (cB, n, .inl (f)))] 5 (0) (0)
  refine j_iload_n C0 dJ7_copyOfRangeByte_39247_5 2 rfl ?_
  refine j_iload_n C0 dJ7_copyOfRangeByte_39247_6 1 rfl ?_
  refine j_isub C0 dJ7_copyOfRangeByte_39247_7 ?_
  refine jt_eqI (b := nI m) (Int32.sub_zero _) ?_
  refine j_istore_n C0 dJ7_copyOfRangeByte_39247_8 (by decide) [(3, .int (nI m)), (0, .ref (v)), (1, .int ((0 : Int32))), (2, .int (nI m))] rfl ?_
  refine j_iload_n C0 dJ7_copyOfRangeByte_39247_9 0 rfl ?_
  refine jt_newb C0 X dJ7_copyOfRangeByte_39247_10 0 ht (mT v_22) (nI_pos (by omega)) (N' := m) (nI_cl (by omega)) (by omega) (Nat.le_of_ble_eq_true rfl) ((show 0 + m ≤ 34 by omega)) (fun q4 => ?_)
  show J x [(3, .int (nI m)), (0, .ref (v)), (1, .int ((0 : Int32))), (2, .int (nI m))] [.ref (q4)] [(v, .inl (cB, n, .inl (f))), (q4, .inl (cB, m, .inl (fun _ => 0)))] 12 (1) (0 + m)
  refine j_astore C0 dJ7_copyOfRangeByte_39247_12 (by decide) [(4, .ref (q4)), (3, .int (nI m)), (0, .ref (v)), (1, .int ((0 : Int32))), (2, .int (nI m))] rfl ?_
  refine j_aload_n C0 dJ7_copyOfRangeByte_39247_14 2 rfl ?_
  refine j_iload_n C0 dJ7_copyOfRangeByte_39247_15 3 rfl ?_
  refine j_aload C0 dJ7_copyOfRangeByte_39247_16 0 rfl ?_
  refine j_iconst C0 dJ7_copyOfRangeByte_39247_18 ((0 : Int32)) (by decide) ?_
  refine j_aload_n C0 dJ7_copyOfRangeByte_39247_19 2 rfl ?_
  refine jt_alen C0 X dJ7_copyOfRangeByte_39247_20 0 0 rfl ht (nI n) rfl ?_
  refine j_iload_n C0 dJ7_copyOfRangeByte_39247_21 3 rfl ?_
  refine j_isub C0 dJ7_copyOfRangeByte_39247_22 ?_
  refine jt_eqI (b := nI n) (Int32.sub_zero _) ?_
  refine j_iload_n C0 dJ7_copyOfRangeByte_39247_23 1 rfl ?_
  refine j_mmin C0 dJ7_copyOfRangeByte_39247_24 (mT v_23) (mT v_24) (mT v_14) (mT v_25) (Nat.le_of_ble_eq_true rfl) (Nat.le_of_ble_eq_true rfl) (Nat.le_of_ble_eq_true rfl) ((show 0 + m ≤ 34 by omega)) ?_
  refine jt_eqI (b := nI m) (mn9_nI hm (by omega)) ?_
  refine jt_copy C0 X dJ7_copyOfRangeByte_39247_27 0 1 0 rfl rfl ht (mT v_26) (mT v_27) (mT v_28) (mT v_29) (by decide) (by decide) (nI_pos (by omega)) (by rw [c0_, nI_cl (by omega)]; omega) (by rw [c0_, nI_cl (by omega)]; omega) (fun i _ => hf _) (Nat.le_of_ble_eq_true rfl) (Nat.le_of_ble_eq_true rfl) ?_
  rw [c0_, nI_cl (by omega)]
  show J x [(4, .ref (q4)), (3, .int (nI m)), (0, .ref (v)), (1, .int ((0 : Int32))), (2, .int (nI m))] [] [(v, .inl (cB, n, .inl (f))), (q4, .inl (cB, m, .inl (va_cpy f (fun _ => 0) 0 0 m)))] 30 (1) (0 + m)
  refine j_aload C0 dJ7_copyOfRangeByte_39247_30 0 rfl ?_
  exact jy_areturn C (Or.inr ⟨_, rfl⟩) dJ7_copyOfRangeByte_39247_32 ⟨_, _, rfl, rfl, fun j hj => cpy_lt hj⟩ (Nat.le_of_ble_eq_true rfl) ((show 0 + m ≤ 34 by omega))
abbrev rmt_J7_copyOfRange_39247 : Room := ({ frames := 12, cells := 1, slots := 34, locals := 245 } : Room)
abbrev wt_J7_copyOfRange_39247 : List Cond := (Cond.code yJ7_copyOfRange_39247 cJ7_copyOfRange_39247 3 (some (.array .byte))) :: wsT
set_option maxRecDepth 20000 in
set_option maxHeartbeats 4000000 in
theorem t_J7_copyOfRange_39247 (K : Nat → Nat) (D : va_G) {tys : List (ClassId × FieldType)} {cB : ClassId} (ht : tys[0]? = some (cB, .byte)) (v m n : Nat) (f : Nat → Int32) (hm : m ≤ n) (hn : n ≤ 34) (hf : fitB f) : MT yJ7_copyOfRange_39247 wt_J7_copyOfRange_39247 rmt_J7_copyOfRange_39247 [.ref (v), .int ((0 : Int32)), .int (nI m)] K D tys [(v, .inl (cB, n, .inl (f)))] (fun r w' => ∃ q f', r = some (.ref q) ∧ w' = [(v, .inl (cB, n, .inl f)), (q, .inl (cB, m, .inl f'))] ∧ ∀ j, j < m → f' j = f j) := by
  refine mt_of (cc := cJ7_copyOfRange_39247) (maxL := 3) (ret := (some (.array .byte))) (v0 := some (.ref 0)) (w0 := [(v, .inl (cB, n, .inl f)), (0, .inl (cB, m, .inl f))]) ⟨0, f, rfl, rfl, fun _ _ => rfl⟩ (by decide +kernel) rfl (Nat.le_of_ble_eq_true rfl) (fun x C X => ?_)
  have C : Cy "copyOfRange" K (fun r w' => ∃ q f', r = some (.ref q) ∧ w' = [(v, .inl (cB, n, .inl f)), (q, .inl (cB, m, .inl f'))] ∧ ∀ j, j < m → f' j = f j) x cJ7_copyOfRange_39247 3 RJ7 (some (.array .byte)) [] wt_J7_copyOfRange_39247 rmt_J7_copyOfRange_39247 D tys := C
  have C0 := C.cx
  have CV := C.cv
  show J x [(0, .ref (v)), (1, .int ((0 : Int32))), (2, .int (nI m))] [] [(v, .inl (cB, n, .inl (f)))] 0 (0) (0)
  refine j_iload_n C0 dJ7_copyOfRange_39247_0 1 rfl ?_
  refine j_if_ne C0 dJ7_copyOfRange_39247_1 10 (by decide) (fun c1 => absurd c1 (by decide)) (fun c1_ => ?_)
  refine j_iload_n C0 dJ7_copyOfRange_39247_4 2 rfl ?_
  refine j_aload_n C0 dJ7_copyOfRange_39247_5 0 rfl ?_
  refine jt_alen C0 X dJ7_copyOfRange_39247_6 0 0 rfl ht (nI n) rfl ?_
  refine j_icmp_eq C0 dJ7_copyOfRange_39247_7 17 (by decide) (fun ge => ?_) (fun ge => ?_)
  · obtain rfl := (eq_nI (by omega) (by omega)).mp ge
    refine j_aload_n C0 dJ7_copyOfRange_39247_17 0 rfl ?_
    refine jt_clone CV X dJ7_copyOfRange_39247_18 0 0 ht rfl hf (mT v_127) (mT v_128) (mT v_129) (mT v_130) (mT v_131) (Nat.le_of_ble_eq_true rfl) (Nat.le_of_ble_eq_true rfl) (Nat.le_of_ble_eq_true rfl) ((show 0 + m ≤ 34 by omega)) (fun q3 => ?_)
    show J x [(0, .ref (v)), (1, .int ((0 : Int32))), (2, .int (nI m))] [.ref (q3)] [(v, .inl (cB, m, .inl (f))), (q3, .inl (cB, m, .inl (f)))] 21 (1) (0 + m)
    refine jt_castB CV X dJ7_copyOfRange_39247_21 1 0 ht rfl (mT v_132) ?_
    exact jy_areturn C (Or.inr ⟨_, rfl⟩) dJ7_copyOfRange_39247_24 ⟨_, _, rfl, rfl, fun _ _ => rfl⟩ (Nat.le_of_ble_eq_true rfl) ((show 0 + m ≤ 34 by omega))
  · refine j_aload_n C0 dJ7_copyOfRange_39247_10 0 rfl ?_
    refine j_iload_n C0 dJ7_copyOfRange_39247_11 1 rfl ?_
    refine j_iload_n C0 dJ7_copyOfRange_39247_12 2 rfl ?_
    refine jt_callS (wr := []) CV X (t_J7_copyOfRangeByte_39247 K D ht v m n f hm hn hf) dJ7_copyOfRange_39247_13 (gS9 v_133 v_134 v_37 v_135) rfl hy_J7_copyOfRangeByte_39247 rfl [0] [] rfl rfl (by decide) (by decide) (by decide) rfl ⟨Nat.le_of_ble_eq_true rfl, Nat.le_of_ble_eq_true rfl⟩ (Nat.le_of_ble_eq_true rfl) ⟨Nat.le_of_ble_eq_true rfl, Nat.le_of_ble_eq_true rfl⟩ (fun v4 w5 h6 => ?_)
    obtain ⟨q9, f9, rfl, rfl, hq⟩ := h6
    show J x [(0, .ref (v)), (1, .int ((0 : Int32))), (2, .int (nI m))] [.ref (q9)] [(v, .inl (cB, n, .inl (f))), (q9, .inl (cB, m, .inl (f9)))] 16 (1) (34)
    exact jy_areturn C (Or.inr ⟨_, rfl⟩) dJ7_copyOfRange_39247_16 ⟨q9, f9, rfl, rfl, hq⟩ (Nat.le_of_ble_eq_true rfl) (Nat.le_of_ble_eq_true rfl)
abbrev rmt_J0_init_db425 : Room := ({ frames := 13, cells := 1, slots := 34, locals := 267 } : Room)
abbrev wt_J0_init_db425 : List Cond := (Cond.code yJ0_init_db425 cJ0_init_db425 5 none) :: wsT
set_option maxRecDepth 20000 in
set_option maxHeartbeats 4000000 in
theorem t_J0_init_db425 (K : Nat → Nat) (D : va_G) {tys : List (ClassId × FieldType)} {cB : ClassId} (ht : tys[0]? = some (cB, .byte)) (s b v : Nat) (z : Int32) (n : Nat) (f : Nat → Int32) (t : List Nat) (hcp : cp n) (hn : t.length ≤ n) (hf : fitB f) (hT : hasT f t) : MT yJ0_init_db425 wt_J0_init_db425 rmt_J0_init_db425 [.ref (s), .ref (b), .null] K D tys [(s, .inr (0, [.null, .int (0), .int (0), .int (0)])), (b, .inr (1, [.ref (v), .int (0), .int (z), .int (nI t.length)])), (v, .inl (cB, n, .inl (f)))] (fun r w' => r = none ∧ ∃ q f9, w' = [(s, .inr (0, [.ref (q), .int (0), .int (0), .int (0)])), (b, .inr (1, [.ref (v), .int (0), .int (z), .int (nI t.length)])), (v, .inl (cB, n, .inl (f))), (q, .inl (cB, t.length, .inl (f9)))] ∧ hasT f9 t) := by
  refine mt_of (cc := cJ0_init_db425) (maxL := 5) (ret := none) (v0 := none) (w0 := [(s, .inr (0, [.ref (0), .int (0), .int (0), .int (0)])), (b, .inr (1, [.ref (v), .int (0), .int (z), .int (nI t.length)])), (v, .inl (cB, n, .inl (f))), (0, .inl (cB, t.length, .inl (f)))]) ⟨rfl, 0, f, rfl, hT⟩ (by decide +kernel) rfl (Nat.le_of_ble_eq_true rfl) (fun x C X => ?_)
  have C : Cy "<init>" K (fun r w' => r = none ∧ ∃ q f9, w' = [(s, .inr (0, [.ref (q), .int (0), .int (0), .int (0)])), (b, .inr (1, [.ref (v), .int (0), .int (z), .int (nI t.length)])), (v, .inl (cB, n, .inl (f))), (q, .inl (cB, t.length, .inl (f9)))] ∧ hasT f9 t) x cJ0_init_db425 5 RJ0 none [] wt_J0_init_db425 rmt_J0_init_db425 D tys := C
  have C0 := C.cx
  have CV := C.cv
  show J x [(0, .ref (s)), (1, .ref (b)), (2, .null)] [] [(s, .inr (0, [.null, .int (0), .int (0), .int (0)])), (b, .inr (1, [.ref (v), .int (0), .int (z), .int (nI t.length)])), (v, .inl (cB, n, .inl (f)))] 0 (0) (0)
  refine j_aload_n C0 dJ0_init_db425_0 0 rfl ?_
  refine jt_objInit C0 dJ0_init_db425_1 (mT v_136) (mT v_119) (mT v_120) (Nat.le_of_ble_eq_true rfl) (Nat.le_of_ble_eq_true rfl) (Nat.le_of_ble_eq_true rfl) ?_
  refine j_aload_n C0 dJ0_init_db425_4 1 rfl ?_
  refine jt_callU (wr := [(s, .inr (0, [.null, .int (0), .int (0), .int (0)])), (v, .inl (cB, n, .inl (f)))]) CV X (t_J5_getValue_6d5f1 K D b v (nI t.length) z) dJ0_init_db425_5 (gU9 v_137 v_138 v_139 v_140 v_8 v_141) rfl hy_J5_getValue_6d5f1 rfl 1 rfl rfl rfl [1] [0, 2] rfl rfl (by decide) (by decide) (by decide) rfl ⟨Nat.le_of_ble_eq_true rfl, Nat.le_of_ble_eq_true rfl⟩ (Nat.le_of_ble_eq_true rfl) ⟨Nat.le_of_ble_eq_true rfl, Nat.le_of_ble_eq_true rfl⟩ (fun v1 w2 h3 => ?_)
  obtain ⟨rfl, rfl⟩ := h3
  refine jt_pick X [0, 2, 1] (w' := [(s, .inr (0, [.null, .int (0), .int (0), .int (0)])), (b, .inr (1, [.ref (v), .int (0), .int (z), .int (nI t.length)])), (v, .inl (cB, n, .inl (f)))]) (by decide) rfl ?_
  show J x [(0, .ref (s)), (1, .ref (b)), (2, .null)] [.ref (v)] [(s, .inr (0, [.null, .int (0), .int (0), .int (0)])), (b, .inr (1, [.ref (v), .int (0), .int (z), .int (nI t.length)])), (v, .inl (cB, n, .inl (f)))] 8 (0) (0)
  refine j_astore_n C0 dJ0_init_db425_8 (by decide) [(3, .ref (v)), (0, .ref (s)), (1, .ref (b)), (2, .null)] rfl ?_
  refine j_aload_n C0 dJ0_init_db425_9 2 rfl ?_
  refine jt_callO (wr := [(s, .inr (0, [.null, .int (0), .int (0), .int (0)])), (v, .inl (cB, n, .inl (f)))]) CV X (t_J4_length_8abf5 K D b v (nI t.length) z) dJ0_init_db425_10 (gO9 v_142 v_5 v_7 v_143 v_144 v_145 v_146) (mT v_9) rfl hy_J5_length_8abf5 rfl 1 rfl rfl rfl [1] [0, 2] rfl rfl (by decide) (by decide) (by decide) rfl ⟨Nat.le_of_ble_eq_true rfl, Nat.le_of_ble_eq_true rfl⟩ (Nat.le_of_ble_eq_true rfl) ⟨Nat.le_of_ble_eq_true rfl, Nat.le_of_ble_eq_true rfl⟩ (fun v4 w5 h6 => ?_)
  obtain ⟨rfl, rfl⟩ := h6
  refine jt_pick X [0, 2, 1] (w' := [(s, .inr (0, [.null, .int (0), .int (0), .int (0)])), (b, .inr (1, [.ref (v), .int (0), .int (z), .int (nI t.length)])), (v, .inl (cB, n, .inl (f)))]) (by decide) rfl ?_
  show J x [(3, .ref (v)), (0, .ref (s)), (1, .ref (b)), (2, .null)] [.int (nI t.length)] [(s, .inr (0, [.null, .int (0), .int (0), .int (0)])), (b, .inr (1, [.ref (v), .int (0), .int (z), .int (nI t.length)])), (v, .inl (cB, n, .inl (f)))] 13 (0) (0)
  refine j_istore C0 dJ0_init_db425_13 (by decide) [(4, .int (nI t.length)), (3, .ref (v)), (0, .ref (s)), (1, .ref (b)), (2, .null)] rfl ?_
  refine j_aload_n C0 dJ0_init_db425_15 3 rfl ?_
  refine jt_callU (wr := [(s, .inr (0, [.null, .int (0), .int (0), .int (0)])), (v, .inl (cB, n, .inl (f)))]) CV X (t_J5_isLatin1_aae02 K D b v (nI t.length) z) dJ0_init_db425_16 (gU9 v_147 v_45 v_46 v_47 v_8 v_48) rfl hy_J5_isLatin1_aae02 rfl 1 rfl rfl rfl [1] [0, 2] rfl rfl (by decide) (by decide) (by decide) rfl ⟨Nat.le_of_ble_eq_true rfl, Nat.le_of_ble_eq_true rfl⟩ (Nat.le_of_ble_eq_true rfl) ⟨Nat.le_of_ble_eq_true rfl, Nat.le_of_ble_eq_true rfl⟩ (fun v7 w8 h9 => ?_)
  obtain ⟨rfl, rfl⟩ := h9
  refine jt_pick X [0, 2, 1] (w' := [(s, .inr (0, [.null, .int (0), .int (0), .int (0)])), (b, .inr (1, [.ref (v), .int (0), .int (z), .int (nI t.length)])), (v, .inl (cB, n, .inl (f)))]) (by decide) rfl ?_
  show J x [(4, .int (nI t.length)), (3, .ref (v)), (0, .ref (s)), (1, .ref (b)), (2, .null)] [.int (1)] [(s, .inr (0, [.null, .int (0), .int (0), .int (0)])), (b, .inr (1, [.ref (v), .int (0), .int (z), .int (nI t.length)])), (v, .inl (cB, n, .inl (f)))] 19 (0) (0)
  refine j_if_eq C0 dJ0_init_db425_19 41 (by decide) (fun c10 => absurd c10 (by decide)) (fun c10_ => ?_)
  refine j_aload_n C0 dJ0_init_db425_22 2 rfl ?_
  refine j_iconst C0 dJ0_init_db425_23 ((0 : Int32)) (by decide) ?_
  refine jt_putF C X rfl dJ0_init_db425_24 0 (ty0 := tyJ0) (ty := .byte) rfl rfl 1 (by decide) rfl rfl (Nat.le_of_ble_eq_true rfl) tyJ0_ok nmJ0 rfl (by decide) (by decide) inT_J0 (mT v_54) ?_
  show J x [(4, .int (nI t.length)), (3, .ref (v)), (0, .ref (s)), (1, .ref (b)), (2, .null)] [] [(s, .inr (0, [.null, .int ((0 : Int32)), .int (0), .int (0)])), (b, .inr (1, [.ref (v), .int (0), .int (z), .int (nI t.length)])), (v, .inl (cB, n, .inl (f)))] 27 (0) (0)
  refine j_aload_n C0 dJ0_init_db425_27 2 rfl ?_
  refine j_aload_n C0 dJ0_init_db425_28 1 rfl ?_
  refine j_iconst C0 dJ0_init_db425_29 ((0 : Int32)) (by decide) ?_
  refine j_iload C0 dJ0_init_db425_30 0 rfl ?_
  refine jt_callS (wr := [(s, .inr (0, [.null, .int ((0 : Int32)), .int (0), .int (0)])), (b, .inr (1, [.ref (v), .int (0), .int (z), .int (nI t.length)]))]) CV X (t_J7_copyOfRange_39247 K D ht v t.length n f hn (by rcases hcp with e | e <;> omega) hf) dJ0_init_db425_32 (gS9 v_148 v_149 v_37 v_150) rfl hy_J7_copyOfRange_39247 rfl [2] [0, 1] rfl rfl (by decide) (by decide) (by decide) rfl ⟨Nat.le_of_ble_eq_true rfl, Nat.le_of_ble_eq_true rfl⟩ (Nat.le_of_ble_eq_true rfl) ⟨Nat.le_of_ble_eq_true rfl, Nat.le_of_ble_eq_true rfl⟩ (fun v11 w12 h13 => ?_)
  obtain ⟨q9, f9, rfl, rfl, hq⟩ := h13
  show J x [(4, .int (nI t.length)), (3, .ref (v)), (0, .ref (s)), (1, .ref (b)), (2, .null)] [.ref (q9), .ref (s)] [(s, .inr (0, [.null, .int ((0 : Int32)), .int (0), .int (0)])), (b, .inr (1, [.ref (v), .int (0), .int (z), .int (nI t.length)])), (v, .inl (cB, n, .inl (f))), (q9, .inl (cB, t.length, .inl (f9)))] 35 (1) (34)
  refine jt_putF C X rfl dJ0_init_db425_35 0 (ty0 := tyJ0) (ty := .array .byte) rfl rfl 0 (by decide) rfl rfl (Nat.le_of_ble_eq_true rfl) tyJ0_ok nmJ0 rfl rfl rfl inT_J0 (mT v_55) ?_
  show J x [(4, .int (nI t.length)), (3, .ref (v)), (0, .ref (s)), (1, .ref (b)), (2, .null)] [] [(s, .inr (0, [.ref (q9), .int ((0 : Int32)), .int (0), .int (0)])), (b, .inr (1, [.ref (v), .int (0), .int (z), .int (nI t.length)])), (v, .inl (cB, n, .inl (f))), (q9, .inl (cB, t.length, .inl (f9)))] 38 (1) (34)
  refine j_goto C0 dJ0_init_db425_38 97 (by decide) ?_
  exact jy_return C dJ0_init_db425_97 ⟨rfl, q9, f9, rfl, fun j hj => (hq j hj).trans (hT j hj)⟩ (Nat.le_of_ble_eq_true rfl) (Nat.le_of_ble_eq_true rfl)
abbrev rmt_J0_init_81219 : Room := ({ frames := 14, cells := 1, slots := 34, locals := 291 } : Room)
abbrev wt_J0_init_81219 : List Cond := (Cond.code yJ0_init_81219 cJ0_init_81219 2 none) :: wsT
set_option maxRecDepth 20000 in
set_option maxHeartbeats 4000000 in
theorem t_J0_init_81219 (K : Nat → Nat) (D : va_G) {tys : List (ClassId × FieldType)} {cB : ClassId} (ht : tys[0]? = some (cB, .byte)) (s b v : Nat) (z : Int32) (n : Nat) (f : Nat → Int32) (t : List Nat) (hcp : cp n) (hn : t.length ≤ n) (hf : fitB f) (hT : hasT f t) : MT yJ0_init_81219 wt_J0_init_81219 rmt_J0_init_81219 [.ref (s), .ref (b)] K D tys [(s, .inr (0, [.null, .int (0), .int (0), .int (0)])), (b, .inr (1, [.ref (v), .int (0), .int (z), .int (nI t.length)])), (v, .inl (cB, n, .inl (f)))] (fun r w' => r = none ∧ ∃ q f9, w' = [(s, .inr (0, [.ref (q), .int (0), .int (0), .int (0)])), (b, .inr (1, [.ref (v), .int (0), .int (z), .int (nI t.length)])), (v, .inl (cB, n, .inl (f))), (q, .inl (cB, t.length, .inl (f9)))] ∧ hasT f9 t) := by
  refine mt_of (cc := cJ0_init_81219) (maxL := 2) (ret := none) (v0 := none) (w0 := [(s, .inr (0, [.ref (0), .int (0), .int (0), .int (0)])), (b, .inr (1, [.ref (v), .int (0), .int (z), .int (nI t.length)])), (v, .inl (cB, n, .inl (f))), (0, .inl (cB, t.length, .inl (f)))]) ⟨rfl, 0, f, rfl, hT⟩ (by decide +kernel) rfl (Nat.le_of_ble_eq_true rfl) (fun x C X => ?_)
  have C : Cy "<init>" K (fun r w' => r = none ∧ ∃ q f9, w' = [(s, .inr (0, [.ref (q), .int (0), .int (0), .int (0)])), (b, .inr (1, [.ref (v), .int (0), .int (z), .int (nI t.length)])), (v, .inl (cB, n, .inl (f))), (q, .inl (cB, t.length, .inl (f9)))] ∧ hasT f9 t) x cJ0_init_81219 2 RJ0 none [] wt_J0_init_81219 rmt_J0_init_81219 D tys := C
  have C0 := C.cx
  have CV := C.cv
  show J x [(0, .ref (s)), (1, .ref (b))] [] [(s, .inr (0, [.null, .int (0), .int (0), .int (0)])), (b, .inr (1, [.ref (v), .int (0), .int (z), .int (nI t.length)])), (v, .inl (cB, n, .inl (f)))] 0 (0) (0)
  refine j_aload_n C0 dJ0_init_81219_0 0 rfl ?_
  refine j_aload_n C0 dJ0_init_81219_1 1 rfl ?_
  refine j_null C0 dJ0_init_81219_2 ?_
  refine jt_callI (wr := []) CV X (t_J0_init_db425 K D ht s b v z n f t hcp hn hf hT) dJ0_init_81219_3 (gI9 v_151) rfl (mT v_59) (mT v_152) (mT v_153) rfl hy_J0_init_db425 rfl [0, 1, 2] [] rfl rfl (by decide) (by decide) (by decide) rfl ⟨Nat.le_of_ble_eq_true rfl, Nat.le_of_ble_eq_true rfl⟩ (Nat.le_of_ble_eq_true rfl) ⟨Nat.le_of_ble_eq_true rfl, Nat.le_of_ble_eq_true rfl⟩ (fun v1 w2 h3 => ?_)
  obtain ⟨rfl, q9, f9, rfl, hq⟩ := h3
  show J x [(0, .ref (s)), (1, .ref (b))] [] [(s, .inr (0, [.ref (q9), .int (0), .int (0), .int (0)])), (b, .inr (1, [.ref (v), .int (0), .int (z), .int (nI t.length)])), (v, .inl (cB, n, .inl (f))), (q9, .inl (cB, t.length, .inl (f9)))] 6 (1) (34)
  exact jy_return C dJ0_init_81219_6 ⟨rfl, q9, f9, rfl, hq⟩ (Nat.le_of_ble_eq_true rfl) (Nat.le_of_ble_eq_true rfl)
abbrev rmt_J4_toString_0e30d : Room := ({ frames := 15, cells := 2, slots := 68, locals := 312 } : Room)
abbrev wt_J4_toString_0e30d : List Cond := (Cond.code yJ4_toString_0e30d cJ4_toString_0e30d 1 (some (.object "java/lang/String"))) :: wsT
set_option maxRecDepth 20000 in
set_option maxHeartbeats 4000000 in
theorem t_J4_toString_0e30d (K : Nat → Nat) (D : va_G) {tys : List (ClassId × FieldType)} {cB : ClassId} (ht : tys[0]? = some (cB, .byte)) (b v : Nat) (z : Int32) (n : Nat) (f : Nat → Int32) (t : List Nat) (hcp : cp n) (hn : t.length ≤ n) (hf : fitB f) (hT : hasT f t) : MT yJ4_toString_0e30d wt_J4_toString_0e30d rmt_J4_toString_0e30d [.ref (b)] K D tys [(b, .inr (1, [.ref (v), .int (0), .int (z), .int (nI t.length)])), (v, .inl (cB, n, .inl (f)))] (fun r w' => ∃ s q f9, r = some (.ref s) ∧ w' = [(b, .inr (1, [.ref (v), .int (0), .int (z), .int (nI t.length)])), (v, .inl (cB, n, .inl (f))), (s, .inr (0, [.ref (q), .int (0), .int (0), .int (0)])), (q, .inl (cB, t.length, .inl (f9)))] ∧ hasT f9 t) := by
  refine mt_of (cc := cJ4_toString_0e30d) (maxL := 1) (ret := (some (.object "java/lang/String"))) (v0 := some (.ref 0)) (w0 := [(b, .inr (1, [.ref (v), .int (0), .int (z), .int (nI t.length)])), (v, .inl (cB, n, .inl (f))), (0, .inr (0, [.ref (0), .int (0), .int (0), .int (0)])), (0, .inl (cB, t.length, .inl (f)))]) ⟨0, 0, f, rfl, rfl, hT⟩ (by decide +kernel) rfl (Nat.le_of_ble_eq_true rfl) (fun x C X => ?_)
  have C : Cy "toString" K (fun r w' => ∃ s q f9, r = some (.ref s) ∧ w' = [(b, .inr (1, [.ref (v), .int (0), .int (z), .int (nI t.length)])), (v, .inl (cB, n, .inl (f))), (s, .inr (0, [.ref (q), .int (0), .int (0), .int (0)])), (q, .inl (cB, t.length, .inl (f9)))] ∧ hasT f9 t) x cJ4_toString_0e30d 1 RJ4 (some (.object "java/lang/String")) [] wt_J4_toString_0e30d rmt_J4_toString_0e30d D tys := C
  have C0 := C.cx
  have CV := C.cv
  show J x [(0, .ref (b))] [] [(b, .inr (1, [.ref (v), .int (0), .int (z), .int (nI t.length)])), (v, .inl (cB, n, .inl (f)))] 0 (0) (0)
  refine jt_new C0 X dJ4_toString_0e30d_0 (ci := 0) rfl inT_J0 tyJ0 tyJ0_ok (mT v_154) (mT v_155) (mT v_59) (fs := [.null, .int (0), .int (0), .int (0)]) (nw_J0) (Nat.le_of_ble_eq_true rfl) (Nat.le_of_ble_eq_true rfl) (fun q1 => ?_)
  show J x [(0, .ref (b))] [.ref (q1)] [(b, .inr (1, [.ref (v), .int (0), .int (z), .int (nI t.length)])), (v, .inl (cB, n, .inl (f))), (q1, .inr (0, [.null, .int (0), .int (0), .int (0)]))] 3 (1) (4)
  refine j_dup C0 dJ4_toString_0e30d_3 rfl ?_
  refine j_aload_n C0 dJ4_toString_0e30d_4 0 rfl ?_
  refine jt_callI (wr := []) CV X (t_J0_init_81219 K D ht q1 b v z n f t hcp hn hf hT) dJ4_toString_0e30d_5 (gI9 v_156) rfl (mT v_59) (mT v_157) (mT v_158) rfl hy_J0_init_81219 rfl [2, 0, 1] [] rfl rfl (by decide) (by decide) (by decide) rfl ⟨Nat.le_of_ble_eq_true rfl, Nat.le_of_ble_eq_true rfl⟩ (Nat.le_of_ble_eq_true rfl) ⟨Nat.le_of_ble_eq_true rfl, Nat.le_of_ble_eq_true rfl⟩ (fun v2 w3 h4 => ?_)
  obtain ⟨rfl, q9, f9, rfl, hq⟩ := h4
  refine jt_pick X [1, 2, 0, 3] (w' := [(b, .inr (1, [.ref (v), .int (0), .int (z), .int (nI t.length)])), (v, .inl (cB, n, .inl (f))), (q1, .inr (0, [.ref (q9), .int (0), .int (0), .int (0)])), (q9, .inl (cB, t.length, .inl (f9)))]) (by decide) rfl ?_
  show J x [(0, .ref (b))] [.ref (q1)] [(b, .inr (1, [.ref (v), .int (0), .int (z), .int (nI t.length)])), (v, .inl (cB, n, .inl (f))), (q1, .inr (0, [.ref (q9), .int (0), .int (0), .int (0)])), (q9, .inl (cB, t.length, .inl (f9)))] 8 (2) (38)
  exact jy_areturn C (Or.inl ⟨_, rfl⟩) dJ4_toString_0e30d_8 ⟨q1, q9, f9, rfl, rfl, hq⟩ (Nat.le_of_ble_eq_true rfl) (Nat.le_of_ble_eq_true rfl)
abbrev rmt_J0_coder_7d493 : Room := ({ frames := 10, cells := 0, slots := 0, locals := 200 } : Room)
set_option maxRecDepth 20000 in
set_option maxHeartbeats 4000000 in
theorem t_J0_coder_7d493 (K : Nat → Nat) (D : va_G) {tys : List (ClassId × FieldType)} (s v : Nat) : MT yJ0_coder_7d493 wt_J0_coder_7d493 rmt_J0_coder_7d493 [.ref (s)] K D tys [(s, .inr (0, [.ref (v), .int (0), .int (0), .int (0)]))] (fun r w' => r = some (.int (0)) ∧ w' = [(s, .inr (0, [.ref (v), .int (0), .int (0), .int (0)]))]) := by
  refine mt_of (cc := cJ0_coder_7d493) (maxL := 1) (ret := (some .byte)) (v0 := some (.int (0))) (w0 := [(s, .inr (0, [.ref (v), .int (0), .int (0), .int (0)]))]) ⟨rfl, rfl⟩ (by decide +kernel) rfl (Nat.le_of_ble_eq_true rfl) (fun x C X => ?_)
  have C : Cy "coder" K (fun r w' => r = some (.int (0)) ∧ w' = [(s, .inr (0, [.ref (v), .int (0), .int (0), .int (0)]))]) x cJ0_coder_7d493 1 RJ0 (some .byte) [] wt_J0_coder_7d493 rmt_J0_coder_7d493 D tys := C
  have C0 := C.cx
  have CV := C.cv
  show J x [(0, .ref (s))] [] [(s, .inr (0, [.ref (v), .int (0), .int (0), .int (0)]))] 0 (0) (0)
  refine jy_compact C dJ0_coder_7d493_0 (mT v_53) rfl ?_
  refine j_if_eq C0 dJ0_coder_7d493_3 13 (by decide) (fun c1 => absurd c1 (by decide)) (fun c1_ => ?_)
  refine j_aload_n C0 dJ0_coder_7d493_6 0 rfl ?_
  refine jt_get C0 X dJ0_coder_7d493_7 0 rfl rfl 1 (by decide) (fin := true) rfl rfl inT_J0 (ref := "java/lang/String") (fun _ _ h => h) (mT v_54) ?_
  refine j_goto C0 dJ0_coder_7d493_10 14 (by decide) ?_
  exact jy_zreturn C (by decide) dJ0_coder_7d493_14 ⟨rfl, rfl⟩ (Nat.le_of_ble_eq_true rfl) (Nat.le_of_ble_eq_true rfl)
abbrev rmt_J0_isLatin1_aae02 : Room := ({ frames := 10, cells := 0, slots := 0, locals := 200 } : Room)
abbrev wt_J0_isLatin1_aae02 : List Cond := (Cond.code yJ0_isLatin1_aae02 cJ0_isLatin1_aae02 1 (some .boolean)) :: wsT
set_option maxRecDepth 20000 in
set_option maxHeartbeats 4000000 in
theorem t_J0_isLatin1_aae02 (K : Nat → Nat) (D : va_G) {tys : List (ClassId × FieldType)} (s v : Nat) : MT yJ0_isLatin1_aae02 wt_J0_isLatin1_aae02 rmt_J0_isLatin1_aae02 [.ref (s)] K D tys [(s, .inr (0, [.ref (v), .int (0), .int (0), .int (0)]))] (fun r w' => r = some (.int (1)) ∧ w' = [(s, .inr (0, [.ref (v), .int (0), .int (0), .int (0)]))]) := by
  refine mt_of (cc := cJ0_isLatin1_aae02) (maxL := 1) (ret := (some .boolean)) (v0 := some (.int (1))) (w0 := [(s, .inr (0, [.ref (v), .int (0), .int (0), .int (0)]))]) ⟨rfl, rfl⟩ (by decide +kernel) rfl (Nat.le_of_ble_eq_true rfl) (fun x C X => ?_)
  have C : Cy "isLatin1" K (fun r w' => r = some (.int (1)) ∧ w' = [(s, .inr (0, [.ref (v), .int (0), .int (0), .int (0)]))]) x cJ0_isLatin1_aae02 1 RJ0 (some .boolean) [] wt_J0_isLatin1_aae02 rmt_J0_isLatin1_aae02 D tys := C
  have C0 := C.cx
  have CV := C.cv
  show J x [(0, .ref (s))] [] [(s, .inr (0, [.ref (v), .int (0), .int (0), .int (0)]))] 0 (0) (0)
  refine jy_compact C dJ0_isLatin1_aae02_0 (mT v_53) rfl ?_
  refine j_if_eq C0 dJ0_isLatin1_aae02_3 17 (by decide) (fun c1 => absurd c1 (by decide)) (fun c1_ => ?_)
  refine j_aload_n C0 dJ0_isLatin1_aae02_6 0 rfl ?_
  refine jt_get C0 X dJ0_isLatin1_aae02_7 0 rfl rfl 1 (by decide) (fin := true) rfl rfl inT_J0 (ref := "java/lang/String") (fun _ _ h => h) (mT v_54) ?_
  refine j_if_ne C0 dJ0_isLatin1_aae02_10 17 (by decide) (fun c2 => absurd c2 (by decide)) (fun c2_ => ?_)
  refine j_iconst C0 dJ0_isLatin1_aae02_13 ((1 : Int32)) (by decide) ?_
  refine j_goto C0 dJ0_isLatin1_aae02_14 18 (by decide) ?_
  exact jy_zreturn C (by decide) dJ0_isLatin1_aae02_18 ⟨rfl, rfl⟩ (Nat.le_of_ble_eq_true rfl) (Nat.le_of_ble_eq_true rfl)
abbrev rmt_J0_length_8abf5 : Room := ({ frames := 11, cells := 0, slots := 0, locals := 220 } : Room)
set_option maxRecDepth 20000 in
set_option maxHeartbeats 4000000 in
theorem t_J0_length_8abf5 (K : Nat → Nat) (D : va_G) {tys : List (ClassId × FieldType)} {cB : ClassId} (ht : tys[0]? = some (cB, .byte)) (s v m : Nat) (f : Nat → Int32) : MT yJ0_length_8abf5 wt_J0_length_8abf5 rmt_J0_length_8abf5 [.ref (s)] K D tys [(s, .inr (0, [.ref (v), .int (0), .int (0), .int (0)])), (v, .inl (cB, m, .inl (f)))] (fun r w' => r = some (.int (nI m)) ∧ w' = [(s, .inr (0, [.ref (v), .int (0), .int (0), .int (0)])), (v, .inl (cB, m, .inl (f)))]) := by
  refine mt_of (cc := cJ0_length_8abf5) (maxL := 1) (ret := (some .int)) (v0 := some (.int (nI m))) (w0 := [(s, .inr (0, [.ref (v), .int (0), .int (0), .int (0)])), (v, .inl (cB, m, .inl (f)))]) ⟨rfl, rfl⟩ (by decide +kernel) rfl (Nat.le_of_ble_eq_true rfl) (fun x C X => ?_)
  have C : Cy "length" K (fun r w' => r = some (.int (nI m)) ∧ w' = [(s, .inr (0, [.ref (v), .int (0), .int (0), .int (0)])), (v, .inl (cB, m, .inl (f)))]) x cJ0_length_8abf5 1 RJ0 (some .int) [] wt_J0_length_8abf5 rmt_J0_length_8abf5 D tys := C
  have C0 := C.cx
  have CV := C.cv
  show J x [(0, .ref (s))] [] [(s, .inr (0, [.ref (v), .int (0), .int (0), .int (0)])), (v, .inl (cB, m, .inl (f)))] 0 (0) (0)
  refine j_aload_n C0 dJ0_length_8abf5_0 0 rfl ?_
  refine jt_get C0 X dJ0_length_8abf5_1 0 rfl rfl 0 (by decide) (fin := true) rfl rfl inT_J0 (ref := "java/lang/String") (fun _ _ h => h) (mT v_55) ?_
  refine jt_alen C0 X dJ0_length_8abf5_4 1 0 rfl ht (nI m) rfl ?_
  refine j_aload_n C0 dJ0_length_8abf5_5 0 rfl ?_
  refine jt_callV (wr := [(v, .inl (cB, m, .inl (f)))]) CV X (t_J0_coder_7d493 K D s v) dJ0_length_8abf5_6 (gV9 v_56 v_57 v_58 v_59 v_60) rfl hy_J0_coder_7d493 rfl 0 rfl rfl rfl [0] [1] rfl rfl (by decide) (by decide) (by decide) rfl ⟨Nat.le_of_ble_eq_true rfl, Nat.le_of_ble_eq_true rfl⟩ (Nat.le_of_ble_eq_true rfl) ⟨Nat.le_of_ble_eq_true rfl, Nat.le_of_ble_eq_true rfl⟩ (fun v1 w2 h3 => ?_)
  obtain ⟨rfl, rfl⟩ := h3
  refine jt_pick X [1, 0] (w' := [(s, .inr (0, [.ref (v), .int (0), .int (0), .int (0)])), (v, .inl (cB, m, .inl (f)))]) (by decide) rfl ?_
  show J x [(0, .ref (s))] [.int (0), .int (nI m)] [(s, .inr (0, [.ref (v), .int (0), .int (0), .int (0)])), (v, .inl (cB, m, .inl (f)))] 9 (0) (0)
  refine jt_ishr C0 dJ0_length_8abf5_9 (nI m) (shr0 _) ?_
  exact jy_ireturn C dJ0_length_8abf5_10 ⟨rfl, rfl⟩ (Nat.le_of_ble_eq_true rfl) (Nat.le_of_ble_eq_true rfl)
abbrev rmt_J1_charAt_3b067 : Room := ({ frames := 12, cells := 0, slots := 0, locals := 243 } : Room)
abbrev wt_J1_charAt_3b067 : List Cond := (Cond.code yJ1_charAt_3b067 cJ1_charAt_3b067 2 (some .char)) :: wsT
set_option maxRecDepth 20000 in
set_option maxHeartbeats 4000000 in
theorem t_J1_charAt_3b067 (K : Nat → Nat) (D : va_G) {tys : List (ClassId × FieldType)} {cB : ClassId} (ht : tys[0]? = some (cB, .byte)) (v : Nat) (f : Nat → Int32) (t : List Nat) (j : Nat) (hT : hasT f t) (hl : ltr t) (hj : j < t.length) (hn : t.length < 100000) : MT yJ1_charAt_3b067 wt_J1_charAt_3b067 rmt_J1_charAt_3b067 [.ref (v), .int (nI j)] K D tys [(v, .inl (cB, t.length, .inl (f)))] (fun r w' => r = some (.int (nI (t.getD j 0))) ∧ w' = [(v, .inl (cB, t.length, .inl (f)))]) := by
  refine mt_of (cc := cJ1_charAt_3b067) (maxL := 2) (ret := (some .char)) (v0 := some (.int (nI (t.getD j 0)))) (w0 := [(v, .inl (cB, t.length, .inl (f)))]) ⟨rfl, rfl⟩ (by decide +kernel) rfl (Nat.le_of_ble_eq_true rfl) (fun x C X => ?_)
  have C : Cy "charAt" K (fun r w' => r = some (.int (nI (t.getD j 0))) ∧ w' = [(v, .inl (cB, t.length, .inl (f)))]) x cJ1_charAt_3b067 2 RJ1 (some .char) [] wt_J1_charAt_3b067 rmt_J1_charAt_3b067 D tys := C
  have C0 := C.cx
  have CV := C.cv
  show J x [(0, .ref (v)), (1, .int (nI j))] [] [(v, .inl (cB, t.length, .inl (f)))] 0 (0) (0)
  refine j_iload_n C0 dJ1_charAt_3b067_0 1 rfl ?_
  refine j_aload_n C0 dJ1_charAt_3b067_1 0 rfl ?_
  refine jt_alen C0 X dJ1_charAt_3b067_2 0 0 rfl ht (nI t.length) rfl ?_
  refine jt_callS (wr := [(v, .inl (cB, t.length, .inl (f)))]) CV X (t_J0_checkIndex_df160 K D j t.length hj hn) dJ1_charAt_3b067_3 (gS9 v_159 v_112 v_59 v_113) rfl hy_J0_checkIndex_df160 rfl [] [0] rfl rfl (by decide) (by decide) (by decide) rfl ⟨Nat.le_of_ble_eq_true rfl, Nat.le_of_ble_eq_true rfl⟩ (Nat.le_of_ble_eq_true rfl) ⟨Nat.le_of_ble_eq_true rfl, Nat.le_of_ble_eq_true rfl⟩ (fun v1 w2 h3 => ?_)
  obtain ⟨rfl, rfl⟩ := h3
  show J x [(0, .ref (v)), (1, .int (nI j))] [] [(v, .inl (cB, t.length, .inl (f)))] 6 (0) (0)
  refine j_aload_n C0 dJ1_charAt_3b067_6 0 rfl ?_
  refine j_iload_n C0 dJ1_charAt_3b067_7 1 rfl ?_
  refine jt_baldN C0 X dJ1_charAt_3b067_8 0 0 rfl ht (j := j) hj hn ?_
  refine j_sipush C0 dJ1_charAt_3b067_9 ((255 : Int32)) (by decide) ?_
  refine j_iand C0 dJ1_charAt_3b067_12 ?_
  refine j_i2c C0 dJ1_charAt_3b067_13 ?_
  refine jt_eqI (b := nI (t.getD j 0)) (by rw [hasT_at hT hj]; exact chr_b (ltr_at hl j)) ?_
  exact jy_zreturn C (chr_n (ltr_at hl j)) dJ1_charAt_3b067_14 ⟨rfl, rfl⟩ (Nat.le_of_ble_eq_true rfl) (Nat.le_of_ble_eq_true rfl)
abbrev rmt_J0_charAt_5068e : Room := ({ frames := 13, cells := 0, slots := 0, locals := 264 } : Room)
abbrev wt_J0_charAt_5068e : List Cond := (Cond.code yJ0_charAt_5068e cJ0_charAt_5068e 2 (some .char)) :: wsT
set_option maxRecDepth 20000 in
set_option maxHeartbeats 4000000 in
theorem t_J0_charAt_5068e (K : Nat → Nat) (D : va_G) {tys : List (ClassId × FieldType)} {cB : ClassId} (ht : tys[0]? = some (cB, .byte)) (s v : Nat) (f : Nat → Int32) (t : List Nat) (j : Nat) (hT : hasT f t) (hl : ltr t) (hj : j < t.length) (hn : t.length < 100000) : MT yJ0_charAt_5068e wt_J0_charAt_5068e rmt_J0_charAt_5068e [.ref (s), .int (nI j)] K D tys [(s, .inr (0, [.ref (v), .int (0), .int (0), .int (0)])), (v, .inl (cB, t.length, .inl (f)))] (fun r w' => r = some (.int (nI (t.getD j 0))) ∧ w' = [(s, .inr (0, [.ref (v), .int (0), .int (0), .int (0)])), (v, .inl (cB, t.length, .inl (f)))]) := by
  refine mt_of (cc := cJ0_charAt_5068e) (maxL := 2) (ret := (some .char)) (v0 := some (.int (nI (t.getD j 0)))) (w0 := [(s, .inr (0, [.ref (v), .int (0), .int (0), .int (0)])), (v, .inl (cB, t.length, .inl (f)))]) ⟨rfl, rfl⟩ (by decide +kernel) rfl (Nat.le_of_ble_eq_true rfl) (fun x C X => ?_)
  have C : Cy "charAt" K (fun r w' => r = some (.int (nI (t.getD j 0))) ∧ w' = [(s, .inr (0, [.ref (v), .int (0), .int (0), .int (0)])), (v, .inl (cB, t.length, .inl (f)))]) x cJ0_charAt_5068e 2 RJ0 (some .char) [] wt_J0_charAt_5068e rmt_J0_charAt_5068e D tys := C
  have C0 := C.cx
  have CV := C.cv
  show J x [(0, .ref (s)), (1, .int (nI j))] [] [(s, .inr (0, [.ref (v), .int (0), .int (0), .int (0)])), (v, .inl (cB, t.length, .inl (f)))] 0 (0) (0)
  refine j_aload_n C0 dJ0_charAt_5068e_0 0 rfl ?_
  refine jt_callV (wr := [(v, .inl (cB, t.length, .inl (f)))]) CV X (t_J0_isLatin1_aae02 K D s v) dJ0_charAt_5068e_1 (gV9 v_160 v_161 v_162 v_59 v_163) rfl hy_J0_isLatin1_aae02 rfl 0 rfl rfl rfl [0] [1] rfl rfl (by decide) (by decide) (by decide) rfl ⟨Nat.le_of_ble_eq_true rfl, Nat.le_of_ble_eq_true rfl⟩ (Nat.le_of_ble_eq_true rfl) ⟨Nat.le_of_ble_eq_true rfl, Nat.le_of_ble_eq_true rfl⟩ (fun v1 w2 h3 => ?_)
  obtain ⟨rfl, rfl⟩ := h3
  refine jt_pick X [1, 0] (w' := [(s, .inr (0, [.ref (v), .int (0), .int (0), .int (0)])), (v, .inl (cB, t.length, .inl (f)))]) (by decide) rfl ?_
  show J x [(0, .ref (s)), (1, .int (nI j))] [.int (1)] [(s, .inr (0, [.ref (v), .int (0), .int (0), .int (0)])), (v, .inl (cB, t.length, .inl (f)))] 4 (0) (0)
  refine j_if_eq C0 dJ0_charAt_5068e_4 16 (by decide) (fun c4 => absurd c4 (by decide)) (fun c4_ => ?_)
  refine j_aload_n C0 dJ0_charAt_5068e_7 0 rfl ?_
  refine jt_get C0 X dJ0_charAt_5068e_8 0 rfl rfl 0 (by decide) (fin := true) rfl rfl inT_J0 (ref := "java/lang/String") (fun _ _ h => h) (mT v_55) ?_
  refine j_iload_n C0 dJ0_charAt_5068e_11 1 rfl ?_
  refine jt_callS (wr := [(s, .inr (0, [.ref (v), .int (0), .int (0), .int (0)]))]) CV X (t_J1_charAt_3b067 K D ht v f t j hT hl hj hn) dJ0_charAt_5068e_12 (gS9 v_164 v_165 v_51 v_166) rfl hy_J1_charAt_3b067 rfl [1] [0] rfl rfl (by decide) (by decide) (by decide) rfl ⟨Nat.le_of_ble_eq_true rfl, Nat.le_of_ble_eq_true rfl⟩ (Nat.le_of_ble_eq_true rfl) ⟨Nat.le_of_ble_eq_true rfl, Nat.le_of_ble_eq_true rfl⟩ (fun v5 w6 h7 => ?_)
  obtain ⟨rfl, rfl⟩ := h7
  show J x [(0, .ref (s)), (1, .int (nI j))] [.int (nI (t.getD j 0))] [(s, .inr (0, [.ref (v), .int (0), .int (0), .int (0)])), (v, .inl (cB, t.length, .inl (f)))] 15 (0) (0)
  exact jy_zreturn C (chr_n (ltr_at hl j)) dJ0_charAt_5068e_15 ⟨rfl, rfl⟩ (Nat.le_of_ble_eq_true rfl) (Nat.le_of_ble_eq_true rfl)
