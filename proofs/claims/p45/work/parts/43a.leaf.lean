theorem ltr_32 : ltr [32] := fun u hu => by
  obtain rfl := List.mem_singleton.mp hu
  decide
abbrev rmt_J5_isLatin1_aae02 : Room := ({ frames := 10, cells := 0, slots := 0, locals := 200 } : Room)
abbrev wt_J5_isLatin1_aae02 : List Cond := (Cond.code yJ5_isLatin1_aae02 cJ5_isLatin1_aae02 1 (some .boolean)) :: wsT
set_option maxRecDepth 20000 in
set_option maxHeartbeats 4000000 in
theorem t_J5_isLatin1_aae02 (K : Nat → Nat) (D : va_G) {tys : List (ClassId × FieldType)} (b v : Nat) (c z : Int32) : MT yJ5_isLatin1_aae02 wt_J5_isLatin1_aae02 rmt_J5_isLatin1_aae02 [.ref (b)] K D tys [(b, .inr (1, [.ref (v), .int (0), .int (z), .int (c)]))] (fun r w' => r = some (.int (1)) ∧ w' = [(b, .inr (1, [.ref (v), .int (0), .int (z), .int (c)]))]) := by
  refine mt_of (cc := cJ5_isLatin1_aae02) (maxL := 1) (ret := (some .boolean)) (v0 := some (.int (1))) (w0 := [(b, .inr (1, [.ref (v), .int (0), .int (z), .int (c)]))]) ⟨rfl, rfl⟩ (by decide +kernel) rfl (Nat.le_of_ble_eq_true rfl) (fun x C X => ?_)
  have C : Cy "isLatin1" K (fun r w' => r = some (.int (1)) ∧ w' = [(b, .inr (1, [.ref (v), .int (0), .int (z), .int (c)]))]) x cJ5_isLatin1_aae02 1 RJ5 (some .boolean) [] wt_J5_isLatin1_aae02 rmt_J5_isLatin1_aae02 D tys := C
  have C0 := C.cx
  have CV := C.cv
  show J x [(0, .ref (b))] [] [(b, .inr (1, [.ref (v), .int (0), .int (z), .int (c)]))] 0 (0) (0)
  refine jy_compact C dJ5_isLatin1_aae02_0 (mT v_0) rfl ?_
  refine j_if_eq C0 dJ5_isLatin1_aae02_3 17 (by decide) (fun c1 => absurd c1 (by decide)) (fun c1_ => ?_)
  refine j_aload_n C0 dJ5_isLatin1_aae02_6 0 rfl ?_
  refine jt_get C0 X dJ5_isLatin1_aae02_7 0 rfl rfl 1 (by decide) (fin := false) rfl rfl inT_J4 (ref := "java/lang/AbstractStringBuilder") (fun _ _ h => h) (mT v_1) ?_
  refine j_if_ne C0 dJ5_isLatin1_aae02_10 17 (by decide) (fun c2 => absurd c2 (by decide)) (fun c2_ => ?_)
  refine j_iconst C0 dJ5_isLatin1_aae02_13 ((1 : Int32)) (by decide) ?_
  refine j_goto C0 dJ5_isLatin1_aae02_14 18 (by decide) ?_
  exact jy_zreturn C (by decide) dJ5_isLatin1_aae02_18 ⟨rfl, rfl⟩ (Nat.le_of_ble_eq_true rfl) (Nat.le_of_ble_eq_true rfl)
abbrev rmt_J5_length_8abf5 : Room := ({ frames := 10, cells := 0, slots := 0, locals := 200 } : Room)
abbrev wt_J5_length_8abf5 : List Cond := (Cond.code yJ5_length_8abf5 cJ5_length_8abf5 1 (some .int)) :: wsT
set_option maxRecDepth 20000 in
set_option maxHeartbeats 4000000 in
theorem t_J5_length_8abf5 (K : Nat → Nat) (D : va_G) {tys : List (ClassId × FieldType)} (b v : Nat) (c z : Int32) : MT yJ5_length_8abf5 wt_J5_length_8abf5 rmt_J5_length_8abf5 [.ref (b)] K D tys [(b, .inr (1, [.ref (v), .int (0), .int (z), .int (c)]))] (fun r w' => r = some (.int (c)) ∧ w' = [(b, .inr (1, [.ref (v), .int (0), .int (z), .int (c)]))]) := by
  refine mt_of (cc := cJ5_length_8abf5) (maxL := 1) (ret := (some .int)) (v0 := some (.int (c))) (w0 := [(b, .inr (1, [.ref (v), .int (0), .int (z), .int (c)]))]) ⟨rfl, rfl⟩ (by decide +kernel) rfl (Nat.le_of_ble_eq_true rfl) (fun x C X => ?_)
  have C : Cy "length" K (fun r w' => r = some (.int (c)) ∧ w' = [(b, .inr (1, [.ref (v), .int (0), .int (z), .int (c)]))]) x cJ5_length_8abf5 1 RJ5 (some .int) [] wt_J5_length_8abf5 rmt_J5_length_8abf5 D tys := C
  have C0 := C.cx
  have CV := C.cv
  show J x [(0, .ref (b))] [] [(b, .inr (1, [.ref (v), .int (0), .int (z), .int (c)]))] 0 (0) (0)
  refine j_aload_n C0 dJ5_length_8abf5_0 0 rfl ?_
  refine jt_get C0 X dJ5_length_8abf5_1 0 rfl rfl 3 (by decide) (fin := false) rfl rfl inT_J4 (ref := "java/lang/AbstractStringBuilder") (fun _ _ h => h) (mT v_2) ?_
  exact jy_ireturn C dJ5_length_8abf5_4 ⟨rfl, rfl⟩ (Nat.le_of_ble_eq_true rfl) (Nat.le_of_ble_eq_true rfl)
abbrev rmt_J5_getValue_6d5f1 : Room := ({ frames := 10, cells := 0, slots := 0, locals := 200 } : Room)
abbrev wt_J5_getValue_6d5f1 : List Cond := (Cond.code yJ5_getValue_6d5f1 cJ5_getValue_6d5f1 1 (some (.array .byte))) :: wsT
set_option maxRecDepth 20000 in
set_option maxHeartbeats 4000000 in
theorem t_J5_getValue_6d5f1 (K : Nat → Nat) (D : va_G) {tys : List (ClassId × FieldType)} (b v : Nat) (c z : Int32) : MT yJ5_getValue_6d5f1 wt_J5_getValue_6d5f1 rmt_J5_getValue_6d5f1 [.ref (b)] K D tys [(b, .inr (1, [.ref (v), .int (0), .int (z), .int (c)]))] (fun r w' => r = some (.ref (v)) ∧ w' = [(b, .inr (1, [.ref (v), .int (0), .int (z), .int (c)]))]) := by
  refine mt_of (cc := cJ5_getValue_6d5f1) (maxL := 1) (ret := (some (.array .byte))) (v0 := some (.ref (v))) (w0 := [(b, .inr (1, [.ref (v), .int (0), .int (z), .int (c)]))]) ⟨rfl, rfl⟩ (by decide +kernel) rfl (Nat.le_of_ble_eq_true rfl) (fun x C X => ?_)
  have C : Cy "getValue" K (fun r w' => r = some (.ref (v)) ∧ w' = [(b, .inr (1, [.ref (v), .int (0), .int (z), .int (c)]))]) x cJ5_getValue_6d5f1 1 RJ5 (some (.array .byte)) [] wt_J5_getValue_6d5f1 rmt_J5_getValue_6d5f1 D tys := C
  have C0 := C.cx
  have CV := C.cv
  show J x [(0, .ref (b))] [] [(b, .inr (1, [.ref (v), .int (0), .int (z), .int (c)]))] 0 (0) (0)
  refine j_aload_n C0 dJ5_getValue_6d5f1_0 0 rfl ?_
  refine jt_get C0 X dJ5_getValue_6d5f1_1 0 rfl rfl 0 (by decide) (fin := false) rfl rfl inT_J4 (ref := "java/lang/AbstractStringBuilder") (fun _ _ h => h) (mT v_3) ?_
  exact jy_areturn C (Or.inr ⟨_, rfl⟩) dJ5_getValue_6d5f1_4 ⟨rfl, rfl⟩ (Nat.le_of_ble_eq_true rfl) (Nat.le_of_ble_eq_true rfl)
abbrev rmt_J4_length_8abf5 : Room := ({ frames := 11, cells := 0, slots := 0, locals := 220 } : Room)
abbrev wt_J4_length_8abf5 : List Cond := (Cond.code yJ4_length_8abf5 cJ4_length_8abf5 1 (some .int)) :: wsT
set_option maxRecDepth 20000 in
set_option maxHeartbeats 4000000 in
theorem t_J4_length_8abf5 (K : Nat → Nat) (D : va_G) {tys : List (ClassId × FieldType)} (b v : Nat) (c z : Int32) : MT yJ4_length_8abf5 wt_J4_length_8abf5 rmt_J4_length_8abf5 [.ref (b)] K D tys [(b, .inr (1, [.ref (v), .int (0), .int (z), .int (c)]))] (fun r w' => r = some (.int (c)) ∧ w' = [(b, .inr (1, [.ref (v), .int (0), .int (z), .int (c)]))]) := by
  refine mt_of (cc := cJ4_length_8abf5) (maxL := 1) (ret := (some .int)) (v0 := some (.int (c))) (w0 := [(b, .inr (1, [.ref (v), .int (0), .int (z), .int (c)]))]) ⟨rfl, rfl⟩ (by decide +kernel) rfl (Nat.le_of_ble_eq_true rfl) (fun x C X => ?_)
  have C : Cy "length" K (fun r w' => r = some (.int (c)) ∧ w' = [(b, .inr (1, [.ref (v), .int (0), .int (z), .int (c)]))]) x cJ4_length_8abf5 1 RJ4 (some .int) [] wt_J4_length_8abf5 rmt_J4_length_8abf5 D tys := C
  have C0 := C.cx
  have CV := C.cv
  show J x [(0, .ref (b))] [] [(b, .inr (1, [.ref (v), .int (0), .int (z), .int (c)]))] 0 (0) (0)
  refine j_aload_n C0 dJ4_length_8abf5_0 0 rfl ?_
  refine jt_callSU (wr := []) CV X (t_J5_length_8abf5 K D b v c z) dJ4_length_8abf5_1 (gSU9 v_4 v_5 v_6 v_7 v_8 v_9) rfl ⟨by decide +kernel, hy_J5_length_8abf5.2.2⟩ rfl 0 rfl rfl [0] [] rfl rfl (by decide) (by decide) (by decide) rfl ⟨Nat.le_of_ble_eq_true rfl, Nat.le_of_ble_eq_true rfl⟩ (Nat.le_of_ble_eq_true rfl) ⟨Nat.le_of_ble_eq_true rfl, Nat.le_of_ble_eq_true rfl⟩ (fun v1 w2 h3 => ?_)
  obtain ⟨rfl, rfl⟩ := h3
  show J x [(0, .ref (b))] [.int (c)] [(b, .inr (1, [.ref (v), .int (0), .int (z), .int (c)]))] 4 (0) (0)
  exact jy_ireturn C dJ4_length_8abf5_4 ⟨rfl, rfl⟩ (Nat.le_of_ble_eq_true rfl) (Nat.le_of_ble_eq_true rfl)
abbrev rmt_J1_canEncode_fc78d : Room := ({ frames := 10, cells := 0, slots := 0, locals := 200 } : Room)
abbrev wt_J1_canEncode_fc78d : List Cond := (Cond.code yJ1_canEncode_fc78d cJ1_canEncode_fc78d 1 (some .boolean)) :: wsT
set_option maxRecDepth 20000 in
set_option maxHeartbeats 4000000 in
theorem t_J1_canEncode_fc78d (K : Nat → Nat) (D : va_G) {tys : List (ClassId × FieldType)}  : MT yJ1_canEncode_fc78d wt_J1_canEncode_fc78d rmt_J1_canEncode_fc78d [.int ((32 : Int32))] K D tys [] (fun r w' => r = some (.int (1)) ∧ w' = []) := by
  refine mt_of (cc := cJ1_canEncode_fc78d) (maxL := 1) (ret := (some .boolean)) (v0 := some (.int (1))) (w0 := []) ⟨rfl, rfl⟩ (by decide +kernel) rfl (Nat.le_of_ble_eq_true rfl) (fun x C X => ?_)
  have C : Cy "canEncode" K (fun r w' => r = some (.int (1)) ∧ w' = []) x cJ1_canEncode_fc78d 1 RJ1 (some .boolean) [] wt_J1_canEncode_fc78d rmt_J1_canEncode_fc78d D tys := C
  have C0 := C.cx
  have CV := C.cv
  show J x [(0, .int ((32 : Int32)))] [] [] 0 (0) (0)
  refine j_iload_n C0 dJ1_canEncode_fc78d_0 0 rfl ?_
  refine j_sipush C0 dJ1_canEncode_fc78d_1 ((255 : Int32)) (by decide) ?_
  refine j_icmp_gt C0 dJ1_canEncode_fc78d_4 11 (by decide) (fun c1 => absurd c1 (by decide)) (fun c1_ => ?_)
  refine j_iconst C0 dJ1_canEncode_fc78d_7 ((1 : Int32)) (by decide) ?_
  refine j_goto C0 dJ1_canEncode_fc78d_8 12 (by decide) ?_
  exact jy_zreturn C (by decide) dJ1_canEncode_fc78d_12 ⟨rfl, rfl⟩ (Nat.le_of_ble_eq_true rfl) (Nat.le_of_ble_eq_true rfl)
abbrev rmt_J6_stringSize_0f7a4 : Room := ({ frames := 10, cells := 0, slots := 0, locals := 200 } : Room)
abbrev wt_J6_stringSize_0f7a4 : List Cond := (Cond.code yJ6_stringSize_0f7a4 cJ6_stringSize_0f7a4 4 (some .int)) :: wsT
set_option maxRecDepth 20000 in
set_option maxHeartbeats 4000000 in
theorem t_J6_stringSize_0f7a4 (K : Nat → Nat) (D : va_G) {tys : List (ClassId × FieldType)} (k : Nat) (hk : k ≤ 10000) : MT yJ6_stringSize_0f7a4 wt_J6_stringSize_0f7a4 rmt_J6_stringSize_0f7a4 [.int (nI k)] K D tys [] (fun r w' => r = some (.int (nI (ds k))) ∧ w' = []) := by
  refine mt_of (cc := cJ6_stringSize_0f7a4) (maxL := 4) (ret := (some .int)) (v0 := some (.int (nI (ds k)))) (w0 := []) ⟨rfl, rfl⟩ (by decide +kernel) rfl (Nat.le_of_ble_eq_true rfl) (fun x C X => ?_)
  have C : Cy "stringSize" K (fun r w' => r = some (.int (nI (ds k))) ∧ w' = []) x cJ6_stringSize_0f7a4 4 RJ6 (some .int) [] wt_J6_stringSize_0f7a4 rmt_J6_stringSize_0f7a4 D tys := C
  have C0 := C.cx
  have CV := C.cv
  show J x [(0, .int (nI k))] [] [] 0 (0) (0)
  refine j_iconst C0 dJ6_stringSize_0f7a4_0 ((1 : Int32)) (by decide) ?_
  refine j_istore_n C0 dJ6_stringSize_0f7a4_1 (by decide) [(1, .int ((1 : Int32))), (0, .int (nI k))] rfl ?_
  refine j_iload_n C0 dJ6_stringSize_0f7a4_2 1 rfl ?_
  refine j_if_lt C0 dJ6_stringSize_0f7a4_3 11 (by decide) (fun c => absurd c (nI_pos (by omega))) (fun c1_ => ?_)
  refine j_iconst C0 dJ6_stringSize_0f7a4_6 ((0 : Int32)) (by decide) ?_
  refine j_istore_n C0 dJ6_stringSize_0f7a4_7 (by decide) [(1, .int ((0 : Int32))), (0, .int (nI k))] rfl ?_
  refine j_iload_n C0 dJ6_stringSize_0f7a4_8 1 rfl ?_
  refine j_ineg C0 dJ6_stringSize_0f7a4_9 ?_
  refine j_istore_n C0 dJ6_stringSize_0f7a4_10 (by decide) [(0, .int ((-nI k))), (1, .int ((0 : Int32)))] rfl ?_
  refine j_bipush C0 dJ6_stringSize_0f7a4_11 ((-10 : Int32)) (by decide) ?_
  refine j_istore_n C0 dJ6_stringSize_0f7a4_13 (by decide) [(2, .int ((-10 : Int32))), (0, .int ((-nI k))), (1, .int ((0 : Int32)))] rfl ?_
  refine j_iconst C0 dJ6_stringSize_0f7a4_14 ((1 : Int32)) (by decide) ?_
  refine j_istore_n C0 dJ6_stringSize_0f7a4_15 (by decide) [(3, .int ((1 : Int32))), (2, .int ((-10 : Int32))), (0, .int ((-nI k))), (1, .int ((0 : Int32)))] rfl ?_
  refine j_iload_n C0 dJ6_stringSize_0f7a4_16 0 rfl ?_
  refine j_bipush C0 dJ6_stringSize_0f7a4_17 ((10 : Int32)) (by decide) ?_
  refine j_icmp_ge C0 dJ6_stringSize_0f7a4_19 42 (by decide) (fun c2 => absurd c2 (by decide)) (fun c2_ => ?_)
  refine j_iload_n C0 dJ6_stringSize_0f7a4_22 2 rfl ?_
  refine j_iload_n C0 dJ6_stringSize_0f7a4_23 1 rfl ?_
  refine j_icmp_le C0 dJ6_stringSize_0f7a4_24 31 (by decide) (fun g4 => ?_) (fun g4 => ?_)
  · have g4 := (ng_leI (k := k) (m := 10) (by omega) (by omega)).mp g4
    refine j_bipush C0 dJ6_stringSize_0f7a4_31 ((10 : Int32)) (by decide) ?_
    refine j_iload_n C0 dJ6_stringSize_0f7a4_33 1 rfl ?_
    refine j_imul C0 dJ6_stringSize_0f7a4_34 ?_
    refine jt_eqI (b := (-100 : Int32)) (by decide) ?_
    refine j_istore_n C0 dJ6_stringSize_0f7a4_35 (by decide) [(2, .int ((-100 : Int32))), (3, .int ((1 : Int32))), (0, .int ((-nI k))), (1, .int ((0 : Int32)))] rfl ?_
    refine jt_iinc C0 dJ6_stringSize_0f7a4_36 1 rfl ((1 : Int32)) ((2 : Int32)) (by decide) (by decide) (by decide) [(3, .int ((2 : Int32))), (2, .int ((-100 : Int32))), (0, .int ((-nI k))), (1, .int ((0 : Int32)))] rfl ?_
    refine j_goto C0 dJ6_stringSize_0f7a4_39 16 (by decide) ?_
    refine j_iload_n C0 dJ6_stringSize_0f7a4_16 0 rfl ?_
    refine j_bipush C0 dJ6_stringSize_0f7a4_17 ((10 : Int32)) (by decide) ?_
    refine j_icmp_ge C0 dJ6_stringSize_0f7a4_19 42 (by decide) (fun c5 => absurd c5 (by decide)) (fun c5_ => ?_)
    refine j_iload_n C0 dJ6_stringSize_0f7a4_22 2 rfl ?_
    refine j_iload_n C0 dJ6_stringSize_0f7a4_23 1 rfl ?_
    refine j_icmp_le C0 dJ6_stringSize_0f7a4_24 31 (by decide) (fun g7 => ?_) (fun g7 => ?_)
    · have g7 := (ng_leI (k := k) (m := 100) (by omega) (by omega)).mp g7
      refine j_bipush C0 dJ6_stringSize_0f7a4_31 ((10 : Int32)) (by decide) ?_
      refine j_iload_n C0 dJ6_stringSize_0f7a4_33 1 rfl ?_
      refine j_imul C0 dJ6_stringSize_0f7a4_34 ?_
      refine jt_eqI (b := (-1000 : Int32)) (by decide) ?_
      refine j_istore_n C0 dJ6_stringSize_0f7a4_35 (by decide) [(2, .int ((-1000 : Int32))), (3, .int ((2 : Int32))), (0, .int ((-nI k))), (1, .int ((0 : Int32)))] rfl ?_
      refine jt_iinc C0 dJ6_stringSize_0f7a4_36 1 rfl ((1 : Int32)) ((3 : Int32)) (by decide) (by decide) (by decide) [(3, .int ((3 : Int32))), (2, .int ((-1000 : Int32))), (0, .int ((-nI k))), (1, .int ((0 : Int32)))] rfl ?_
      refine j_goto C0 dJ6_stringSize_0f7a4_39 16 (by decide) ?_
      refine j_iload_n C0 dJ6_stringSize_0f7a4_16 0 rfl ?_
      refine j_bipush C0 dJ6_stringSize_0f7a4_17 ((10 : Int32)) (by decide) ?_
      refine j_icmp_ge C0 dJ6_stringSize_0f7a4_19 42 (by decide) (fun c8 => absurd c8 (by decide)) (fun c8_ => ?_)
      refine j_iload_n C0 dJ6_stringSize_0f7a4_22 2 rfl ?_
      refine j_iload_n C0 dJ6_stringSize_0f7a4_23 1 rfl ?_
      refine j_icmp_le C0 dJ6_stringSize_0f7a4_24 31 (by decide) (fun g10 => ?_) (fun g10 => ?_)
      · have g10 := (ng_leI (k := k) (m := 1000) (by omega) (by omega)).mp g10
        refine j_bipush C0 dJ6_stringSize_0f7a4_31 ((10 : Int32)) (by decide) ?_
        refine j_iload_n C0 dJ6_stringSize_0f7a4_33 1 rfl ?_
        refine j_imul C0 dJ6_stringSize_0f7a4_34 ?_
        refine jt_eqI (b := (-10000 : Int32)) (by decide) ?_
        refine j_istore_n C0 dJ6_stringSize_0f7a4_35 (by decide) [(2, .int ((-10000 : Int32))), (3, .int ((3 : Int32))), (0, .int ((-nI k))), (1, .int ((0 : Int32)))] rfl ?_
        refine jt_iinc C0 dJ6_stringSize_0f7a4_36 1 rfl ((1 : Int32)) ((4 : Int32)) (by decide) (by decide) (by decide) [(3, .int ((4 : Int32))), (2, .int ((-10000 : Int32))), (0, .int ((-nI k))), (1, .int ((0 : Int32)))] rfl ?_
        refine j_goto C0 dJ6_stringSize_0f7a4_39 16 (by decide) ?_
        refine j_iload_n C0 dJ6_stringSize_0f7a4_16 0 rfl ?_
        refine j_bipush C0 dJ6_stringSize_0f7a4_17 ((10 : Int32)) (by decide) ?_
        refine j_icmp_ge C0 dJ6_stringSize_0f7a4_19 42 (by decide) (fun c11 => absurd c11 (by decide)) (fun c11_ => ?_)
        refine j_iload_n C0 dJ6_stringSize_0f7a4_22 2 rfl ?_
        refine j_iload_n C0 dJ6_stringSize_0f7a4_23 1 rfl ?_
        refine j_icmp_le C0 dJ6_stringSize_0f7a4_24 31 (by decide) (fun g13 => ?_) (fun g13 => ?_)
        · have g13 := (ng_leI (k := k) (m := 10000) (by omega) (by omega)).mp g13
          refine j_bipush C0 dJ6_stringSize_0f7a4_31 ((10 : Int32)) (by decide) ?_
          refine j_iload_n C0 dJ6_stringSize_0f7a4_33 1 rfl ?_
          refine j_imul C0 dJ6_stringSize_0f7a4_34 ?_
          refine jt_eqI (b := (-100000 : Int32)) (by decide) ?_
          refine j_istore_n C0 dJ6_stringSize_0f7a4_35 (by decide) [(2, .int ((-100000 : Int32))), (3, .int ((4 : Int32))), (0, .int ((-nI k))), (1, .int ((0 : Int32)))] rfl ?_
          refine jt_iinc C0 dJ6_stringSize_0f7a4_36 1 rfl ((1 : Int32)) ((5 : Int32)) (by decide) (by decide) (by decide) [(3, .int ((5 : Int32))), (2, .int ((-100000 : Int32))), (0, .int ((-nI k))), (1, .int ((0 : Int32)))] rfl ?_
          refine j_goto C0 dJ6_stringSize_0f7a4_39 16 (by decide) ?_
          refine j_iload_n C0 dJ6_stringSize_0f7a4_16 0 rfl ?_
          refine j_bipush C0 dJ6_stringSize_0f7a4_17 ((10 : Int32)) (by decide) ?_
          refine j_icmp_ge C0 dJ6_stringSize_0f7a4_19 42 (by decide) (fun c14 => absurd c14 (by decide)) (fun c14_ => ?_)
          refine j_iload_n C0 dJ6_stringSize_0f7a4_22 2 rfl ?_
          refine j_iload_n C0 dJ6_stringSize_0f7a4_23 1 rfl ?_
          refine j_icmp_le C0 dJ6_stringSize_0f7a4_24 31 (by decide) (fun g16 => absurd ((ng_leI (k := k) (m := 100000) (by omega) (by omega)).mp g16) (by omega)) (fun c15_ => ?_)
          refine j_iload_n C0 dJ6_stringSize_0f7a4_27 0 rfl ?_
          refine j_iload_n C0 dJ6_stringSize_0f7a4_28 3 rfl ?_
          refine j_iadd C0 dJ6_stringSize_0f7a4_29 ?_
          refine jt_eqI (b := (5 : Int32)) (by decide) ?_
          exact jy_ireturn C dJ6_stringSize_0f7a4_30 ⟨by rw [ds_5 (k := k) (by omega)]; rfl, rfl⟩ (Nat.le_of_ble_eq_true rfl) (Nat.le_of_ble_eq_true rfl)
        · have g13 : ¬ 10000 ≤ k := fun z => g13 ((ng_leI (k := k) (m := 10000) (by omega) (by omega)).mpr z)
          refine j_iload_n C0 dJ6_stringSize_0f7a4_27 0 rfl ?_
          refine j_iload_n C0 dJ6_stringSize_0f7a4_28 3 rfl ?_
          refine j_iadd C0 dJ6_stringSize_0f7a4_29 ?_
          refine jt_eqI (b := (4 : Int32)) (by decide) ?_
          exact jy_ireturn C dJ6_stringSize_0f7a4_30 ⟨by rw [ds_4 (k := k) (by omega) (by omega)]; rfl, rfl⟩ (Nat.le_of_ble_eq_true rfl) (Nat.le_of_ble_eq_true rfl)
      · have g10 : ¬ 1000 ≤ k := fun z => g10 ((ng_leI (k := k) (m := 1000) (by omega) (by omega)).mpr z)
        refine j_iload_n C0 dJ6_stringSize_0f7a4_27 0 rfl ?_
        refine j_iload_n C0 dJ6_stringSize_0f7a4_28 3 rfl ?_
        refine j_iadd C0 dJ6_stringSize_0f7a4_29 ?_
        refine jt_eqI (b := (3 : Int32)) (by decide) ?_
        exact jy_ireturn C dJ6_stringSize_0f7a4_30 ⟨by rw [ds_3 (k := k) (by omega) (by omega)]; rfl, rfl⟩ (Nat.le_of_ble_eq_true rfl) (Nat.le_of_ble_eq_true rfl)
    · have g7 : ¬ 100 ≤ k := fun z => g7 ((ng_leI (k := k) (m := 100) (by omega) (by omega)).mpr z)
      refine j_iload_n C0 dJ6_stringSize_0f7a4_27 0 rfl ?_
      refine j_iload_n C0 dJ6_stringSize_0f7a4_28 3 rfl ?_
      refine j_iadd C0 dJ6_stringSize_0f7a4_29 ?_
      refine jt_eqI (b := (2 : Int32)) (by decide) ?_
      exact jy_ireturn C dJ6_stringSize_0f7a4_30 ⟨by rw [ds_2 (k := k) (by omega) (by omega)]; rfl, rfl⟩ (Nat.le_of_ble_eq_true rfl) (Nat.le_of_ble_eq_true rfl)
  · have g4 : ¬ 10 ≤ k := fun z => g4 ((ng_leI (k := k) (m := 10) (by omega) (by omega)).mpr z)
    refine j_iload_n C0 dJ6_stringSize_0f7a4_27 0 rfl ?_
    refine j_iload_n C0 dJ6_stringSize_0f7a4_28 3 rfl ?_
    refine j_iadd C0 dJ6_stringSize_0f7a4_29 ?_
    refine jt_eqI (b := (1 : Int32)) (by decide) ?_
    exact jy_ireturn C dJ6_stringSize_0f7a4_30 ⟨by rw [ds_1 (k := k) (by omega)]; rfl, rfl⟩ (Nat.le_of_ble_eq_true rfl) (Nat.le_of_ble_eq_true rfl)
abbrev rmt_J6_getChars_ba4f3 : Room := ({ frames := 10, cells := 0, slots := 0, locals := 200 } : Room)
abbrev wt_J6_getChars_ba4f3 : List Cond := (Cond.code yJ6_getChars_ba4f3 cJ6_getChars_ba4f3 7 (some .int)) :: wsT
set_option maxRecDepth 20000 in
set_option maxHeartbeats 4000000 in
theorem t_J6_getChars_ba4f3 (K : Nat → Nat) (D : va_G) {tys : List (ClassId × FieldType)} {cB : ClassId} (ht : tys[0]? = some (cB, .byte)) (v n e k : Nat) (f : Nat → Int32) (hk : k ≤ 10000) (he : ds k ≤ e) (hen : e ≤ n) (hn : n < 100000) : MT yJ6_getChars_ba4f3 wt_J6_getChars_ba4f3 rmt_J6_getChars_ba4f3 [.int (nI k), .int (nI e), .ref (v)] K D tys [(v, .inl (cB, n, .inl (f)))] (fun r w' => (∃ a, r = some (.int a)) ∧ w' = [(v, .inl (cB, n, .inl (gcR f e k)))]) := by
  have d9 := ds_all k
  refine mt_of (cc := cJ6_getChars_ba4f3) (maxL := 7) (ret := (some .int)) (v0 := some (.int 0)) (w0 := [(v, .inl (cB, n, .inl (gcR f e k)))]) ⟨⟨_, rfl⟩, rfl⟩ (by decide +kernel) rfl (Nat.le_of_ble_eq_true rfl) (fun x C X => ?_)
  have C : Cy "getChars" K (fun r w' => (∃ a, r = some (.int a)) ∧ w' = [(v, .inl (cB, n, .inl (gcR f e k)))]) x cJ6_getChars_ba4f3 7 RJ6 (some .int) [] wt_J6_getChars_ba4f3 rmt_J6_getChars_ba4f3 D tys := C
  have C0 := C.cx
  have CV := C.cv
  show J x [(0, .int (nI k)), (1, .int (nI e)), (2, .ref (v))] [] [(v, .inl (cB, n, .inl (f)))] 0 (0) (0)
  refine j_iload_n C0 dJ6_getChars_ba4f3_0 1 rfl ?_
  refine j_istore C0 dJ6_getChars_ba4f3_1 (by decide) [(5, .int (nI e)), (0, .int (nI k)), (1, .int (nI e)), (2, .ref (v))] rfl ?_
  refine j_iload_n C0 dJ6_getChars_ba4f3_3 1 rfl ?_
  refine j_if_ge C0 dJ6_getChars_ba4f3_4 11 (by decide) (fun c1_ => ?_) (fun c => absurd (nI_le (a := 0) (Nat.zero_le k) (by omega)) c)
  refine j_iconst C0 dJ6_getChars_ba4f3_11 ((0 : Int32)) (by decide) ?_
  refine j_istore C0 dJ6_getChars_ba4f3_12 (by decide) [(6, .int ((0 : Int32))), (5, .int (nI e)), (0, .int (nI k)), (1, .int (nI e)), (2, .ref (v))] rfl ?_
  refine j_iload C0 dJ6_getChars_ba4f3_14 0 rfl ?_
  refine j_if_ne C0 dJ6_getChars_ba4f3_16 22 (by decide) (fun c2 => absurd c2 (by decide)) (fun c2_ => ?_)
  refine j_iload_n C0 dJ6_getChars_ba4f3_19 2 rfl ?_
  refine j_ineg C0 dJ6_getChars_ba4f3_20 ?_
  refine jt_eqI (b := (-nI k)) (rfl) ?_
  refine j_istore_n C0 dJ6_getChars_ba4f3_21 (by decide) [(0, .int ((-nI k))), (6, .int ((0 : Int32))), (5, .int (nI e)), (1, .int (nI e)), (2, .ref (v))] rfl ?_
  refine j_iload_n C0 dJ6_getChars_ba4f3_22 0 rfl ?_
  refine j_bipush C0 dJ6_getChars_ba4f3_23 ((-100 : Int32)) (by decide) ?_
  refine j_icmp_gt C0 dJ6_getChars_ba4f3_25 72 (by decide) (fun g4 => ?_) (fun g4 => ?_)
  · have g4 := (ng_ltI (k := 100) (m := k) (by omega) (by omega)).mp g4
    refine j_aload_n C0 dJ6_getChars_ba4f3_72 4 rfl ?_
    refine jt_iinc C0 dJ6_getChars_ba4f3_73 2 rfl ((-1 : Int32)) (nI (e - 1)) (by decide) (pre_nI (by omega)) (by decide) [(5, .int (nI (e - 1))), (0, .int ((-nI k))), (6, .int ((0 : Int32))), (1, .int (nI e)), (2, .ref (v))] rfl ?_
    refine j_iload C0 dJ6_getChars_ba4f3_76 0 rfl ?_
    refine jy_digits C true dJ6_getChars_ba4f3_78 (mT v_10) ?_
    refine j_iload_n C0 dJ6_getChars_ba4f3_81 1 rfl ?_
    refine j_ineg C0 dJ6_getChars_ba4f3_82 ?_
    refine jt_eqI (b := nI k) (Int32.neg_neg) ?_
    refine jy_ones C (k := k) (by omega) dJ6_getChars_ba4f3_83 ?_
    refine jt_bastN C0 X dJ6_getChars_ba4f3_84 0 0 rfl ht (u := 48 + k % 10) (j := e - 1) (by omega) (by omega) (by omega) ?_
    show J x [(5, .int (nI (e - 1))), (0, .int ((-nI k))), (6, .int ((0 : Int32))), (1, .int (nI e)), (2, .ref (v))] [] [(v, .inl (cB, n, .inl (upd (f) (e - 1) (nI (48 + k % 10)))))] 85 (0) (0)
    refine j_iload_n C0 dJ6_getChars_ba4f3_85 1 rfl ?_
    refine j_bipush C0 dJ6_getChars_ba4f3_86 ((-9 : Int32)) (by decide) ?_
    refine j_icmp_ge C0 dJ6_getChars_ba4f3_88 104 (by decide) (fun g6 => ?_) (fun g6 => ?_)
    · have g6 := (ng_leI (k := 9) (m := k) (by omega) (by omega)).mp g6
      refine j_iload C0 dJ6_getChars_ba4f3_104 2 rfl ?_
      refine j_if_eq C0 dJ6_getChars_ba4f3_106 118 (by decide) (fun c7_ => ?_) (fun c7 => absurd c7 (by decide))
      refine j_iload C0 dJ6_getChars_ba4f3_118 0 rfl ?_
      exact jy_ireturn C dJ6_getChars_ba4f3_120 ⟨⟨_, rfl⟩, by unfold gcR; rw [if_pos (by omega)]; unfold gcF; rw [if_pos (by omega)]; try rfl⟩ (Nat.le_of_ble_eq_true rfl) (Nat.le_of_ble_eq_true rfl)
    · have g6 : ¬ k ≤ 9 := fun z => g6 ((ng_leI (k := 9) (m := k) (by omega) (by omega)).mpr z)
      refine j_aload_n C0 dJ6_getChars_ba4f3_91 4 rfl ?_
      refine jt_iinc C0 dJ6_getChars_ba4f3_92 0 rfl ((-1 : Int32)) (nI (e - 1 - 1)) (by decide) (pre_nI (by omega)) (by decide) [(5, .int (nI (e - 1 - 1))), (0, .int ((-nI k))), (6, .int ((0 : Int32))), (1, .int (nI e)), (2, .ref (v))] rfl ?_
      refine j_iload C0 dJ6_getChars_ba4f3_95 0 rfl ?_
      refine jy_digits C false dJ6_getChars_ba4f3_97 (mT v_11) ?_
      refine j_iload_n C0 dJ6_getChars_ba4f3_100 1 rfl ?_
      refine j_ineg C0 dJ6_getChars_ba4f3_101 ?_
      refine jt_eqI (b := nI k) (Int32.neg_neg) ?_
      refine jy_tens C (k := k) (by omega) dJ6_getChars_ba4f3_102 ?_
      refine jt_bastN C0 X dJ6_getChars_ba4f3_103 0 0 rfl ht (u := 48 + k / 10) (j := e - 1 - 1) (by omega) (by omega) (by omega) ?_
      show J x [(5, .int (nI (e - 1 - 1))), (0, .int ((-nI k))), (6, .int ((0 : Int32))), (1, .int (nI e)), (2, .ref (v))] [] [(v, .inl (cB, n, .inl (upd (upd (f) (e - 1) (nI (48 + k % 10))) (e - 1 - 1) (nI (48 + k / 10)))))] 104 (0) (0)
      refine j_iload C0 dJ6_getChars_ba4f3_104 2 rfl ?_
      refine j_if_eq C0 dJ6_getChars_ba4f3_106 118 (by decide) (fun c8_ => ?_) (fun c8 => absurd c8 (by decide))
      refine j_iload C0 dJ6_getChars_ba4f3_118 0 rfl ?_
      exact jy_ireturn C dJ6_getChars_ba4f3_120 ⟨⟨_, rfl⟩, by unfold gcR; rw [if_pos (by omega)]; unfold gcF; rw [if_neg (by omega)]; try rfl⟩ (Nat.le_of_ble_eq_true rfl) (Nat.le_of_ble_eq_true rfl)
  · have g4 : ¬ k < 100 := fun z => g4 ((ng_ltI (k := 100) (m := k) (by omega) (by omega)).mpr z)
    refine j_iload_n C0 dJ6_getChars_ba4f3_28 0 rfl ?_
    refine j_bipush C0 dJ6_getChars_ba4f3_29 ((100 : Int32)) (by decide) ?_
    refine j_idiv C0 dJ6_getChars_ba4f3_31 (by decide) ?_
    refine jt_eqI (b := (-nI (k / 100))) (ng_div (by omega)) ?_
    refine j_istore_n C0 dJ6_getChars_ba4f3_32 (by decide) [(3, .int ((-nI (k / 100)))), (0, .int ((-nI k))), (6, .int ((0 : Int32))), (5, .int (nI e)), (1, .int (nI e)), (2, .ref (v))] rfl ?_
    refine j_iload_n C0 dJ6_getChars_ba4f3_33 0 rfl ?_
    refine j_bipush C0 dJ6_getChars_ba4f3_34 ((100 : Int32)) (by decide) ?_
    refine j_imul C0 dJ6_getChars_ba4f3_36 ?_
    refine j_iload_n C0 dJ6_getChars_ba4f3_37 1 rfl ?_
    refine j_isub C0 dJ6_getChars_ba4f3_38 ?_
    refine jt_eqI (b := nI (k % 100)) (ng_mod) ?_
    refine j_istore C0 dJ6_getChars_ba4f3_39 (by decide) [(4, .int (nI (k % 100))), (3, .int ((-nI (k / 100)))), (0, .int ((-nI k))), (6, .int ((0 : Int32))), (5, .int (nI e)), (1, .int (nI e)), (2, .ref (v))] rfl ?_
    refine j_iload_n C0 dJ6_getChars_ba4f3_41 1 rfl ?_
    refine j_istore_n C0 dJ6_getChars_ba4f3_42 (by decide) [(0, .int ((-nI (k / 100)))), (4, .int (nI (k % 100))), (3, .int ((-nI (k / 100)))), (6, .int ((0 : Int32))), (5, .int (nI e)), (1, .int (nI e)), (2, .ref (v))] rfl ?_
    refine j_aload_n C0 dJ6_getChars_ba4f3_43 6 rfl ?_
    refine jt_iinc C0 dJ6_getChars_ba4f3_44 4 rfl ((-1 : Int32)) (nI (e - 1)) (by decide) (pre_nI (by omega)) (by decide) [(5, .int (nI (e - 1))), (0, .int ((-nI (k / 100)))), (4, .int (nI (k % 100))), (3, .int ((-nI (k / 100)))), (6, .int ((0 : Int32))), (1, .int (nI e)), (2, .ref (v))] rfl ?_
    refine j_iload C0 dJ6_getChars_ba4f3_47 0 rfl ?_
    refine jy_digits C true dJ6_getChars_ba4f3_49 (mT v_10) ?_
    refine j_iload C0 dJ6_getChars_ba4f3_52 2 rfl ?_
    refine jy_ones C (k := k % 100) (by omega) dJ6_getChars_ba4f3_54 ?_
    refine jt_bastN C0 X dJ6_getChars_ba4f3_55 0 0 rfl ht (u := 48 + k % 100 % 10) (j := e - 1) (by omega) (by omega) (by omega) ?_
    show J x [(5, .int (nI (e - 1))), (0, .int ((-nI (k / 100)))), (4, .int (nI (k % 100))), (3, .int ((-nI (k / 100)))), (6, .int ((0 : Int32))), (1, .int (nI e)), (2, .ref (v))] [] [(v, .inl (cB, n, .inl (upd (f) (e - 1) (nI (48 + k % 100 % 10)))))] 56 (0) (0)
    refine j_aload_n C0 dJ6_getChars_ba4f3_56 6 rfl ?_
    refine jt_iinc C0 dJ6_getChars_ba4f3_57 0 rfl ((-1 : Int32)) (nI (e - 1 - 1)) (by decide) (pre_nI (by omega)) (by decide) [(5, .int (nI (e - 1 - 1))), (0, .int ((-nI (k / 100)))), (4, .int (nI (k % 100))), (3, .int ((-nI (k / 100)))), (6, .int ((0 : Int32))), (1, .int (nI e)), (2, .ref (v))] rfl ?_
    refine j_iload C0 dJ6_getChars_ba4f3_60 0 rfl ?_
    refine jy_digits C false dJ6_getChars_ba4f3_62 (mT v_11) ?_
    refine j_iload C0 dJ6_getChars_ba4f3_65 2 rfl ?_
    refine jy_tens C (k := k % 100) (by omega) dJ6_getChars_ba4f3_67 ?_
    refine jt_bastN C0 X dJ6_getChars_ba4f3_68 0 0 rfl ht (u := 48 + k % 100 / 10) (j := e - 1 - 1) (by omega) (by omega) (by omega) ?_
    show J x [(5, .int (nI (e - 1 - 1))), (0, .int ((-nI (k / 100)))), (4, .int (nI (k % 100))), (3, .int ((-nI (k / 100)))), (6, .int ((0 : Int32))), (1, .int (nI e)), (2, .ref (v))] [] [(v, .inl (cB, n, .inl (upd (upd (f) (e - 1) (nI (48 + k % 100 % 10))) (e - 1 - 1) (nI (48 + k % 100 / 10)))))] 69 (0) (0)
    refine j_goto C0 dJ6_getChars_ba4f3_69 22 (by decide) ?_
    refine j_iload_n C0 dJ6_getChars_ba4f3_22 1 rfl ?_
    refine j_bipush C0 dJ6_getChars_ba4f3_23 ((-100 : Int32)) (by decide) ?_
    refine j_icmp_gt C0 dJ6_getChars_ba4f3_25 72 (by decide) (fun g10 => ?_) (fun g10 => ?_)
    · have g10 := (ng_ltI (k := 100) (m := (k / 100)) (by omega) (by omega)).mp g10
      refine j_aload_n C0 dJ6_getChars_ba4f3_72 6 rfl ?_
      refine jt_iinc C0 dJ6_getChars_ba4f3_73 0 rfl ((-1 : Int32)) (nI (e - 1 - 1 - 1)) (by decide) (pre_nI (by omega)) (by decide) [(5, .int (nI (e - 1 - 1 - 1))), (0, .int ((-nI (k / 100)))), (4, .int (nI (k % 100))), (3, .int ((-nI (k / 100)))), (6, .int ((0 : Int32))), (1, .int (nI e)), (2, .ref (v))] rfl ?_
      refine j_iload C0 dJ6_getChars_ba4f3_76 0 rfl ?_
      refine jy_digits C true dJ6_getChars_ba4f3_78 (mT v_10) ?_
      refine j_iload_n C0 dJ6_getChars_ba4f3_81 1 rfl ?_
      refine j_ineg C0 dJ6_getChars_ba4f3_82 ?_
      refine jt_eqI (b := nI (k / 100)) (Int32.neg_neg) ?_
      refine jy_ones C (k := k / 100) (by omega) dJ6_getChars_ba4f3_83 ?_
      refine jt_bastN C0 X dJ6_getChars_ba4f3_84 0 0 rfl ht (u := 48 + k / 100 % 10) (j := e - 1 - 1 - 1) (by omega) (by omega) (by omega) ?_
      show J x [(5, .int (nI (e - 1 - 1 - 1))), (0, .int ((-nI (k / 100)))), (4, .int (nI (k % 100))), (3, .int ((-nI (k / 100)))), (6, .int ((0 : Int32))), (1, .int (nI e)), (2, .ref (v))] [] [(v, .inl (cB, n, .inl (upd (upd (upd (f) (e - 1) (nI (48 + k % 100 % 10))) (e - 1 - 1) (nI (48 + k % 100 / 10))) (e - 1 - 1 - 1) (nI (48 + k / 100 % 10)))))] 85 (0) (0)
      refine j_iload_n C0 dJ6_getChars_ba4f3_85 1 rfl ?_
      refine j_bipush C0 dJ6_getChars_ba4f3_86 ((-9 : Int32)) (by decide) ?_
      refine j_icmp_ge C0 dJ6_getChars_ba4f3_88 104 (by decide) (fun g12 => ?_) (fun g12 => ?_)
      · have g12 := (ng_leI (k := 9) (m := (k / 100)) (by omega) (by omega)).mp g12
        refine j_iload C0 dJ6_getChars_ba4f3_104 4 rfl ?_
        refine j_if_eq C0 dJ6_getChars_ba4f3_106 118 (by decide) (fun c13_ => ?_) (fun c13 => absurd c13 (by decide))
        refine j_iload C0 dJ6_getChars_ba4f3_118 0 rfl ?_
        exact jy_ireturn C dJ6_getChars_ba4f3_120 ⟨⟨_, rfl⟩, by unfold gcR; rw [if_neg (by omega), if_pos (by omega)]; unfold gcF; rw [if_pos (by omega)]; try rfl⟩ (Nat.le_of_ble_eq_true rfl) (Nat.le_of_ble_eq_true rfl)
      · have g12 : ¬ (k / 100) ≤ 9 := fun z => g12 ((ng_leI (k := 9) (m := (k / 100)) (by omega) (by omega)).mpr z)
        refine j_aload_n C0 dJ6_getChars_ba4f3_91 6 rfl ?_
        refine jt_iinc C0 dJ6_getChars_ba4f3_92 0 rfl ((-1 : Int32)) (nI (e - 1 - 1 - 1 - 1)) (by decide) (pre_nI (by omega)) (by decide) [(5, .int (nI (e - 1 - 1 - 1 - 1))), (0, .int ((-nI (k / 100)))), (4, .int (nI (k % 100))), (3, .int ((-nI (k / 100)))), (6, .int ((0 : Int32))), (1, .int (nI e)), (2, .ref (v))] rfl ?_
        refine j_iload C0 dJ6_getChars_ba4f3_95 0 rfl ?_
        refine jy_digits C false dJ6_getChars_ba4f3_97 (mT v_11) ?_
        refine j_iload_n C0 dJ6_getChars_ba4f3_100 1 rfl ?_
        refine j_ineg C0 dJ6_getChars_ba4f3_101 ?_
        refine jt_eqI (b := nI (k / 100)) (Int32.neg_neg) ?_
        refine jy_tens C (k := k / 100) (by omega) dJ6_getChars_ba4f3_102 ?_
        refine jt_bastN C0 X dJ6_getChars_ba4f3_103 0 0 rfl ht (u := 48 + k / 100 / 10) (j := e - 1 - 1 - 1 - 1) (by omega) (by omega) (by omega) ?_
        show J x [(5, .int (nI (e - 1 - 1 - 1 - 1))), (0, .int ((-nI (k / 100)))), (4, .int (nI (k % 100))), (3, .int ((-nI (k / 100)))), (6, .int ((0 : Int32))), (1, .int (nI e)), (2, .ref (v))] [] [(v, .inl (cB, n, .inl (upd (upd (upd (upd (f) (e - 1) (nI (48 + k % 100 % 10))) (e - 1 - 1) (nI (48 + k % 100 / 10))) (e - 1 - 1 - 1) (nI (48 + k / 100 % 10))) (e - 1 - 1 - 1 - 1) (nI (48 + k / 100 / 10)))))] 104 (0) (0)
        refine j_iload C0 dJ6_getChars_ba4f3_104 4 rfl ?_
        refine j_if_eq C0 dJ6_getChars_ba4f3_106 118 (by decide) (fun c14_ => ?_) (fun c14 => absurd c14 (by decide))
        refine j_iload C0 dJ6_getChars_ba4f3_118 0 rfl ?_
        exact jy_ireturn C dJ6_getChars_ba4f3_120 ⟨⟨_, rfl⟩, by unfold gcR; rw [if_neg (by omega), if_pos (by omega)]; unfold gcF; rw [if_neg (by omega)]; try rfl⟩ (Nat.le_of_ble_eq_true rfl) (Nat.le_of_ble_eq_true rfl)
    · have g10 : ¬ (k / 100) < 100 := fun z => g10 ((ng_ltI (k := 100) (m := (k / 100)) (by omega) (by omega)).mpr z)
      refine j_iload_n C0 dJ6_getChars_ba4f3_28 1 rfl ?_
      refine j_bipush C0 dJ6_getChars_ba4f3_29 ((100 : Int32)) (by decide) ?_
      refine j_idiv C0 dJ6_getChars_ba4f3_31 (by decide) ?_
      refine jt_eqI (b := (-nI ((k / 100) / 100))) (ng_div (by omega)) ?_
      refine j_istore_n C0 dJ6_getChars_ba4f3_32 (by decide) [(3, .int ((-nI ((k / 100) / 100)))), (5, .int (nI (e - 1 - 1))), (0, .int ((-nI (k / 100)))), (4, .int (nI (k % 100))), (6, .int ((0 : Int32))), (1, .int (nI e)), (2, .ref (v))] rfl ?_
      refine j_iload_n C0 dJ6_getChars_ba4f3_33 0 rfl ?_
      refine j_bipush C0 dJ6_getChars_ba4f3_34 ((100 : Int32)) (by decide) ?_
      refine j_imul C0 dJ6_getChars_ba4f3_36 ?_
      refine j_iload_n C0 dJ6_getChars_ba4f3_37 2 rfl ?_
      refine j_isub C0 dJ6_getChars_ba4f3_38 ?_
      refine jt_eqI (b := nI ((k / 100) % 100)) (ng_mod) ?_
      refine j_istore C0 dJ6_getChars_ba4f3_39 (by decide) [(4, .int (nI ((k / 100) % 100))), (3, .int ((-nI ((k / 100) / 100)))), (5, .int (nI (e - 1 - 1))), (0, .int ((-nI (k / 100)))), (6, .int ((0 : Int32))), (1, .int (nI e)), (2, .ref (v))] rfl ?_
      refine j_iload_n C0 dJ6_getChars_ba4f3_41 1 rfl ?_
      refine j_istore_n C0 dJ6_getChars_ba4f3_42 (by decide) [(0, .int ((-nI ((k / 100) / 100)))), (4, .int (nI ((k / 100) % 100))), (3, .int ((-nI ((k / 100) / 100)))), (5, .int (nI (e - 1 - 1))), (6, .int ((0 : Int32))), (1, .int (nI e)), (2, .ref (v))] rfl ?_
      refine j_aload_n C0 dJ6_getChars_ba4f3_43 6 rfl ?_
      refine jt_iinc C0 dJ6_getChars_ba4f3_44 3 rfl ((-1 : Int32)) (nI (e - 1 - 1 - 1)) (by decide) (pre_nI (by omega)) (by decide) [(5, .int (nI (e - 1 - 1 - 1))), (0, .int ((-nI ((k / 100) / 100)))), (4, .int (nI ((k / 100) % 100))), (3, .int ((-nI ((k / 100) / 100)))), (6, .int ((0 : Int32))), (1, .int (nI e)), (2, .ref (v))] rfl ?_
      refine j_iload C0 dJ6_getChars_ba4f3_47 0 rfl ?_
      refine jy_digits C true dJ6_getChars_ba4f3_49 (mT v_10) ?_
      refine j_iload C0 dJ6_getChars_ba4f3_52 2 rfl ?_
      refine jy_ones C (k := (k / 100) % 100) (by omega) dJ6_getChars_ba4f3_54 ?_
      refine jt_bastN C0 X dJ6_getChars_ba4f3_55 0 0 rfl ht (u := 48 + (k / 100) % 100 % 10) (j := e - 1 - 1 - 1) (by omega) (by omega) (by omega) ?_
      show J x [(5, .int (nI (e - 1 - 1 - 1))), (0, .int ((-nI ((k / 100) / 100)))), (4, .int (nI ((k / 100) % 100))), (3, .int ((-nI ((k / 100) / 100)))), (6, .int ((0 : Int32))), (1, .int (nI e)), (2, .ref (v))] [] [(v, .inl (cB, n, .inl (upd (upd (upd (f) (e - 1) (nI (48 + k % 100 % 10))) (e - 1 - 1) (nI (48 + k % 100 / 10))) (e - 1 - 1 - 1) (nI (48 + (k / 100) % 100 % 10)))))] 56 (0) (0)
      refine j_aload_n C0 dJ6_getChars_ba4f3_56 6 rfl ?_
      refine jt_iinc C0 dJ6_getChars_ba4f3_57 0 rfl ((-1 : Int32)) (nI (e - 1 - 1 - 1 - 1)) (by decide) (pre_nI (by omega)) (by decide) [(5, .int (nI (e - 1 - 1 - 1 - 1))), (0, .int ((-nI ((k / 100) / 100)))), (4, .int (nI ((k / 100) % 100))), (3, .int ((-nI ((k / 100) / 100)))), (6, .int ((0 : Int32))), (1, .int (nI e)), (2, .ref (v))] rfl ?_
      refine j_iload C0 dJ6_getChars_ba4f3_60 0 rfl ?_
      refine jy_digits C false dJ6_getChars_ba4f3_62 (mT v_11) ?_
      refine j_iload C0 dJ6_getChars_ba4f3_65 2 rfl ?_
      refine jy_tens C (k := (k / 100) % 100) (by omega) dJ6_getChars_ba4f3_67 ?_
      refine jt_bastN C0 X dJ6_getChars_ba4f3_68 0 0 rfl ht (u := 48 + (k / 100) % 100 / 10) (j := e - 1 - 1 - 1 - 1) (by omega) (by omega) (by omega) ?_
      show J x [(5, .int (nI (e - 1 - 1 - 1 - 1))), (0, .int ((-nI ((k / 100) / 100)))), (4, .int (nI ((k / 100) % 100))), (3, .int ((-nI ((k / 100) / 100)))), (6, .int ((0 : Int32))), (1, .int (nI e)), (2, .ref (v))] [] [(v, .inl (cB, n, .inl (upd (upd (upd (upd (f) (e - 1) (nI (48 + k % 100 % 10))) (e - 1 - 1) (nI (48 + k % 100 / 10))) (e - 1 - 1 - 1) (nI (48 + (k / 100) % 100 % 10))) (e - 1 - 1 - 1 - 1) (nI (48 + (k / 100) % 100 / 10)))))] 69 (0) (0)
      refine j_goto C0 dJ6_getChars_ba4f3_69 22 (by decide) ?_
      refine j_iload_n C0 dJ6_getChars_ba4f3_22 1 rfl ?_
      refine j_bipush C0 dJ6_getChars_ba4f3_23 ((-100 : Int32)) (by decide) ?_
      refine j_icmp_gt C0 dJ6_getChars_ba4f3_25 72 (by decide) (fun c15_ => ?_) (fun g16 => absurd ((ng_ltI (k := 100) (m := ((k / 100) / 100)) (by omega) (by omega)).mpr (by omega)) g16)
      refine j_aload_n C0 dJ6_getChars_ba4f3_72 6 rfl ?_
      refine jt_iinc C0 dJ6_getChars_ba4f3_73 0 rfl ((-1 : Int32)) (nI (e - 1 - 1 - 1 - 1 - 1)) (by decide) (pre_nI (by omega)) (by decide) [(5, .int (nI (e - 1 - 1 - 1 - 1 - 1))), (0, .int ((-nI ((k / 100) / 100)))), (4, .int (nI ((k / 100) % 100))), (3, .int ((-nI ((k / 100) / 100)))), (6, .int ((0 : Int32))), (1, .int (nI e)), (2, .ref (v))] rfl ?_
      refine j_iload C0 dJ6_getChars_ba4f3_76 0 rfl ?_
      refine jy_digits C true dJ6_getChars_ba4f3_78 (mT v_10) ?_
      refine j_iload_n C0 dJ6_getChars_ba4f3_81 1 rfl ?_
      refine j_ineg C0 dJ6_getChars_ba4f3_82 ?_
      refine jt_eqI (b := nI ((k / 100) / 100)) (Int32.neg_neg) ?_
      refine jy_ones C (k := (k / 100) / 100) (by omega) dJ6_getChars_ba4f3_83 ?_
      refine jt_bastN C0 X dJ6_getChars_ba4f3_84 0 0 rfl ht (u := 48 + (k / 100) / 100 % 10) (j := e - 1 - 1 - 1 - 1 - 1) (by omega) (by omega) (by omega) ?_
      show J x [(5, .int (nI (e - 1 - 1 - 1 - 1 - 1))), (0, .int ((-nI ((k / 100) / 100)))), (4, .int (nI ((k / 100) % 100))), (3, .int ((-nI ((k / 100) / 100)))), (6, .int ((0 : Int32))), (1, .int (nI e)), (2, .ref (v))] [] [(v, .inl (cB, n, .inl (upd (upd (upd (upd (upd (f) (e - 1) (nI (48 + k % 100 % 10))) (e - 1 - 1) (nI (48 + k % 100 / 10))) (e - 1 - 1 - 1) (nI (48 + (k / 100) % 100 % 10))) (e - 1 - 1 - 1 - 1) (nI (48 + (k / 100) % 100 / 10))) (e - 1 - 1 - 1 - 1 - 1) (nI (48 + (k / 100) / 100 % 10)))))] 85 (0) (0)
      refine j_iload_n C0 dJ6_getChars_ba4f3_85 1 rfl ?_
      refine j_bipush C0 dJ6_getChars_ba4f3_86 ((-9 : Int32)) (by decide) ?_
      refine j_icmp_ge C0 dJ6_getChars_ba4f3_88 104 (by decide) (fun g18 => ?_) (fun g18 => ?_)
      · have g18 := (ng_leI (k := 9) (m := ((k / 100) / 100)) (by omega) (by omega)).mp g18
        refine j_iload C0 dJ6_getChars_ba4f3_104 4 rfl ?_
        refine j_if_eq C0 dJ6_getChars_ba4f3_106 118 (by decide) (fun c19_ => ?_) (fun c19 => absurd c19 (by decide))
        refine j_iload C0 dJ6_getChars_ba4f3_118 0 rfl ?_
        exact jy_ireturn C dJ6_getChars_ba4f3_120 ⟨⟨_, rfl⟩, by unfold gcR; rw [if_neg (by omega), if_neg (by omega)]; unfold gcF; rw [if_pos (by omega)]; try rfl⟩ (Nat.le_of_ble_eq_true rfl) (Nat.le_of_ble_eq_true rfl)
      · have g18 : ¬ ((k / 100) / 100) ≤ 9 := fun z => g18 ((ng_leI (k := 9) (m := ((k / 100) / 100)) (by omega) (by omega)).mpr z)
        refine j_aload_n C0 dJ6_getChars_ba4f3_91 6 rfl ?_
        refine jt_iinc C0 dJ6_getChars_ba4f3_92 0 rfl ((-1 : Int32)) (nI (e - 1 - 1 - 1 - 1 - 1 - 1)) (by decide) (pre_nI (by omega)) (by decide) [(5, .int (nI (e - 1 - 1 - 1 - 1 - 1 - 1))), (0, .int ((-nI ((k / 100) / 100)))), (4, .int (nI ((k / 100) % 100))), (3, .int ((-nI ((k / 100) / 100)))), (6, .int ((0 : Int32))), (1, .int (nI e)), (2, .ref (v))] rfl ?_
        refine j_iload C0 dJ6_getChars_ba4f3_95 0 rfl ?_
        refine jy_digits C false dJ6_getChars_ba4f3_97 (mT v_11) ?_
        refine j_iload_n C0 dJ6_getChars_ba4f3_100 1 rfl ?_
        refine j_ineg C0 dJ6_getChars_ba4f3_101 ?_
        refine jt_eqI (b := nI ((k / 100) / 100)) (Int32.neg_neg) ?_
        refine jy_tens C (k := (k / 100) / 100) (by omega) dJ6_getChars_ba4f3_102 ?_
        refine jt_bastN C0 X dJ6_getChars_ba4f3_103 0 0 rfl ht (u := 48 + (k / 100) / 100 / 10) (j := e - 1 - 1 - 1 - 1 - 1 - 1) (by omega) (by omega) (by omega) ?_
        show J x [(5, .int (nI (e - 1 - 1 - 1 - 1 - 1 - 1))), (0, .int ((-nI ((k / 100) / 100)))), (4, .int (nI ((k / 100) % 100))), (3, .int ((-nI ((k / 100) / 100)))), (6, .int ((0 : Int32))), (1, .int (nI e)), (2, .ref (v))] [] [(v, .inl (cB, n, .inl (upd (upd (upd (upd (upd (upd (f) (e - 1) (nI (48 + k % 100 % 10))) (e - 1 - 1) (nI (48 + k % 100 / 10))) (e - 1 - 1 - 1) (nI (48 + (k / 100) % 100 % 10))) (e - 1 - 1 - 1 - 1) (nI (48 + (k / 100) % 100 / 10))) (e - 1 - 1 - 1 - 1 - 1) (nI (48 + (k / 100) / 100 % 10))) (e - 1 - 1 - 1 - 1 - 1 - 1) (nI (48 + (k / 100) / 100 / 10)))))] 104 (0) (0)
        refine j_iload C0 dJ6_getChars_ba4f3_104 4 rfl ?_
        refine j_if_eq C0 dJ6_getChars_ba4f3_106 118 (by decide) (fun c20_ => ?_) (fun c20 => absurd c20 (by decide))
        refine j_iload C0 dJ6_getChars_ba4f3_118 0 rfl ?_
        exact jy_ireturn C dJ6_getChars_ba4f3_120 ⟨⟨_, rfl⟩, by unfold gcR; rw [if_neg (by omega), if_neg (by omega)]; unfold gcF; rw [if_neg (by omega)]; try rfl⟩ (Nat.le_of_ble_eq_true rfl) (Nat.le_of_ble_eq_true rfl)
abbrev rmt_J8_newLength_cabcc : Room := ({ frames := 10, cells := 0, slots := 0, locals := 200 } : Room)
abbrev wt_J8_newLength_cabcc : List Cond := (Cond.code yJ8_newLength_cabcc cJ8_newLength_cabcc 4 (some .int)) :: wsT
set_option maxRecDepth 20000 in
set_option maxHeartbeats 4000000 in
theorem t_J8_newLength_cabcc (K : Nat → Nat) (D : va_G) {tys : List (ClassId × FieldType)} (d : Nat) (hd : d ≤ 18) : MT yJ8_newLength_cabcc wt_J8_newLength_cabcc rmt_J8_newLength_cabcc [.int ((16 : Int32)), .int (nI d), .int ((18 : Int32))] K D tys [] (fun r w' => r = some (.int ((34 : Int32))) ∧ w' = []) := by
  refine mt_of (cc := cJ8_newLength_cabcc) (maxL := 4) (ret := (some .int)) (v0 := some (.int ((34 : Int32)))) (w0 := []) ⟨rfl, rfl⟩ (by decide +kernel) rfl (Nat.le_of_ble_eq_true rfl) (fun x C X => ?_)
  have C : Cy "newLength" K (fun r w' => r = some (.int ((34 : Int32))) ∧ w' = []) x cJ8_newLength_cabcc 4 RJ8 (some .int) [] wt_J8_newLength_cabcc rmt_J8_newLength_cabcc D tys := C
  have C0 := C.cx
  have CV := C.cv
  show J x [(0, .int ((16 : Int32))), (1, .int (nI d)), (2, .int ((18 : Int32)))] [] [] 0 (0) (0)
  refine j_iload_n C0 dJ8_newLength_cabcc_0 0 rfl ?_
  refine j_iload_n C0 dJ8_newLength_cabcc_1 1 rfl ?_
  refine j_iload_n C0 dJ8_newLength_cabcc_2 2 rfl ?_
  refine jt_mmax C0 dJ8_newLength_cabcc_3 (mT v_12) (mT v_13) (mT v_14) (mT v_15) (Nat.le_of_ble_eq_true rfl) (Nat.le_of_ble_eq_true rfl) (Nat.le_of_ble_eq_true rfl) (Nat.le_of_ble_eq_true rfl) ?_
  refine jt_eqI (b := (18 : Int32)) (mx18 hd) ?_
  refine j_iadd C0 dJ8_newLength_cabcc_6 ?_
  refine jt_eqI (b := (34 : Int32)) (by decide) ?_
  refine j_istore_n C0 dJ8_newLength_cabcc_7 (by decide) [(3, .int ((34 : Int32))), (0, .int ((16 : Int32))), (1, .int (nI d)), (2, .int ((18 : Int32)))] rfl ?_
  refine j_iconst C0 dJ8_newLength_cabcc_8 ((0 : Int32)) (by decide) ?_
  refine j_iload_n C0 dJ8_newLength_cabcc_9 0 rfl ?_
  refine j_icmp_ge C0 dJ8_newLength_cabcc_10 21 (by decide) (fun c1 => absurd c1 (by decide)) (fun c1_ => ?_)
  refine j_iload_n C0 dJ8_newLength_cabcc_13 0 rfl ?_
  refine jt_ldcI C0 dJ8_newLength_cabcc_14 (mT v_16) ?_
  refine j_icmp_gt C0 dJ8_newLength_cabcc_16 21 (by decide) (fun c2 => absurd c2 (by decide)) (fun c2_ => ?_)
  refine j_iload_n C0 dJ8_newLength_cabcc_19 0 rfl ?_
  exact jy_ireturn C dJ8_newLength_cabcc_20 ⟨rfl, rfl⟩ (Nat.le_of_ble_eq_true rfl) (Nat.le_of_ble_eq_true rfl)
