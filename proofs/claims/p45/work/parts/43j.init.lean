abbrev rmt_X0_init : Room := ({ frames := 10, cells := 0, slots := 0, locals := 200 } : Room)
abbrev wt_X0_init : List Cond := (Cond.code yX0_init cX0_init 1 none) :: wsT
set_option maxRecDepth 20000 in
set_option maxHeartbeats 4000000 in
theorem t_X0_init (K : Nat → Nat) (D : va_G) {tys : List (ClassId × FieldType)} (a : Nat) : MT yX0_init wt_X0_init rmt_X0_init [.ref (a)] K D tys [eLv (a)] (fun r w' => r = none ∧ w' = [eLv (a)]) := by
  refine mt_of (cc := cX0_init) (maxL := 1) (ret := none) (v0 := none) (w0 := [eLv (a)]) ⟨rfl, rfl⟩ (by decide +kernel) rfl (Nat.le_of_ble_eq_true rfl) (fun x C X => ?_)
  have C : Cy "<init>" K (fun r w' => r = none ∧ w' = [eLv (a)]) x cX0_init 1 RX0 none [] wt_X0_init rmt_X0_init D tys := C
  have C0 := C.cx
  have CV := C.cv
  show J x [(0, .ref (a))] [] [eLv (a)] 0 (0) (0)
  refine j_aload_n C0 dX0_init_0 0 rfl ?_
  refine jt_objInit C0 dX0_init_1 (mT v_181) (mT v_119) (mT v_120) (Nat.le_of_ble_eq_true rfl) (Nat.le_of_ble_eq_true rfl) (Nat.le_of_ble_eq_true rfl) ?_
  exact jy_return C dX0_init_4 ⟨rfl, rfl⟩ (Nat.le_of_ble_eq_true rfl) (Nat.le_of_ble_eq_true rfl)
abbrev rmt_X2_init : Room := ({ frames := 10, cells := 0, slots := 0, locals := 200 } : Room)
abbrev wt_X2_init : List Cond := (Cond.code yX2_init cX2_init 1 none) :: wsT
set_option maxRecDepth 20000 in
set_option maxHeartbeats 4000000 in
theorem t_X2_init (K : Nat → Nat) (D : va_G) {tys : List (ClassId × FieldType)} (a : Nat) : MT yX2_init wt_X2_init rmt_X2_init [.ref (a)] K D tys [eRq (a)] (fun r w' => r = none ∧ w' = [eRq (a)]) := by
  refine mt_of (cc := cX2_init) (maxL := 1) (ret := none) (v0 := none) (w0 := [eRq (a)]) ⟨rfl, rfl⟩ (by decide +kernel) rfl (Nat.le_of_ble_eq_true rfl) (fun x C X => ?_)
  have C : Cy "<init>" K (fun r w' => r = none ∧ w' = [eRq (a)]) x cX2_init 1 RX2 none [] wt_X2_init rmt_X2_init D tys := C
  have C0 := C.cx
  have CV := C.cv
  show J x [(0, .ref (a))] [] [eRq (a)] 0 (0) (0)
  refine j_aload_n C0 dX2_init_0 0 rfl ?_
  refine jt_objInit C0 dX2_init_1 (mT v_182) (mT v_119) (mT v_120) (Nat.le_of_ble_eq_true rfl) (Nat.le_of_ble_eq_true rfl) (Nat.le_of_ble_eq_true rfl) ?_
  exact jy_return C dX2_init_4 ⟨rfl, rfl⟩ (Nat.le_of_ble_eq_true rfl) (Nat.le_of_ble_eq_true rfl)
abbrev rmt_X3_init : Room := ({ frames := 10, cells := 0, slots := 0, locals := 200 } : Room)
abbrev wt_X3_init : List Cond := (Cond.code yX3_init cX3_init 1 none) :: wsT
set_option maxRecDepth 20000 in
set_option maxHeartbeats 4000000 in
theorem t_X3_init (K : Nat → Nat) (D : va_G) {tys : List (ClassId × FieldType)} (a : Nat) : MT yX3_init wt_X3_init rmt_X3_init [.ref (a)] K D tys [(a, .inr (7, [.int (0), .int (0), .int (0), .int (0), .int (0)]))] (fun r w' => r = none ∧ w' = [eTp a]) := by
  refine mt_of (cc := cX3_init) (maxL := 1) (ret := none) (v0 := none) (w0 := [eTp a]) ⟨rfl, rfl⟩ (by decide +kernel) rfl (Nat.le_of_ble_eq_true rfl) (fun x C X => ?_)
  have C : Cy "<init>" K (fun r w' => r = none ∧ w' = [eTp a]) x cX3_init 1 RX3 none [] wt_X3_init rmt_X3_init D tys := C
  have C0 := C.cx
  have CV := C.cv
  show J x [(0, .ref (a))] [] [(a, .inr (7, [.int (0), .int (0), .int (0), .int (0), .int (0)]))] 0 (0) (0)
  refine j_aload_n C0 dX3_init_0 0 rfl ?_
  refine jt_objInit C0 dX3_init_1 (mT v_183) (mT v_119) (mT v_120) (Nat.le_of_ble_eq_true rfl) (Nat.le_of_ble_eq_true rfl) (Nat.le_of_ble_eq_true rfl) ?_
  refine j_aload_n C0 dX3_init_4 0 rfl ?_
  refine j_bipush C0 dX3_init_5 ((45 : Int32)) (by decide) ?_
  refine jt_put C0 X dX3_init_7 0 (ty0 := tyX3) (ty := .char) rfl rfl 0 (by decide) rfl (Nat.le_of_ble_eq_true rfl) tyX3_ok nmX3 rfl (by decide) (by decide) inT_X3 (ref := "MineHoist$Trip") (fun _ _ h => h) (mT v_124) ?_
  show J x [(0, .ref (a))] [] [(a, .inr (7, [.int ((45 : Int32)), .int (0), .int (0), .int (0), .int (0)]))] 10 (0) (0)
  refine j_aload_n C0 dX3_init_10 0 rfl ?_
  refine j_iconst C0 dX3_init_11 ((-1 : Int32)) (by decide) ?_
  refine jt_put C0 X dX3_init_12 0 (ty0 := tyX3) (ty := .int) rfl rfl 4 (by decide) rfl (Nat.le_of_ble_eq_true rfl) tyX3_ok nmX3 rfl rfl rfl inT_X3 (ref := "MineHoist$Trip") (fun _ _ h => h) (mT v_184) ?_
  show J x [(0, .ref (a))] [] [eTp (a)] 15 (0) (0)
  exact jy_return C dX3_init_15 ⟨rfl, rfl⟩ (Nat.le_of_ble_eq_true rfl) (Nat.le_of_ble_eq_true rfl)
abbrev rmt_X4_init : Room := ({ frames := 11, cells := 9, slots := 306, locals := 220 } : Room)
abbrev wt_X4_init : List Cond := (Cond.code yX4_init cX4_init 2 none) :: wsT
set_option maxRecDepth 20000 in
set_option maxHeartbeats 4000000 in
theorem t_X4_init (K : Nat → Nat) (D : va_G) {tys : List (ClassId × FieldType)} {cR : ClassId} {tr : Nat} (htr : tys[tr]? = some (cR, .object RX2)) (a : Nat) : MT yX4_init wt_X4_init rmt_X4_init [.ref (a)] K D tys [(a, .inr (8, [.null, .int (0)]))] (fun r w' => r = none ∧ ∃ r_ q0_ q1_ q2_ q3_ q4_ q5_ q6_ q7_, w' = [eWt (a) (r_), eAr (r_) cR 8 (upL (fun _ => none) 0 [q0_, q1_, q2_, q3_, q4_, q5_, q6_, q7_]), eRq (q0_), eRq (q1_), eRq (q2_), eRq (q3_), eRq (q4_), eRq (q5_), eRq (q6_), eRq (q7_)]) := by
  refine mt_of (cc := cX4_init) (maxL := 2) (ret := none) (v0 := none) (w0 := [eWt (a) (0), eAr (0) cR 8 (upL (fun _ => none) 0 [0, 0, 0, 0, 0, 0, 0, 0]), eRq (0), eRq (0), eRq (0), eRq (0), eRq (0), eRq (0), eRq (0), eRq (0)]) ⟨rfl, 0, 0, 0, 0, 0, 0, 0, 0, 0, rfl⟩ (by decide +kernel) rfl (Nat.le_of_ble_eq_true rfl) (fun x C X => ?_)
  have C : Cy "<init>" K (fun r w' => r = none ∧ ∃ r_ q0_ q1_ q2_ q3_ q4_ q5_ q6_ q7_, w' = [eWt (a) (r_), eAr (r_) cR 8 (upL (fun _ => none) 0 [q0_, q1_, q2_, q3_, q4_, q5_, q6_, q7_]), eRq (q0_), eRq (q1_), eRq (q2_), eRq (q3_), eRq (q4_), eRq (q5_), eRq (q6_), eRq (q7_)]) x cX4_init 2 RX4 none [] wt_X4_init rmt_X4_init D tys := C
  have C0 := C.cx
  have CV := C.cv
  show J x [(0, .ref (a))] [] [(a, .inr (8, [.null, .int (0)]))] 0 (0) (0)
  refine j_aload_n C0 dX4_init_0 0 rfl ?_
  refine jt_objInit C0 dX4_init_1 (mT v_185) (mT v_119) (mT v_120) (Nat.le_of_ble_eq_true rfl) (Nat.le_of_ble_eq_true rfl) (Nat.le_of_ble_eq_true rfl) ?_
  refine j_aload_n C0 dX4_init_4 0 rfl ?_
  refine j_bipush C0 dX4_init_5 ((8 : Int32)) (by decide) ?_
  refine jt_newq CV X dX4_init_7 (Cn := RX2) (fun U h => h.2.2.2.2.2) tr htr (mT v_186) (by decide) (N' := 8) (by decide) (by decide) (Nat.le_of_ble_eq_true rfl) (Nat.le_of_ble_eq_true rfl) (fun q1 => ?_)
  show J x [(0, .ref (a))] [.ref (q1), .ref (a)] [(a, .inr (8, [.null, .int (0)])), eAr (q1) cR 8 (upL (fun _ => none) 0 [])] 10 (1) (8)
  refine jt_putF C X rfl dX4_init_10 0 (ty0 := tyX4) (ty := .array (.object "MineHoist$Request")) rfl rfl 0 (by decide) rfl rfl (Nat.le_of_ble_eq_true rfl) tyX4_ok nmX4 rfl rfl rfl inT_X4 (mT v_187) ?_
  show J x [(0, .ref (a))] [] [eWt (a) (q1), eAr (q1) cR 8 (upL (fun _ => none) 0 [])] 13 (1) (8)
  refine j_iconst C0 dX4_init_13 ((0 : Int32)) (by decide) ?_
  refine j_istore_n C0 dX4_init_14 (by decide) [(1, .int ((0 : Int32))), (0, .ref (a))] rfl ?_
  refine j_iload_n C0 dX4_init_15 0 rfl ?_
  refine j_aload_n C0 dX4_init_16 1 rfl ?_
  refine jt_get C0 X dX4_init_17 0 rfl rfl 0 (by decide) (fin := true) rfl rfl inT_X4 (ref := "MineHoist$Waiting") (fun _ _ h => h) (mT v_187) ?_
  refine jt_alen C0 X dX4_init_20 1 tr rfl htr ((8 : Int32)) (show Int32.ofNat 8 = (8 : Int32) by decide) ?_
  refine j_icmp_ge C0 dX4_init_21 43 (by decide) (fun c2 => absurd c2 (by decide)) (fun c2_ => ?_)
  refine j_aload_n C0 dX4_init_24 1 rfl ?_
  refine jt_get C0 X dX4_init_25 0 rfl rfl 0 (by decide) (fin := true) rfl rfl inT_X4 (ref := "MineHoist$Waiting") (fun _ _ h => h) (mT v_187) ?_
  refine j_iload_n C0 dX4_init_28 0 rfl ?_
  refine jt_new C0 X dX4_init_29 (ci := 6) rfl inT_X2 tyX2 tyX2_ok (mT v_186) (mT v_188) (mT v_189) (fs := [.int (0), .int (0), .int (0), .int (0)]) (nw_X2) (Nat.le_of_ble_eq_true rfl) (Nat.le_of_ble_eq_true rfl) (fun q3 => ?_)
  show J x [(1, .int ((0 : Int32))), (0, .ref (a))] [.ref (q3), .int ((0 : Int32)), .ref (q1)] [eWt (a) (q1), eAr (q1) cR 8 (upL (fun _ => none) 0 []), eRq (q3)] 32 (2) (12)
  refine j_dup C0 dX4_init_32 rfl ?_
  refine jt_callIN (wr := [eWt (a) (q1), eAr (q1) cR 8 (upL (fun _ => none) 0 [])]) CV X (t_X2_init K D q3) dX4_init_33 (fun U h => h.2.2.2.1) (gI9 v_190) rfl (mT v_189) (mT v_191) rfl hy_X2_init rfl [2] [0, 1] rfl rfl (by decide) (by decide) (by decide) rfl ⟨Nat.le_of_ble_eq_true rfl, Nat.le_of_ble_eq_true rfl⟩ (Nat.le_of_ble_eq_true rfl) ⟨Nat.le_of_ble_eq_true rfl, Nat.le_of_ble_eq_true rfl⟩ (fun v4 w5 h6 => ?_)
  obtain ⟨rfl, rfl⟩ := h6
  show J x [(1, .int ((0 : Int32))), (0, .ref (a))] [.ref (q3), .int ((0 : Int32)), .ref (q1)] [eWt (a) (q1), eAr (q1) cR 8 (upL (fun _ => none) 0 []), eRq (q3)] 36 (2) (12)
  refine jt_aastN C0 X dX4_init_36 1 tr 2 (j := 0) (ci := 6) (r := (RX2, TX2, 4)) rfl htr rfl rfl (by decide) (by decide) ?_
  show J x [(1, .int ((0 : Int32))), (0, .ref (a))] [] [eWt (a) (q1), eAr (q1) cR 8 (upL (fun _ => none) 0 [q3]), eRq (q3)] 37 (2) (12)
  refine jt_iinc C0 dX4_init_37 0 rfl ((1 : Int32)) ((1 : Int32)) (by decide) (by decide) (by decide) [(1, .int ((1 : Int32))), (0, .ref (a))] rfl ?_
  refine j_goto C0 dX4_init_40 15 (by decide) ?_
  refine j_iload_n C0 dX4_init_15 0 rfl ?_
  refine j_aload_n C0 dX4_init_16 1 rfl ?_
  refine jt_get C0 X dX4_init_17 0 rfl rfl 0 (by decide) (fin := true) rfl rfl inT_X4 (ref := "MineHoist$Waiting") (fun _ _ h => h) (mT v_187) ?_
  refine jt_alen C0 X dX4_init_20 1 tr rfl htr ((8 : Int32)) (show Int32.ofNat 8 = (8 : Int32) by decide) ?_
  refine j_icmp_ge C0 dX4_init_21 43 (by decide) (fun c7 => absurd c7 (by decide)) (fun c7_ => ?_)
  refine j_aload_n C0 dX4_init_24 1 rfl ?_
  refine jt_get C0 X dX4_init_25 0 rfl rfl 0 (by decide) (fin := true) rfl rfl inT_X4 (ref := "MineHoist$Waiting") (fun _ _ h => h) (mT v_187) ?_
  refine j_iload_n C0 dX4_init_28 0 rfl ?_
  refine jt_new C0 X dX4_init_29 (ci := 6) rfl inT_X2 tyX2 tyX2_ok (mT v_186) (mT v_188) (mT v_189) (fs := [.int (0), .int (0), .int (0), .int (0)]) (nw_X2) (Nat.le_of_ble_eq_true rfl) (Nat.le_of_ble_eq_true rfl) (fun q8 => ?_)
  show J x [(1, .int ((1 : Int32))), (0, .ref (a))] [.ref (q8), .int ((1 : Int32)), .ref (q1)] [eWt (a) (q1), eAr (q1) cR 8 (upL (fun _ => none) 0 [q3]), eRq (q3), eRq (q8)] 32 (3) (16)
  refine j_dup C0 dX4_init_32 rfl ?_
  refine jt_callIN (wr := [eWt (a) (q1), eAr (q1) cR 8 (upL (fun _ => none) 0 [q3]), eRq (q3)]) CV X (t_X2_init K D q8) dX4_init_33 (fun U h => h.2.2.2.1) (gI9 v_190) rfl (mT v_189) (mT v_191) rfl hy_X2_init rfl [3] [0, 1, 2] rfl rfl (by decide) (by decide) (by decide) rfl ⟨Nat.le_of_ble_eq_true rfl, Nat.le_of_ble_eq_true rfl⟩ (Nat.le_of_ble_eq_true rfl) ⟨Nat.le_of_ble_eq_true rfl, Nat.le_of_ble_eq_true rfl⟩ (fun v9 w10 h11 => ?_)
  obtain ⟨rfl, rfl⟩ := h11
  show J x [(1, .int ((1 : Int32))), (0, .ref (a))] [.ref (q8), .int ((1 : Int32)), .ref (q1)] [eWt (a) (q1), eAr (q1) cR 8 (upL (fun _ => none) 0 [q3]), eRq (q3), eRq (q8)] 36 (3) (16)
  refine jt_aastN C0 X dX4_init_36 1 tr 3 (j := 1) (ci := 6) (r := (RX2, TX2, 4)) rfl htr rfl rfl (by decide) (by decide) ?_
  show J x [(1, .int ((1 : Int32))), (0, .ref (a))] [] [eWt (a) (q1), eAr (q1) cR 8 (upL (fun _ => none) 0 [q3, q8]), eRq (q3), eRq (q8)] 37 (3) (16)
  refine jt_iinc C0 dX4_init_37 0 rfl ((1 : Int32)) ((2 : Int32)) (by decide) (by decide) (by decide) [(1, .int ((2 : Int32))), (0, .ref (a))] rfl ?_
  refine j_goto C0 dX4_init_40 15 (by decide) ?_
  refine j_iload_n C0 dX4_init_15 0 rfl ?_
  refine j_aload_n C0 dX4_init_16 1 rfl ?_
  refine jt_get C0 X dX4_init_17 0 rfl rfl 0 (by decide) (fin := true) rfl rfl inT_X4 (ref := "MineHoist$Waiting") (fun _ _ h => h) (mT v_187) ?_
  refine jt_alen C0 X dX4_init_20 1 tr rfl htr ((8 : Int32)) (show Int32.ofNat 8 = (8 : Int32) by decide) ?_
  refine j_icmp_ge C0 dX4_init_21 43 (by decide) (fun c12 => absurd c12 (by decide)) (fun c12_ => ?_)
  refine j_aload_n C0 dX4_init_24 1 rfl ?_
  refine jt_get C0 X dX4_init_25 0 rfl rfl 0 (by decide) (fin := true) rfl rfl inT_X4 (ref := "MineHoist$Waiting") (fun _ _ h => h) (mT v_187) ?_
  refine j_iload_n C0 dX4_init_28 0 rfl ?_
  refine jt_new C0 X dX4_init_29 (ci := 6) rfl inT_X2 tyX2 tyX2_ok (mT v_186) (mT v_188) (mT v_189) (fs := [.int (0), .int (0), .int (0), .int (0)]) (nw_X2) (Nat.le_of_ble_eq_true rfl) (Nat.le_of_ble_eq_true rfl) (fun q13 => ?_)
  show J x [(1, .int ((2 : Int32))), (0, .ref (a))] [.ref (q13), .int ((2 : Int32)), .ref (q1)] [eWt (a) (q1), eAr (q1) cR 8 (upL (fun _ => none) 0 [q3, q8]), eRq (q3), eRq (q8), eRq (q13)] 32 (4) (20)
  refine j_dup C0 dX4_init_32 rfl ?_
  refine jt_callIN (wr := [eWt (a) (q1), eAr (q1) cR 8 (upL (fun _ => none) 0 [q3, q8]), eRq (q3), eRq (q8)]) CV X (t_X2_init K D q13) dX4_init_33 (fun U h => h.2.2.2.1) (gI9 v_190) rfl (mT v_189) (mT v_191) rfl hy_X2_init rfl [4] [0, 1, 2, 3] rfl rfl (by decide) (by decide) (by decide) rfl ⟨Nat.le_of_ble_eq_true rfl, Nat.le_of_ble_eq_true rfl⟩ (Nat.le_of_ble_eq_true rfl) ⟨Nat.le_of_ble_eq_true rfl, Nat.le_of_ble_eq_true rfl⟩ (fun v14 w15 h16 => ?_)
  obtain ⟨rfl, rfl⟩ := h16
  show J x [(1, .int ((2 : Int32))), (0, .ref (a))] [.ref (q13), .int ((2 : Int32)), .ref (q1)] [eWt (a) (q1), eAr (q1) cR 8 (upL (fun _ => none) 0 [q3, q8]), eRq (q3), eRq (q8), eRq (q13)] 36 (4) (20)
  refine jt_aastN C0 X dX4_init_36 1 tr 4 (j := 2) (ci := 6) (r := (RX2, TX2, 4)) rfl htr rfl rfl (by decide) (by decide) ?_
  show J x [(1, .int ((2 : Int32))), (0, .ref (a))] [] [eWt (a) (q1), eAr (q1) cR 8 (upL (fun _ => none) 0 [q3, q8, q13]), eRq (q3), eRq (q8), eRq (q13)] 37 (4) (20)
  refine jt_iinc C0 dX4_init_37 0 rfl ((1 : Int32)) ((3 : Int32)) (by decide) (by decide) (by decide) [(1, .int ((3 : Int32))), (0, .ref (a))] rfl ?_
  refine j_goto C0 dX4_init_40 15 (by decide) ?_
  refine j_iload_n C0 dX4_init_15 0 rfl ?_
  refine j_aload_n C0 dX4_init_16 1 rfl ?_
  refine jt_get C0 X dX4_init_17 0 rfl rfl 0 (by decide) (fin := true) rfl rfl inT_X4 (ref := "MineHoist$Waiting") (fun _ _ h => h) (mT v_187) ?_
  refine jt_alen C0 X dX4_init_20 1 tr rfl htr ((8 : Int32)) (show Int32.ofNat 8 = (8 : Int32) by decide) ?_
  refine j_icmp_ge C0 dX4_init_21 43 (by decide) (fun c17 => absurd c17 (by decide)) (fun c17_ => ?_)
  refine j_aload_n C0 dX4_init_24 1 rfl ?_
  refine jt_get C0 X dX4_init_25 0 rfl rfl 0 (by decide) (fin := true) rfl rfl inT_X4 (ref := "MineHoist$Waiting") (fun _ _ h => h) (mT v_187) ?_
  refine j_iload_n C0 dX4_init_28 0 rfl ?_
  refine jt_new C0 X dX4_init_29 (ci := 6) rfl inT_X2 tyX2 tyX2_ok (mT v_186) (mT v_188) (mT v_189) (fs := [.int (0), .int (0), .int (0), .int (0)]) (nw_X2) (Nat.le_of_ble_eq_true rfl) (Nat.le_of_ble_eq_true rfl) (fun q18 => ?_)
  show J x [(1, .int ((3 : Int32))), (0, .ref (a))] [.ref (q18), .int ((3 : Int32)), .ref (q1)] [eWt (a) (q1), eAr (q1) cR 8 (upL (fun _ => none) 0 [q3, q8, q13]), eRq (q3), eRq (q8), eRq (q13), eRq (q18)] 32 (5) (24)
  refine j_dup C0 dX4_init_32 rfl ?_
  refine jt_callIN (wr := [eWt (a) (q1), eAr (q1) cR 8 (upL (fun _ => none) 0 [q3, q8, q13]), eRq (q3), eRq (q8), eRq (q13)]) CV X (t_X2_init K D q18) dX4_init_33 (fun U h => h.2.2.2.1) (gI9 v_190) rfl (mT v_189) (mT v_191) rfl hy_X2_init rfl [5] [0, 1, 2, 3, 4] rfl rfl (by decide) (by decide) (by decide) rfl ⟨Nat.le_of_ble_eq_true rfl, Nat.le_of_ble_eq_true rfl⟩ (Nat.le_of_ble_eq_true rfl) ⟨Nat.le_of_ble_eq_true rfl, Nat.le_of_ble_eq_true rfl⟩ (fun v19 w20 h21 => ?_)
  obtain ⟨rfl, rfl⟩ := h21
  show J x [(1, .int ((3 : Int32))), (0, .ref (a))] [.ref (q18), .int ((3 : Int32)), .ref (q1)] [eWt (a) (q1), eAr (q1) cR 8 (upL (fun _ => none) 0 [q3, q8, q13]), eRq (q3), eRq (q8), eRq (q13), eRq (q18)] 36 (5) (24)
  refine jt_aastN C0 X dX4_init_36 1 tr 5 (j := 3) (ci := 6) (r := (RX2, TX2, 4)) rfl htr rfl rfl (by decide) (by decide) ?_
  show J x [(1, .int ((3 : Int32))), (0, .ref (a))] [] [eWt (a) (q1), eAr (q1) cR 8 (upL (fun _ => none) 0 [q3, q8, q13, q18]), eRq (q3), eRq (q8), eRq (q13), eRq (q18)] 37 (5) (24)
  refine jt_iinc C0 dX4_init_37 0 rfl ((1 : Int32)) ((4 : Int32)) (by decide) (by decide) (by decide) [(1, .int ((4 : Int32))), (0, .ref (a))] rfl ?_
  refine j_goto C0 dX4_init_40 15 (by decide) ?_
  refine j_iload_n C0 dX4_init_15 0 rfl ?_
  refine j_aload_n C0 dX4_init_16 1 rfl ?_
  refine jt_get C0 X dX4_init_17 0 rfl rfl 0 (by decide) (fin := true) rfl rfl inT_X4 (ref := "MineHoist$Waiting") (fun _ _ h => h) (mT v_187) ?_
  refine jt_alen C0 X dX4_init_20 1 tr rfl htr ((8 : Int32)) (show Int32.ofNat 8 = (8 : Int32) by decide) ?_
  refine j_icmp_ge C0 dX4_init_21 43 (by decide) (fun c22 => absurd c22 (by decide)) (fun c22_ => ?_)
  refine j_aload_n C0 dX4_init_24 1 rfl ?_
  refine jt_get C0 X dX4_init_25 0 rfl rfl 0 (by decide) (fin := true) rfl rfl inT_X4 (ref := "MineHoist$Waiting") (fun _ _ h => h) (mT v_187) ?_
  refine j_iload_n C0 dX4_init_28 0 rfl ?_
  refine jt_new C0 X dX4_init_29 (ci := 6) rfl inT_X2 tyX2 tyX2_ok (mT v_186) (mT v_188) (mT v_189) (fs := [.int (0), .int (0), .int (0), .int (0)]) (nw_X2) (Nat.le_of_ble_eq_true rfl) (Nat.le_of_ble_eq_true rfl) (fun q23 => ?_)
  show J x [(1, .int ((4 : Int32))), (0, .ref (a))] [.ref (q23), .int ((4 : Int32)), .ref (q1)] [eWt (a) (q1), eAr (q1) cR 8 (upL (fun _ => none) 0 [q3, q8, q13, q18]), eRq (q3), eRq (q8), eRq (q13), eRq (q18), eRq (q23)] 32 (6) (28)
  refine j_dup C0 dX4_init_32 rfl ?_
  refine jt_callIN (wr := [eWt (a) (q1), eAr (q1) cR 8 (upL (fun _ => none) 0 [q3, q8, q13, q18]), eRq (q3), eRq (q8), eRq (q13), eRq (q18)]) CV X (t_X2_init K D q23) dX4_init_33 (fun U h => h.2.2.2.1) (gI9 v_190) rfl (mT v_189) (mT v_191) rfl hy_X2_init rfl [6] [0, 1, 2, 3, 4, 5] rfl rfl (by decide) (by decide) (by decide) rfl ⟨Nat.le_of_ble_eq_true rfl, Nat.le_of_ble_eq_true rfl⟩ (Nat.le_of_ble_eq_true rfl) ⟨Nat.le_of_ble_eq_true rfl, Nat.le_of_ble_eq_true rfl⟩ (fun v24 w25 h26 => ?_)
  obtain ⟨rfl, rfl⟩ := h26
  show J x [(1, .int ((4 : Int32))), (0, .ref (a))] [.ref (q23), .int ((4 : Int32)), .ref (q1)] [eWt (a) (q1), eAr (q1) cR 8 (upL (fun _ => none) 0 [q3, q8, q13, q18]), eRq (q3), eRq (q8), eRq (q13), eRq (q18), eRq (q23)] 36 (6) (28)
  refine jt_aastN C0 X dX4_init_36 1 tr 6 (j := 4) (ci := 6) (r := (RX2, TX2, 4)) rfl htr rfl rfl (by decide) (by decide) ?_
  show J x [(1, .int ((4 : Int32))), (0, .ref (a))] [] [eWt (a) (q1), eAr (q1) cR 8 (upL (fun _ => none) 0 [q3, q8, q13, q18, q23]), eRq (q3), eRq (q8), eRq (q13), eRq (q18), eRq (q23)] 37 (6) (28)
  refine jt_iinc C0 dX4_init_37 0 rfl ((1 : Int32)) ((5 : Int32)) (by decide) (by decide) (by decide) [(1, .int ((5 : Int32))), (0, .ref (a))] rfl ?_
  refine j_goto C0 dX4_init_40 15 (by decide) ?_
  refine j_iload_n C0 dX4_init_15 0 rfl ?_
  refine j_aload_n C0 dX4_init_16 1 rfl ?_
  refine jt_get C0 X dX4_init_17 0 rfl rfl 0 (by decide) (fin := true) rfl rfl inT_X4 (ref := "MineHoist$Waiting") (fun _ _ h => h) (mT v_187) ?_
  refine jt_alen C0 X dX4_init_20 1 tr rfl htr ((8 : Int32)) (show Int32.ofNat 8 = (8 : Int32) by decide) ?_
  refine j_icmp_ge C0 dX4_init_21 43 (by decide) (fun c27 => absurd c27 (by decide)) (fun c27_ => ?_)
  refine j_aload_n C0 dX4_init_24 1 rfl ?_
  refine jt_get C0 X dX4_init_25 0 rfl rfl 0 (by decide) (fin := true) rfl rfl inT_X4 (ref := "MineHoist$Waiting") (fun _ _ h => h) (mT v_187) ?_
  refine j_iload_n C0 dX4_init_28 0 rfl ?_
  refine jt_new C0 X dX4_init_29 (ci := 6) rfl inT_X2 tyX2 tyX2_ok (mT v_186) (mT v_188) (mT v_189) (fs := [.int (0), .int (0), .int (0), .int (0)]) (nw_X2) (Nat.le_of_ble_eq_true rfl) (Nat.le_of_ble_eq_true rfl) (fun q28 => ?_)
  show J x [(1, .int ((5 : Int32))), (0, .ref (a))] [.ref (q28), .int ((5 : Int32)), .ref (q1)] [eWt (a) (q1), eAr (q1) cR 8 (upL (fun _ => none) 0 [q3, q8, q13, q18, q23]), eRq (q3), eRq (q8), eRq (q13), eRq (q18), eRq (q23), eRq (q28)] 32 (7) (32)
  refine j_dup C0 dX4_init_32 rfl ?_
  refine jt_callIN (wr := [eWt (a) (q1), eAr (q1) cR 8 (upL (fun _ => none) 0 [q3, q8, q13, q18, q23]), eRq (q3), eRq (q8), eRq (q13), eRq (q18), eRq (q23)]) CV X (t_X2_init K D q28) dX4_init_33 (fun U h => h.2.2.2.1) (gI9 v_190) rfl (mT v_189) (mT v_191) rfl hy_X2_init rfl [7] [0, 1, 2, 3, 4, 5, 6] rfl rfl (by decide) (by decide) (by decide) rfl ⟨Nat.le_of_ble_eq_true rfl, Nat.le_of_ble_eq_true rfl⟩ (Nat.le_of_ble_eq_true rfl) ⟨Nat.le_of_ble_eq_true rfl, Nat.le_of_ble_eq_true rfl⟩ (fun v29 w30 h31 => ?_)
  obtain ⟨rfl, rfl⟩ := h31
  show J x [(1, .int ((5 : Int32))), (0, .ref (a))] [.ref (q28), .int ((5 : Int32)), .ref (q1)] [eWt (a) (q1), eAr (q1) cR 8 (upL (fun _ => none) 0 [q3, q8, q13, q18, q23]), eRq (q3), eRq (q8), eRq (q13), eRq (q18), eRq (q23), eRq (q28)] 36 (7) (32)
  refine jt_aastN C0 X dX4_init_36 1 tr 7 (j := 5) (ci := 6) (r := (RX2, TX2, 4)) rfl htr rfl rfl (by decide) (by decide) ?_
  show J x [(1, .int ((5 : Int32))), (0, .ref (a))] [] [eWt (a) (q1), eAr (q1) cR 8 (upL (fun _ => none) 0 [q3, q8, q13, q18, q23, q28]), eRq (q3), eRq (q8), eRq (q13), eRq (q18), eRq (q23), eRq (q28)] 37 (7) (32)
  refine jt_iinc C0 dX4_init_37 0 rfl ((1 : Int32)) ((6 : Int32)) (by decide) (by decide) (by decide) [(1, .int ((6 : Int32))), (0, .ref (a))] rfl ?_
  refine j_goto C0 dX4_init_40 15 (by decide) ?_
  refine j_iload_n C0 dX4_init_15 0 rfl ?_
  refine j_aload_n C0 dX4_init_16 1 rfl ?_
  refine jt_get C0 X dX4_init_17 0 rfl rfl 0 (by decide) (fin := true) rfl rfl inT_X4 (ref := "MineHoist$Waiting") (fun _ _ h => h) (mT v_187) ?_
  refine jt_alen C0 X dX4_init_20 1 tr rfl htr ((8 : Int32)) (show Int32.ofNat 8 = (8 : Int32) by decide) ?_
  refine j_icmp_ge C0 dX4_init_21 43 (by decide) (fun c32 => absurd c32 (by decide)) (fun c32_ => ?_)
  refine j_aload_n C0 dX4_init_24 1 rfl ?_
  refine jt_get C0 X dX4_init_25 0 rfl rfl 0 (by decide) (fin := true) rfl rfl inT_X4 (ref := "MineHoist$Waiting") (fun _ _ h => h) (mT v_187) ?_
  refine j_iload_n C0 dX4_init_28 0 rfl ?_
  refine jt_new C0 X dX4_init_29 (ci := 6) rfl inT_X2 tyX2 tyX2_ok (mT v_186) (mT v_188) (mT v_189) (fs := [.int (0), .int (0), .int (0), .int (0)]) (nw_X2) (Nat.le_of_ble_eq_true rfl) (Nat.le_of_ble_eq_true rfl) (fun q33 => ?_)
  show J x [(1, .int ((6 : Int32))), (0, .ref (a))] [.ref (q33), .int ((6 : Int32)), .ref (q1)] [eWt (a) (q1), eAr (q1) cR 8 (upL (fun _ => none) 0 [q3, q8, q13, q18, q23, q28]), eRq (q3), eRq (q8), eRq (q13), eRq (q18), eRq (q23), eRq (q28), eRq (q33)] 32 (8) (36)
  refine j_dup C0 dX4_init_32 rfl ?_
  refine jt_callIN (wr := [eWt (a) (q1), eAr (q1) cR 8 (upL (fun _ => none) 0 [q3, q8, q13, q18, q23, q28]), eRq (q3), eRq (q8), eRq (q13), eRq (q18), eRq (q23), eRq (q28)]) CV X (t_X2_init K D q33) dX4_init_33 (fun U h => h.2.2.2.1) (gI9 v_190) rfl (mT v_189) (mT v_191) rfl hy_X2_init rfl [8] [0, 1, 2, 3, 4, 5, 6, 7] rfl rfl (by decide) (by decide) (by decide) rfl ⟨Nat.le_of_ble_eq_true rfl, Nat.le_of_ble_eq_true rfl⟩ (Nat.le_of_ble_eq_true rfl) ⟨Nat.le_of_ble_eq_true rfl, Nat.le_of_ble_eq_true rfl⟩ (fun v34 w35 h36 => ?_)
  obtain ⟨rfl, rfl⟩ := h36
  show J x [(1, .int ((6 : Int32))), (0, .ref (a))] [.ref (q33), .int ((6 : Int32)), .ref (q1)] [eWt (a) (q1), eAr (q1) cR 8 (upL (fun _ => none) 0 [q3, q8, q13, q18, q23, q28]), eRq (q3), eRq (q8), eRq (q13), eRq (q18), eRq (q23), eRq (q28), eRq (q33)] 36 (8) (36)
  refine jt_aastN C0 X dX4_init_36 1 tr 8 (j := 6) (ci := 6) (r := (RX2, TX2, 4)) rfl htr rfl rfl (by decide) (by decide) ?_
  show J x [(1, .int ((6 : Int32))), (0, .ref (a))] [] [eWt (a) (q1), eAr (q1) cR 8 (upL (fun _ => none) 0 [q3, q8, q13, q18, q23, q28, q33]), eRq (q3), eRq (q8), eRq (q13), eRq (q18), eRq (q23), eRq (q28), eRq (q33)] 37 (8) (36)
  refine jt_iinc C0 dX4_init_37 0 rfl ((1 : Int32)) ((7 : Int32)) (by decide) (by decide) (by decide) [(1, .int ((7 : Int32))), (0, .ref (a))] rfl ?_
  refine j_goto C0 dX4_init_40 15 (by decide) ?_
  refine j_iload_n C0 dX4_init_15 0 rfl ?_
  refine j_aload_n C0 dX4_init_16 1 rfl ?_
  refine jt_get C0 X dX4_init_17 0 rfl rfl 0 (by decide) (fin := true) rfl rfl inT_X4 (ref := "MineHoist$Waiting") (fun _ _ h => h) (mT v_187) ?_
  refine jt_alen C0 X dX4_init_20 1 tr rfl htr ((8 : Int32)) (show Int32.ofNat 8 = (8 : Int32) by decide) ?_
  refine j_icmp_ge C0 dX4_init_21 43 (by decide) (fun c37 => absurd c37 (by decide)) (fun c37_ => ?_)
  refine j_aload_n C0 dX4_init_24 1 rfl ?_
  refine jt_get C0 X dX4_init_25 0 rfl rfl 0 (by decide) (fin := true) rfl rfl inT_X4 (ref := "MineHoist$Waiting") (fun _ _ h => h) (mT v_187) ?_
  refine j_iload_n C0 dX4_init_28 0 rfl ?_
  refine jt_new C0 X dX4_init_29 (ci := 6) rfl inT_X2 tyX2 tyX2_ok (mT v_186) (mT v_188) (mT v_189) (fs := [.int (0), .int (0), .int (0), .int (0)]) (nw_X2) (Nat.le_of_ble_eq_true rfl) (Nat.le_of_ble_eq_true rfl) (fun q38 => ?_)
  show J x [(1, .int ((7 : Int32))), (0, .ref (a))] [.ref (q38), .int ((7 : Int32)), .ref (q1)] [eWt (a) (q1), eAr (q1) cR 8 (upL (fun _ => none) 0 [q3, q8, q13, q18, q23, q28, q33]), eRq (q3), eRq (q8), eRq (q13), eRq (q18), eRq (q23), eRq (q28), eRq (q33), eRq (q38)] 32 (9) (40)
  refine j_dup C0 dX4_init_32 rfl ?_
  refine jt_callIN (wr := [eWt (a) (q1), eAr (q1) cR 8 (upL (fun _ => none) 0 [q3, q8, q13, q18, q23, q28, q33]), eRq (q3), eRq (q8), eRq (q13), eRq (q18), eRq (q23), eRq (q28), eRq (q33)]) CV X (t_X2_init K D q38) dX4_init_33 (fun U h => h.2.2.2.1) (gI9 v_190) rfl (mT v_189) (mT v_191) rfl hy_X2_init rfl [9] [0, 1, 2, 3, 4, 5, 6, 7, 8] rfl rfl (by decide) (by decide) (by decide) rfl ⟨Nat.le_of_ble_eq_true rfl, Nat.le_of_ble_eq_true rfl⟩ (Nat.le_of_ble_eq_true rfl) ⟨Nat.le_of_ble_eq_true rfl, Nat.le_of_ble_eq_true rfl⟩ (fun v39 w40 h41 => ?_)
  obtain ⟨rfl, rfl⟩ := h41
  show J x [(1, .int ((7 : Int32))), (0, .ref (a))] [.ref (q38), .int ((7 : Int32)), .ref (q1)] [eWt (a) (q1), eAr (q1) cR 8 (upL (fun _ => none) 0 [q3, q8, q13, q18, q23, q28, q33]), eRq (q3), eRq (q8), eRq (q13), eRq (q18), eRq (q23), eRq (q28), eRq (q33), eRq (q38)] 36 (9) (40)
  refine jt_aastN C0 X dX4_init_36 1 tr 9 (j := 7) (ci := 6) (r := (RX2, TX2, 4)) rfl htr rfl rfl (by decide) (by decide) ?_
  show J x [(1, .int ((7 : Int32))), (0, .ref (a))] [] [eWt (a) (q1), eAr (q1) cR 8 (upL (fun _ => none) 0 [q3, q8, q13, q18, q23, q28, q33, q38]), eRq (q3), eRq (q8), eRq (q13), eRq (q18), eRq (q23), eRq (q28), eRq (q33), eRq (q38)] 37 (9) (40)
  refine jt_iinc C0 dX4_init_37 0 rfl ((1 : Int32)) ((8 : Int32)) (by decide) (by decide) (by decide) [(1, .int ((8 : Int32))), (0, .ref (a))] rfl ?_
  refine j_goto C0 dX4_init_40 15 (by decide) ?_
  refine j_iload_n C0 dX4_init_15 0 rfl ?_
  refine j_aload_n C0 dX4_init_16 1 rfl ?_
  refine jt_get C0 X dX4_init_17 0 rfl rfl 0 (by decide) (fin := true) rfl rfl inT_X4 (ref := "MineHoist$Waiting") (fun _ _ h => h) (mT v_187) ?_
  refine jt_alen C0 X dX4_init_20 1 tr rfl htr ((8 : Int32)) (show Int32.ofNat 8 = (8 : Int32) by decide) ?_
  refine j_icmp_ge C0 dX4_init_21 43 (by decide) (fun c42_ => ?_) (fun c42 => absurd c42 (by decide))
  exact jy_return C dX4_init_43 ⟨rfl, _, _, _, _, _, _, _, _, _, rfl⟩ (Nat.le_of_ble_eq_true rfl) (Nat.le_of_ble_eq_true rfl)
abbrev rmt_X1_init : Room := ({ frames := 12, cells := 19, slots := 646, locals := 241 } : Room)
abbrev wt_X1_init : List Cond := (Cond.code yX1_init cX1_init 2 none) :: wsT
set_option maxRecDepth 20000 in
set_option maxHeartbeats 4000000 in
theorem t_X1_init (K : Nat → Nat) (D : va_G) {tys : List (ClassId × FieldType)} {cR : ClassId} {tr : Nat} (htr : tys[tr]? = some (cR, .object RX2)) {cV : ClassId} {tv : Nat} (htv : tys[tv]? = some (cV, .object RX0)) (a : Nat) : MT yX1_init wt_X1_init rmt_X1_init [.ref (a)] K D tys [(a, .inr (5, [.null, .null, .null, .null, .int (0), .int (0), .int (0), .int (0), .int (0), .int (0), .int (0), .int (0), .int (0), .int (0), .int (0), .int (0)]))] (fun r w' => r = none ∧ ∃ s_ p_ w_ r_ q0_ q1_ q2_ q3_ q4_ q5_ q6_ q7_ t_ l1_ l2_ l3_ l4_ l5_ l6_, w' = [eMn (a) (s_) (p_) (w_) (t_), eLv (s_), eAr (p_) cV 7 (upL (fun _ => none) 0 [s_, l1_, l2_, l3_, l4_, l5_, l6_]), eWt (w_) (r_), eAr (r_) cR 8 (upL (fun _ => none) 0 [q0_, q1_, q2_, q3_, q4_, q5_, q6_, q7_]), eRq (q0_), eRq (q1_), eRq (q2_), eRq (q3_), eRq (q4_), eRq (q5_), eRq (q6_), eRq (q7_), eTp (t_), eLv (l1_), eLv (l2_), eLv (l3_), eLv (l4_), eLv (l5_), eLv (l6_)]) := by
  refine mt_of (cc := cX1_init) (maxL := 2) (ret := none) (v0 := none) (w0 := [eMn (a) (0) (0) (0) (0), eLv (0), eAr (0) cV 7 (upL (fun _ => none) 0 [0, 0, 0, 0, 0, 0, 0]), eWt (0) (0), eAr (0) cR 8 (upL (fun _ => none) 0 [0, 0, 0, 0, 0, 0, 0, 0]), eRq (0), eRq (0), eRq (0), eRq (0), eRq (0), eRq (0), eRq (0), eRq (0), eTp (0), eLv (0), eLv (0), eLv (0), eLv (0), eLv (0), eLv (0)]) ⟨rfl, 0, 0, 0, 0, 0, 0, 0, 0, 0, 0, 0, 0, 0, 0, 0, 0, 0, 0, 0, rfl⟩ (by decide +kernel) rfl (Nat.le_of_ble_eq_true rfl) (fun x C X => ?_)
  have C : Cy "<init>" K (fun r w' => r = none ∧ ∃ s_ p_ w_ r_ q0_ q1_ q2_ q3_ q4_ q5_ q6_ q7_ t_ l1_ l2_ l3_ l4_ l5_ l6_, w' = [eMn (a) (s_) (p_) (w_) (t_), eLv (s_), eAr (p_) cV 7 (upL (fun _ => none) 0 [s_, l1_, l2_, l3_, l4_, l5_, l6_]), eWt (w_) (r_), eAr (r_) cR 8 (upL (fun _ => none) 0 [q0_, q1_, q2_, q3_, q4_, q5_, q6_, q7_]), eRq (q0_), eRq (q1_), eRq (q2_), eRq (q3_), eRq (q4_), eRq (q5_), eRq (q6_), eRq (q7_), eTp (t_), eLv (l1_), eLv (l2_), eLv (l3_), eLv (l4_), eLv (l5_), eLv (l6_)]) x cX1_init 2 RX1 none [] wt_X1_init rmt_X1_init D tys := C
  have C0 := C.cx
  have CV := C.cv
  show J x [(0, .ref (a))] [] [(a, .inr (5, [.null, .null, .null, .null, .int (0), .int (0), .int (0), .int (0), .int (0), .int (0), .int (0), .int (0), .int (0), .int (0), .int (0), .int (0)]))] 0 (0) (0)
  refine j_aload_n C0 dX1_init_0 0 rfl ?_
  refine jt_objInit C0 dX1_init_1 (mT v_192) (mT v_119) (mT v_120) (Nat.le_of_ble_eq_true rfl) (Nat.le_of_ble_eq_true rfl) (Nat.le_of_ble_eq_true rfl) ?_
  refine j_aload_n C0 dX1_init_4 0 rfl ?_
  refine jt_new C0 X dX1_init_5 (ci := 4) rfl inT_X0 tyX0 tyX0_ok (mT v_193) (mT v_194) (mT v_195) (fs := [.int (0), .int (0), .int (0), .int (0), .int (0), .int (0), .int (0), .int (0), .int (0), .int (0), .int (0)]) (nw_X0) (Nat.le_of_ble_eq_true rfl) (Nat.le_of_ble_eq_true rfl) (fun q1 => ?_)
  show J x [(0, .ref (a))] [.ref (q1), .ref (a)] [(a, .inr (5, [.null, .null, .null, .null, .int (0), .int (0), .int (0), .int (0), .int (0), .int (0), .int (0), .int (0), .int (0), .int (0), .int (0), .int (0)])), eLv (q1)] 8 (1) (11)
  refine j_dup C0 dX1_init_8 rfl ?_
  refine jt_callIN (wr := [(a, .inr (5, [.null, .null, .null, .null, .int (0), .int (0), .int (0), .int (0), .int (0), .int (0), .int (0), .int (0), .int (0), .int (0), .int (0), .int (0)]))]) CV X (t_X0_init K D q1) dX1_init_9 (fun U h => h.2.1) (gI9 v_196) rfl (mT v_195) (mT v_197) rfl hy_X0_init rfl [1] [0] rfl rfl (by decide) (by decide) (by decide) rfl ⟨Nat.le_of_ble_eq_true rfl, Nat.le_of_ble_eq_true rfl⟩ (Nat.le_of_ble_eq_true rfl) ⟨Nat.le_of_ble_eq_true rfl, Nat.le_of_ble_eq_true rfl⟩ (fun v2 w3 h4 => ?_)
  obtain ⟨rfl, rfl⟩ := h4
  show J x [(0, .ref (a))] [.ref (q1), .ref (a)] [(a, .inr (5, [.null, .null, .null, .null, .int (0), .int (0), .int (0), .int (0), .int (0), .int (0), .int (0), .int (0), .int (0), .int (0), .int (0), .int (0)])), eLv (q1)] 12 (1) (11)
  refine jt_putF C X rfl dX1_init_12 0 (ty0 := tyX1) (ty := .object "MineHoist$Level") rfl rfl 0 (by decide) rfl rfl (Nat.le_of_ble_eq_true rfl) tyX1_ok nmX1 rfl rfl rfl inT_X1 (mT v_198) ?_
  show J x [(0, .ref (a))] [] [(a, .inr (5, [.ref (q1), .null, .null, .null, .int (0), .int (0), .int (0), .int (0), .int (0), .int (0), .int (0), .int (0), .int (0), .int (0), .int (0), .int (0)])), eLv (q1)] 15 (1) (11)
  refine j_aload_n C0 dX1_init_15 0 rfl ?_
  refine j_bipush C0 dX1_init_16 ((7 : Int32)) (by decide) ?_
  refine jt_newq CV X dX1_init_18 (Cn := RX0) (fun U h => h.2.2.2.2.1) tv htv (mT v_193) (by decide) (N' := 7) (by decide) (by decide) (Nat.le_of_ble_eq_true rfl) (Nat.le_of_ble_eq_true rfl) (fun q5 => ?_)
  show J x [(0, .ref (a))] [.ref (q5), .ref (a)] [(a, .inr (5, [.ref (q1), .null, .null, .null, .int (0), .int (0), .int (0), .int (0), .int (0), .int (0), .int (0), .int (0), .int (0), .int (0), .int (0), .int (0)])), eLv (q1), eAr (q5) cV 7 (upL (fun _ => none) 0 [])] 21 (2) (18)
  refine jt_putF C X rfl dX1_init_21 0 (ty0 := tyX1) (ty := .array (.object "MineHoist$Level")) rfl rfl 1 (by decide) rfl rfl (Nat.le_of_ble_eq_true rfl) tyX1_ok nmX1 rfl rfl rfl inT_X1 (mT v_199) ?_
  show J x [(0, .ref (a))] [] [(a, .inr (5, [.ref (q1), .ref (q5), .null, .null, .int (0), .int (0), .int (0), .int (0), .int (0), .int (0), .int (0), .int (0), .int (0), .int (0), .int (0), .int (0)])), eLv (q1), eAr (q5) cV 7 (upL (fun _ => none) 0 [])] 24 (2) (18)
  refine j_aload_n C0 dX1_init_24 0 rfl ?_
  refine jt_new C0 X dX1_init_25 (ci := 8) rfl inT_X4 tyX4 tyX4_ok (mT v_200) (mT v_201) (mT v_202) (fs := [.null, .int (0)]) (nw_X4) (Nat.le_of_ble_eq_true rfl) (Nat.le_of_ble_eq_true rfl) (fun q6 => ?_)
  show J x [(0, .ref (a))] [.ref (q6), .ref (a)] [(a, .inr (5, [.ref (q1), .ref (q5), .null, .null, .int (0), .int (0), .int (0), .int (0), .int (0), .int (0), .int (0), .int (0), .int (0), .int (0), .int (0), .int (0)])), eLv (q1), eAr (q5) cV 7 (upL (fun _ => none) 0 []), (q6, .inr (8, [.null, .int (0)]))] 28 (3) (20)
  refine j_dup C0 dX1_init_28 rfl ?_
  refine jt_callI (wr := [(a, .inr (5, [.ref (q1), .ref (q5), .null, .null, .int (0), .int (0), .int (0), .int (0), .int (0), .int (0), .int (0), .int (0), .int (0), .int (0), .int (0), .int (0)])), eLv (q1), eAr (q5) cV 7 (upL (fun _ => none) 0 [])]) CV X (t_X4_init K D htr q6) dX1_init_29 (gI9 v_203) rfl (mT v_202) (mT v_204) (mT v_205) rfl hy_X4_init rfl [3] [0, 1, 2] rfl rfl (by decide) (by decide) (by decide) rfl ⟨Nat.le_of_ble_eq_true rfl, Nat.le_of_ble_eq_true rfl⟩ (Nat.le_of_ble_eq_true rfl) ⟨Nat.le_of_ble_eq_true rfl, Nat.le_of_ble_eq_true rfl⟩ (fun v7 w8 h9 => ?_)
  obtain ⟨rfl, r9_, q0_a, q1_a, q2_a, q3_a, q4_a, q5_a, q6_a, q7_a, rfl⟩ := h9
  show J x [(0, .ref (a))] [.ref (q6), .ref (a)] [(a, .inr (5, [.ref (q1), .ref (q5), .null, .null, .int (0), .int (0), .int (0), .int (0), .int (0), .int (0), .int (0), .int (0), .int (0), .int (0), .int (0), .int (0)])), eLv (q1), eAr (q5) cV 7 (upL (fun _ => none) 0 []), eWt (q6) (r9_), eAr (r9_) cR 8 (upL (fun _ => none) 0 [q0_a, q1_a, q2_a, q3_a, q4_a, q5_a, q6_a, q7_a]), eRq (q0_a), eRq (q1_a), eRq (q2_a), eRq (q3_a), eRq (q4_a), eRq (q5_a), eRq (q6_a), eRq (q7_a)] 32 (12) (326)
  refine jt_putF C X rfl dX1_init_32 0 (ty0 := tyX1) (ty := .object "MineHoist$Waiting") rfl rfl 2 (by decide) rfl rfl (Nat.le_of_ble_eq_true rfl) tyX1_ok nmX1 rfl rfl rfl inT_X1 (mT v_206) ?_
  show J x [(0, .ref (a))] [] [(a, .inr (5, [.ref (q1), .ref (q5), .ref (q6), .null, .int (0), .int (0), .int (0), .int (0), .int (0), .int (0), .int (0), .int (0), .int (0), .int (0), .int (0), .int (0)])), eLv (q1), eAr (q5) cV 7 (upL (fun _ => none) 0 []), eWt (q6) (r9_), eAr (r9_) cR 8 (upL (fun _ => none) 0 [q0_a, q1_a, q2_a, q3_a, q4_a, q5_a, q6_a, q7_a]), eRq (q0_a), eRq (q1_a), eRq (q2_a), eRq (q3_a), eRq (q4_a), eRq (q5_a), eRq (q6_a), eRq (q7_a)] 35 (12) (326)
  refine j_aload_n C0 dX1_init_35 0 rfl ?_
  refine jt_new C0 X dX1_init_36 (ci := 7) rfl inT_X3 tyX3 tyX3_ok (mT v_207) (mT v_208) (mT v_136) (fs := [.int (0), .int (0), .int (0), .int (0), .int (0)]) (nw_X3) (Nat.le_of_ble_eq_true rfl) (Nat.le_of_ble_eq_true rfl) (fun q10 => ?_)
  show J x [(0, .ref (a))] [.ref (q10), .ref (a)] [(a, .inr (5, [.ref (q1), .ref (q5), .ref (q6), .null, .int (0), .int (0), .int (0), .int (0), .int (0), .int (0), .int (0), .int (0), .int (0), .int (0), .int (0), .int (0)])), eLv (q1), eAr (q5) cV 7 (upL (fun _ => none) 0 []), eWt (q6) (r9_), eAr (r9_) cR 8 (upL (fun _ => none) 0 [q0_a, q1_a, q2_a, q3_a, q4_a, q5_a, q6_a, q7_a]), eRq (q0_a), eRq (q1_a), eRq (q2_a), eRq (q3_a), eRq (q4_a), eRq (q5_a), eRq (q6_a), eRq (q7_a), (q10, .inr (7, [.int (0), .int (0), .int (0), .int (0), .int (0)]))] 39 (13) (331)
  refine j_dup C0 dX1_init_39 rfl ?_
  refine jt_callIN (wr := [(a, .inr (5, [.ref (q1), .ref (q5), .ref (q6), .null, .int (0), .int (0), .int (0), .int (0), .int (0), .int (0), .int (0), .int (0), .int (0), .int (0), .int (0), .int (0)])), eLv (q1), eAr (q5) cV 7 (upL (fun _ => none) 0 []), eWt (q6) (r9_), eAr (r9_) cR 8 (upL (fun _ => none) 0 [q0_a, q1_a, q2_a, q3_a, q4_a, q5_a, q6_a, q7_a]), eRq (q0_a), eRq (q1_a), eRq (q2_a), eRq (q3_a), eRq (q4_a), eRq (q5_a), eRq (q6_a), eRq (q7_a)]) CV X (t_X3_init K D q10) dX1_init_40 (fun U h => h.2.2.1) (gI9 v_209) rfl (mT v_136) (mT v_210) rfl hy_X3_init rfl [13] [0, 1, 2, 3, 4, 5, 6, 7, 8, 9, 10, 11, 12] rfl rfl (by decide) (by decide) (by decide) rfl ⟨Nat.le_of_ble_eq_true rfl, Nat.le_of_ble_eq_true rfl⟩ (Nat.le_of_ble_eq_true rfl) ⟨Nat.le_of_ble_eq_true rfl, Nat.le_of_ble_eq_true rfl⟩ (fun v11 w12 h13 => ?_)
  obtain ⟨rfl, rfl⟩ := h13
  show J x [(0, .ref (a))] [.ref (q10), .ref (a)] [(a, .inr (5, [.ref (q1), .ref (q5), .ref (q6), .null, .int (0), .int (0), .int (0), .int (0), .int (0), .int (0), .int (0), .int (0), .int (0), .int (0), .int (0), .int (0)])), eLv (q1), eAr (q5) cV 7 (upL (fun _ => none) 0 []), eWt (q6) (r9_), eAr (r9_) cR 8 (upL (fun _ => none) 0 [q0_a, q1_a, q2_a, q3_a, q4_a, q5_a, q6_a, q7_a]), eRq (q0_a), eRq (q1_a), eRq (q2_a), eRq (q3_a), eRq (q4_a), eRq (q5_a), eRq (q6_a), eRq (q7_a), eTp (q10)] 43 (13) (331)
  refine jt_putF C X rfl dX1_init_43 0 (ty0 := tyX1) (ty := .object "MineHoist$Trip") rfl rfl 3 (by decide) rfl rfl (Nat.le_of_ble_eq_true rfl) tyX1_ok nmX1 rfl rfl rfl inT_X1 (mT v_211) ?_
  show J x [(0, .ref (a))] [] [(a, .inr (5, [.ref (q1), .ref (q5), .ref (q6), .ref (q10), .int (0), .int (0), .int (0), .int (0), .int (0), .int (0), .int (0), .int (0), .int (0), .int (0), .int (0), .int (0)])), eLv (q1), eAr (q5) cV 7 (upL (fun _ => none) 0 []), eWt (q6) (r9_), eAr (r9_) cR 8 (upL (fun _ => none) 0 [q0_a, q1_a, q2_a, q3_a, q4_a, q5_a, q6_a, q7_a]), eRq (q0_a), eRq (q1_a), eRq (q2_a), eRq (q3_a), eRq (q4_a), eRq (q5_a), eRq (q6_a), eRq (q7_a), eTp (q10)] 46 (13) (331)
  refine j_aload_n C0 dX1_init_46 0 rfl ?_
  refine j_bipush C0 dX1_init_47 ((100 : Int32)) (by decide) ?_
  refine jt_put C0 X dX1_init_49 0 (ty0 := tyX1) (ty := .int) rfl rfl 5 (by decide) rfl (Nat.le_of_ble_eq_true rfl) tyX1_ok nmX1 rfl rfl rfl inT_X1 (ref := "MineHoist$Mine") (fun _ _ h => h) (mT v_212) ?_
  show J x [(0, .ref (a))] [] [(a, .inr (5, [.ref (q1), .ref (q5), .ref (q6), .ref (q10), .int (0), .int ((100 : Int32)), .int (0), .int (0), .int (0), .int (0), .int (0), .int (0), .int (0), .int (0), .int (0), .int (0)])), eLv (q1), eAr (q5) cV 7 (upL (fun _ => none) 0 []), eWt (q6) (r9_), eAr (r9_) cR 8 (upL (fun _ => none) 0 [q0_a, q1_a, q2_a, q3_a, q4_a, q5_a, q6_a, q7_a]), eRq (q0_a), eRq (q1_a), eRq (q2_a), eRq (q3_a), eRq (q4_a), eRq (q5_a), eRq (q6_a), eRq (q7_a), eTp (q10)] 52 (13) (331)
  refine j_aload_n C0 dX1_init_52 0 rfl ?_
  refine j_bipush C0 dX1_init_53 ((20 : Int32)) (by decide) ?_
  refine jt_put C0 X dX1_init_55 0 (ty0 := tyX1) (ty := .int) rfl rfl 6 (by decide) rfl (Nat.le_of_ble_eq_true rfl) tyX1_ok nmX1 rfl rfl rfl inT_X1 (ref := "MineHoist$Mine") (fun _ _ h => h) (mT v_213) ?_
  show J x [(0, .ref (a))] [] [(a, .inr (5, [.ref (q1), .ref (q5), .ref (q6), .ref (q10), .int (0), .int ((100 : Int32)), .int ((20 : Int32)), .int (0), .int (0), .int (0), .int (0), .int (0), .int (0), .int (0), .int (0), .int (0)])), eLv (q1), eAr (q5) cV 7 (upL (fun _ => none) 0 []), eWt (q6) (r9_), eAr (r9_) cR 8 (upL (fun _ => none) 0 [q0_a, q1_a, q2_a, q3_a, q4_a, q5_a, q6_a, q7_a]), eRq (q0_a), eRq (q1_a), eRq (q2_a), eRq (q3_a), eRq (q4_a), eRq (q5_a), eRq (q6_a), eRq (q7_a), eTp (q10)] 58 (13) (331)
  refine j_aload_n C0 dX1_init_58 0 rfl ?_
  refine j_bipush C0 dX1_init_59 ((100 : Int32)) (by decide) ?_
  refine jt_put C0 X dX1_init_61 0 (ty0 := tyX1) (ty := .int) rfl rfl 7 (by decide) rfl (Nat.le_of_ble_eq_true rfl) tyX1_ok nmX1 rfl rfl rfl inT_X1 (ref := "MineHoist$Mine") (fun _ _ h => h) (mT v_214) ?_
  show J x [(0, .ref (a))] [] [(a, .inr (5, [.ref (q1), .ref (q5), .ref (q6), .ref (q10), .int (0), .int ((100 : Int32)), .int ((20 : Int32)), .int ((100 : Int32)), .int (0), .int (0), .int (0), .int (0), .int (0), .int (0), .int (0), .int (0)])), eLv (q1), eAr (q5) cV 7 (upL (fun _ => none) 0 []), eWt (q6) (r9_), eAr (r9_) cR 8 (upL (fun _ => none) 0 [q0_a, q1_a, q2_a, q3_a, q4_a, q5_a, q6_a, q7_a]), eRq (q0_a), eRq (q1_a), eRq (q2_a), eRq (q3_a), eRq (q4_a), eRq (q5_a), eRq (q6_a), eRq (q7_a), eTp (q10)] 64 (13) (331)
  refine j_aload_n C0 dX1_init_64 0 rfl ?_
  refine j_iconst C0 dX1_init_65 ((0 : Int32)) (by decide) ?_
  refine jt_put C0 X dX1_init_66 0 (ty0 := tyX1) (ty := .int) rfl rfl 12 (by decide) rfl (Nat.le_of_ble_eq_true rfl) tyX1_ok nmX1 rfl rfl rfl inT_X1 (ref := "MineHoist$Mine") (fun _ _ h => h) (mT v_215) ?_
  show J x [(0, .ref (a))] [] [(a, .inr (5, [.ref (q1), .ref (q5), .ref (q6), .ref (q10), .int (0), .int ((100 : Int32)), .int ((20 : Int32)), .int ((100 : Int32)), .int (0), .int (0), .int (0), .int (0), .int ((0 : Int32)), .int (0), .int (0), .int (0)])), eLv (q1), eAr (q5) cV 7 (upL (fun _ => none) 0 []), eWt (q6) (r9_), eAr (r9_) cR 8 (upL (fun _ => none) 0 [q0_a, q1_a, q2_a, q3_a, q4_a, q5_a, q6_a, q7_a]), eRq (q0_a), eRq (q1_a), eRq (q2_a), eRq (q3_a), eRq (q4_a), eRq (q5_a), eRq (q6_a), eRq (q7_a), eTp (q10)] 69 (13) (331)
  refine j_aload_n C0 dX1_init_69 0 rfl ?_
  refine j_iconst C0 dX1_init_70 ((-1 : Int32)) (by decide) ?_
  refine jt_put C0 X dX1_init_71 0 (ty0 := tyX1) (ty := .int) rfl rfl 15 (by decide) rfl (Nat.le_of_ble_eq_true rfl) tyX1_ok nmX1 rfl rfl rfl inT_X1 (ref := "MineHoist$Mine") (fun _ _ h => h) (mT v_216) ?_
  show J x [(0, .ref (a))] [] [eMn (a) (q1) (q5) (q6) (q10), eLv (q1), eAr (q5) cV 7 (upL (fun _ => none) 0 []), eWt (q6) (r9_), eAr (r9_) cR 8 (upL (fun _ => none) 0 [q0_a, q1_a, q2_a, q3_a, q4_a, q5_a, q6_a, q7_a]), eRq (q0_a), eRq (q1_a), eRq (q2_a), eRq (q3_a), eRq (q4_a), eRq (q5_a), eRq (q6_a), eRq (q7_a), eTp (q10)] 74 (13) (331)
  refine j_aload_n C0 dX1_init_74 0 rfl ?_
  refine jt_get C0 X dX1_init_75 0 rfl rfl 1 (by decide) (fin := true) rfl rfl inT_X1 (ref := "MineHoist$Mine") (fun _ _ h => h) (mT v_199) ?_
  refine j_iconst C0 dX1_init_78 ((0 : Int32)) (by decide) ?_
  refine j_aload_n C0 dX1_init_79 0 rfl ?_
  refine jt_get C0 X dX1_init_80 0 rfl rfl 0 (by decide) (fin := true) rfl rfl inT_X1 (ref := "MineHoist$Mine") (fun _ _ h => h) (mT v_198) ?_
  refine jt_aastN C0 X dX1_init_83 2 tv 1 (j := 0) (ci := 4) (r := (RX0, TX0, 11)) rfl htv rfl rfl (by decide) (by decide) ?_
  show J x [(0, .ref (a))] [] [eMn (a) (q1) (q5) (q6) (q10), eLv (q1), eAr (q5) cV 7 (upL (fun _ => none) 0 [q1]), eWt (q6) (r9_), eAr (r9_) cR 8 (upL (fun _ => none) 0 [q0_a, q1_a, q2_a, q3_a, q4_a, q5_a, q6_a, q7_a]), eRq (q0_a), eRq (q1_a), eRq (q2_a), eRq (q3_a), eRq (q4_a), eRq (q5_a), eRq (q6_a), eRq (q7_a), eTp (q10)] 84 (13) (331)
  refine j_iconst C0 dX1_init_84 ((1 : Int32)) (by decide) ?_
  refine j_istore_n C0 dX1_init_85 (by decide) [(1, .int ((1 : Int32))), (0, .ref (a))] rfl ?_
  refine j_iload_n C0 dX1_init_86 0 rfl ?_
  refine j_aload_n C0 dX1_init_87 1 rfl ?_
  refine jt_get C0 X dX1_init_88 0 rfl rfl 1 (by decide) (fin := true) rfl rfl inT_X1 (ref := "MineHoist$Mine") (fun _ _ h => h) (mT v_199) ?_
  refine jt_alen C0 X dX1_init_91 2 tv rfl htv ((7 : Int32)) (show Int32.ofNat 7 = (7 : Int32) by decide) ?_
  refine j_icmp_ge C0 dX1_init_92 114 (by decide) (fun c14 => absurd c14 (by decide)) (fun c14_ => ?_)
  refine j_aload_n C0 dX1_init_95 1 rfl ?_
  refine jt_get C0 X dX1_init_96 0 rfl rfl 1 (by decide) (fin := true) rfl rfl inT_X1 (ref := "MineHoist$Mine") (fun _ _ h => h) (mT v_199) ?_
  refine j_iload_n C0 dX1_init_99 0 rfl ?_
  refine jt_new C0 X dX1_init_100 (ci := 4) rfl inT_X0 tyX0 tyX0_ok (mT v_193) (mT v_194) (mT v_195) (fs := [.int (0), .int (0), .int (0), .int (0), .int (0), .int (0), .int (0), .int (0), .int (0), .int (0), .int (0)]) (nw_X0) (Nat.le_of_ble_eq_true rfl) (Nat.le_of_ble_eq_true rfl) (fun q15 => ?_)
  show J x [(1, .int ((1 : Int32))), (0, .ref (a))] [.ref (q15), .int ((1 : Int32)), .ref (q5)] [eMn (a) (q1) (q5) (q6) (q10), eLv (q1), eAr (q5) cV 7 (upL (fun _ => none) 0 [q1]), eWt (q6) (r9_), eAr (r9_) cR 8 (upL (fun _ => none) 0 [q0_a, q1_a, q2_a, q3_a, q4_a, q5_a, q6_a, q7_a]), eRq (q0_a), eRq (q1_a), eRq (q2_a), eRq (q3_a), eRq (q4_a), eRq (q5_a), eRq (q6_a), eRq (q7_a), eTp (q10), eLv (q15)] 103 (14) (342)
  refine j_dup C0 dX1_init_103 rfl ?_
  refine jt_callIN (wr := [eMn (a) (q1) (q5) (q6) (q10), eLv (q1), eAr (q5) cV 7 (upL (fun _ => none) 0 [q1]), eWt (q6) (r9_), eAr (r9_) cR 8 (upL (fun _ => none) 0 [q0_a, q1_a, q2_a, q3_a, q4_a, q5_a, q6_a, q7_a]), eRq (q0_a), eRq (q1_a), eRq (q2_a), eRq (q3_a), eRq (q4_a), eRq (q5_a), eRq (q6_a), eRq (q7_a), eTp (q10)]) CV X (t_X0_init K D q15) dX1_init_104 (fun U h => h.2.1) (gI9 v_196) rfl (mT v_195) (mT v_197) rfl hy_X0_init rfl [14] [0, 1, 2, 3, 4, 5, 6, 7, 8, 9, 10, 11, 12, 13] rfl rfl (by decide) (by decide) (by decide) rfl ⟨Nat.le_of_ble_eq_true rfl, Nat.le_of_ble_eq_true rfl⟩ (Nat.le_of_ble_eq_true rfl) ⟨Nat.le_of_ble_eq_true rfl, Nat.le_of_ble_eq_true rfl⟩ (fun v16 w17 h18 => ?_)
  obtain ⟨rfl, rfl⟩ := h18
  show J x [(1, .int ((1 : Int32))), (0, .ref (a))] [.ref (q15), .int ((1 : Int32)), .ref (q5)] [eMn (a) (q1) (q5) (q6) (q10), eLv (q1), eAr (q5) cV 7 (upL (fun _ => none) 0 [q1]), eWt (q6) (r9_), eAr (r9_) cR 8 (upL (fun _ => none) 0 [q0_a, q1_a, q2_a, q3_a, q4_a, q5_a, q6_a, q7_a]), eRq (q0_a), eRq (q1_a), eRq (q2_a), eRq (q3_a), eRq (q4_a), eRq (q5_a), eRq (q6_a), eRq (q7_a), eTp (q10), eLv (q15)] 107 (14) (342)
  refine jt_aastN C0 X dX1_init_107 2 tv 14 (j := 1) (ci := 4) (r := (RX0, TX0, 11)) rfl htv rfl rfl (by decide) (by decide) ?_
  show J x [(1, .int ((1 : Int32))), (0, .ref (a))] [] [eMn (a) (q1) (q5) (q6) (q10), eLv (q1), eAr (q5) cV 7 (upL (fun _ => none) 0 [q1, q15]), eWt (q6) (r9_), eAr (r9_) cR 8 (upL (fun _ => none) 0 [q0_a, q1_a, q2_a, q3_a, q4_a, q5_a, q6_a, q7_a]), eRq (q0_a), eRq (q1_a), eRq (q2_a), eRq (q3_a), eRq (q4_a), eRq (q5_a), eRq (q6_a), eRq (q7_a), eTp (q10), eLv (q15)] 108 (14) (342)
  refine jt_iinc C0 dX1_init_108 0 rfl ((1 : Int32)) ((2 : Int32)) (by decide) (by decide) (by decide) [(1, .int ((2 : Int32))), (0, .ref (a))] rfl ?_
  refine j_goto C0 dX1_init_111 86 (by decide) ?_
  refine j_iload_n C0 dX1_init_86 0 rfl ?_
  refine j_aload_n C0 dX1_init_87 1 rfl ?_
  refine jt_get C0 X dX1_init_88 0 rfl rfl 1 (by decide) (fin := true) rfl rfl inT_X1 (ref := "MineHoist$Mine") (fun _ _ h => h) (mT v_199) ?_
  refine jt_alen C0 X dX1_init_91 2 tv rfl htv ((7 : Int32)) (show Int32.ofNat 7 = (7 : Int32) by decide) ?_
  refine j_icmp_ge C0 dX1_init_92 114 (by decide) (fun c19 => absurd c19 (by decide)) (fun c19_ => ?_)
  refine j_aload_n C0 dX1_init_95 1 rfl ?_
  refine jt_get C0 X dX1_init_96 0 rfl rfl 1 (by decide) (fin := true) rfl rfl inT_X1 (ref := "MineHoist$Mine") (fun _ _ h => h) (mT v_199) ?_
  refine j_iload_n C0 dX1_init_99 0 rfl ?_
  refine jt_new C0 X dX1_init_100 (ci := 4) rfl inT_X0 tyX0 tyX0_ok (mT v_193) (mT v_194) (mT v_195) (fs := [.int (0), .int (0), .int (0), .int (0), .int (0), .int (0), .int (0), .int (0), .int (0), .int (0), .int (0)]) (nw_X0) (Nat.le_of_ble_eq_true rfl) (Nat.le_of_ble_eq_true rfl) (fun q20 => ?_)
  show J x [(1, .int ((2 : Int32))), (0, .ref (a))] [.ref (q20), .int ((2 : Int32)), .ref (q5)] [eMn (a) (q1) (q5) (q6) (q10), eLv (q1), eAr (q5) cV 7 (upL (fun _ => none) 0 [q1, q15]), eWt (q6) (r9_), eAr (r9_) cR 8 (upL (fun _ => none) 0 [q0_a, q1_a, q2_a, q3_a, q4_a, q5_a, q6_a, q7_a]), eRq (q0_a), eRq (q1_a), eRq (q2_a), eRq (q3_a), eRq (q4_a), eRq (q5_a), eRq (q6_a), eRq (q7_a), eTp (q10), eLv (q15), eLv (q20)] 103 (15) (353)
  refine j_dup C0 dX1_init_103 rfl ?_
  refine jt_callIN (wr := [eMn (a) (q1) (q5) (q6) (q10), eLv (q1), eAr (q5) cV 7 (upL (fun _ => none) 0 [q1, q15]), eWt (q6) (r9_), eAr (r9_) cR 8 (upL (fun _ => none) 0 [q0_a, q1_a, q2_a, q3_a, q4_a, q5_a, q6_a, q7_a]), eRq (q0_a), eRq (q1_a), eRq (q2_a), eRq (q3_a), eRq (q4_a), eRq (q5_a), eRq (q6_a), eRq (q7_a), eTp (q10), eLv (q15)]) CV X (t_X0_init K D q20) dX1_init_104 (fun U h => h.2.1) (gI9 v_196) rfl (mT v_195) (mT v_197) rfl hy_X0_init rfl [15] [0, 1, 2, 3, 4, 5, 6, 7, 8, 9, 10, 11, 12, 13, 14] rfl rfl (by decide) (by decide) (by decide) rfl ⟨Nat.le_of_ble_eq_true rfl, Nat.le_of_ble_eq_true rfl⟩ (Nat.le_of_ble_eq_true rfl) ⟨Nat.le_of_ble_eq_true rfl, Nat.le_of_ble_eq_true rfl⟩ (fun v21 w22 h23 => ?_)
  obtain ⟨rfl, rfl⟩ := h23
  show J x [(1, .int ((2 : Int32))), (0, .ref (a))] [.ref (q20), .int ((2 : Int32)), .ref (q5)] [eMn (a) (q1) (q5) (q6) (q10), eLv (q1), eAr (q5) cV 7 (upL (fun _ => none) 0 [q1, q15]), eWt (q6) (r9_), eAr (r9_) cR 8 (upL (fun _ => none) 0 [q0_a, q1_a, q2_a, q3_a, q4_a, q5_a, q6_a, q7_a]), eRq (q0_a), eRq (q1_a), eRq (q2_a), eRq (q3_a), eRq (q4_a), eRq (q5_a), eRq (q6_a), eRq (q7_a), eTp (q10), eLv (q15), eLv (q20)] 107 (15) (353)
  refine jt_aastN C0 X dX1_init_107 2 tv 15 (j := 2) (ci := 4) (r := (RX0, TX0, 11)) rfl htv rfl rfl (by decide) (by decide) ?_
  show J x [(1, .int ((2 : Int32))), (0, .ref (a))] [] [eMn (a) (q1) (q5) (q6) (q10), eLv (q1), eAr (q5) cV 7 (upL (fun _ => none) 0 [q1, q15, q20]), eWt (q6) (r9_), eAr (r9_) cR 8 (upL (fun _ => none) 0 [q0_a, q1_a, q2_a, q3_a, q4_a, q5_a, q6_a, q7_a]), eRq (q0_a), eRq (q1_a), eRq (q2_a), eRq (q3_a), eRq (q4_a), eRq (q5_a), eRq (q6_a), eRq (q7_a), eTp (q10), eLv (q15), eLv (q20)] 108 (15) (353)
  refine jt_iinc C0 dX1_init_108 0 rfl ((1 : Int32)) ((3 : Int32)) (by decide) (by decide) (by decide) [(1, .int ((3 : Int32))), (0, .ref (a))] rfl ?_
  refine j_goto C0 dX1_init_111 86 (by decide) ?_
  refine j_iload_n C0 dX1_init_86 0 rfl ?_
  refine j_aload_n C0 dX1_init_87 1 rfl ?_
  refine jt_get C0 X dX1_init_88 0 rfl rfl 1 (by decide) (fin := true) rfl rfl inT_X1 (ref := "MineHoist$Mine") (fun _ _ h => h) (mT v_199) ?_
  refine jt_alen C0 X dX1_init_91 2 tv rfl htv ((7 : Int32)) (show Int32.ofNat 7 = (7 : Int32) by decide) ?_
  refine j_icmp_ge C0 dX1_init_92 114 (by decide) (fun c24 => absurd c24 (by decide)) (fun c24_ => ?_)
  refine j_aload_n C0 dX1_init_95 1 rfl ?_
  refine jt_get C0 X dX1_init_96 0 rfl rfl 1 (by decide) (fin := true) rfl rfl inT_X1 (ref := "MineHoist$Mine") (fun _ _ h => h) (mT v_199) ?_
  refine j_iload_n C0 dX1_init_99 0 rfl ?_
  refine jt_new C0 X dX1_init_100 (ci := 4) rfl inT_X0 tyX0 tyX0_ok (mT v_193) (mT v_194) (mT v_195) (fs := [.int (0), .int (0), .int (0), .int (0), .int (0), .int (0), .int (0), .int (0), .int (0), .int (0), .int (0)]) (nw_X0) (Nat.le_of_ble_eq_true rfl) (Nat.le_of_ble_eq_true rfl) (fun q25 => ?_)
  show J x [(1, .int ((3 : Int32))), (0, .ref (a))] [.ref (q25), .int ((3 : Int32)), .ref (q5)] [eMn (a) (q1) (q5) (q6) (q10), eLv (q1), eAr (q5) cV 7 (upL (fun _ => none) 0 [q1, q15, q20]), eWt (q6) (r9_), eAr (r9_) cR 8 (upL (fun _ => none) 0 [q0_a, q1_a, q2_a, q3_a, q4_a, q5_a, q6_a, q7_a]), eRq (q0_a), eRq (q1_a), eRq (q2_a), eRq (q3_a), eRq (q4_a), eRq (q5_a), eRq (q6_a), eRq (q7_a), eTp (q10), eLv (q15), eLv (q20), eLv (q25)] 103 (16) (364)
  refine j_dup C0 dX1_init_103 rfl ?_
  refine jt_callIN (wr := [eMn (a) (q1) (q5) (q6) (q10), eLv (q1), eAr (q5) cV 7 (upL (fun _ => none) 0 [q1, q15, q20]), eWt (q6) (r9_), eAr (r9_) cR 8 (upL (fun _ => none) 0 [q0_a, q1_a, q2_a, q3_a, q4_a, q5_a, q6_a, q7_a]), eRq (q0_a), eRq (q1_a), eRq (q2_a), eRq (q3_a), eRq (q4_a), eRq (q5_a), eRq (q6_a), eRq (q7_a), eTp (q10), eLv (q15), eLv (q20)]) CV X (t_X0_init K D q25) dX1_init_104 (fun U h => h.2.1) (gI9 v_196) rfl (mT v_195) (mT v_197) rfl hy_X0_init rfl [16] [0, 1, 2, 3, 4, 5, 6, 7, 8, 9, 10, 11, 12, 13, 14, 15] rfl rfl (by decide) (by decide) (by decide) rfl ⟨Nat.le_of_ble_eq_true rfl, Nat.le_of_ble_eq_true rfl⟩ (Nat.le_of_ble_eq_true rfl) ⟨Nat.le_of_ble_eq_true rfl, Nat.le_of_ble_eq_true rfl⟩ (fun v26 w27 h28 => ?_)
  obtain ⟨rfl, rfl⟩ := h28
  show J x [(1, .int ((3 : Int32))), (0, .ref (a))] [.ref (q25), .int ((3 : Int32)), .ref (q5)] [eMn (a) (q1) (q5) (q6) (q10), eLv (q1), eAr (q5) cV 7 (upL (fun _ => none) 0 [q1, q15, q20]), eWt (q6) (r9_), eAr (r9_) cR 8 (upL (fun _ => none) 0 [q0_a, q1_a, q2_a, q3_a, q4_a, q5_a, q6_a, q7_a]), eRq (q0_a), eRq (q1_a), eRq (q2_a), eRq (q3_a), eRq (q4_a), eRq (q5_a), eRq (q6_a), eRq (q7_a), eTp (q10), eLv (q15), eLv (q20), eLv (q25)] 107 (16) (364)
  refine jt_aastN C0 X dX1_init_107 2 tv 16 (j := 3) (ci := 4) (r := (RX0, TX0, 11)) rfl htv rfl rfl (by decide) (by decide) ?_
  show J x [(1, .int ((3 : Int32))), (0, .ref (a))] [] [eMn (a) (q1) (q5) (q6) (q10), eLv (q1), eAr (q5) cV 7 (upL (fun _ => none) 0 [q1, q15, q20, q25]), eWt (q6) (r9_), eAr (r9_) cR 8 (upL (fun _ => none) 0 [q0_a, q1_a, q2_a, q3_a, q4_a, q5_a, q6_a, q7_a]), eRq (q0_a), eRq (q1_a), eRq (q2_a), eRq (q3_a), eRq (q4_a), eRq (q5_a), eRq (q6_a), eRq (q7_a), eTp (q10), eLv (q15), eLv (q20), eLv (q25)] 108 (16) (364)
  refine jt_iinc C0 dX1_init_108 0 rfl ((1 : Int32)) ((4 : Int32)) (by decide) (by decide) (by decide) [(1, .int ((4 : Int32))), (0, .ref (a))] rfl ?_
  refine j_goto C0 dX1_init_111 86 (by decide) ?_
  refine j_iload_n C0 dX1_init_86 0 rfl ?_
  refine j_aload_n C0 dX1_init_87 1 rfl ?_
  refine jt_get C0 X dX1_init_88 0 rfl rfl 1 (by decide) (fin := true) rfl rfl inT_X1 (ref := "MineHoist$Mine") (fun _ _ h => h) (mT v_199) ?_
  refine jt_alen C0 X dX1_init_91 2 tv rfl htv ((7 : Int32)) (show Int32.ofNat 7 = (7 : Int32) by decide) ?_
  refine j_icmp_ge C0 dX1_init_92 114 (by decide) (fun c29 => absurd c29 (by decide)) (fun c29_ => ?_)
  refine j_aload_n C0 dX1_init_95 1 rfl ?_
  refine jt_get C0 X dX1_init_96 0 rfl rfl 1 (by decide) (fin := true) rfl rfl inT_X1 (ref := "MineHoist$Mine") (fun _ _ h => h) (mT v_199) ?_
  refine j_iload_n C0 dX1_init_99 0 rfl ?_
  refine jt_new C0 X dX1_init_100 (ci := 4) rfl inT_X0 tyX0 tyX0_ok (mT v_193) (mT v_194) (mT v_195) (fs := [.int (0), .int (0), .int (0), .int (0), .int (0), .int (0), .int (0), .int (0), .int (0), .int (0), .int (0)]) (nw_X0) (Nat.le_of_ble_eq_true rfl) (Nat.le_of_ble_eq_true rfl) (fun q30 => ?_)
  show J x [(1, .int ((4 : Int32))), (0, .ref (a))] [.ref (q30), .int ((4 : Int32)), .ref (q5)] [eMn (a) (q1) (q5) (q6) (q10), eLv (q1), eAr (q5) cV 7 (upL (fun _ => none) 0 [q1, q15, q20, q25]), eWt (q6) (r9_), eAr (r9_) cR 8 (upL (fun _ => none) 0 [q0_a, q1_a, q2_a, q3_a, q4_a, q5_a, q6_a, q7_a]), eRq (q0_a), eRq (q1_a), eRq (q2_a), eRq (q3_a), eRq (q4_a), eRq (q5_a), eRq (q6_a), eRq (q7_a), eTp (q10), eLv (q15), eLv (q20), eLv (q25), eLv (q30)] 103 (17) (375)
  refine j_dup C0 dX1_init_103 rfl ?_
  refine jt_callIN (wr := [eMn (a) (q1) (q5) (q6) (q10), eLv (q1), eAr (q5) cV 7 (upL (fun _ => none) 0 [q1, q15, q20, q25]), eWt (q6) (r9_), eAr (r9_) cR 8 (upL (fun _ => none) 0 [q0_a, q1_a, q2_a, q3_a, q4_a, q5_a, q6_a, q7_a]), eRq (q0_a), eRq (q1_a), eRq (q2_a), eRq (q3_a), eRq (q4_a), eRq (q5_a), eRq (q6_a), eRq (q7_a), eTp (q10), eLv (q15), eLv (q20), eLv (q25)]) CV X (t_X0_init K D q30) dX1_init_104 (fun U h => h.2.1) (gI9 v_196) rfl (mT v_195) (mT v_197) rfl hy_X0_init rfl [17] [0, 1, 2, 3, 4, 5, 6, 7, 8, 9, 10, 11, 12, 13, 14, 15, 16] rfl rfl (by decide) (by decide) (by decide) rfl ⟨Nat.le_of_ble_eq_true rfl, Nat.le_of_ble_eq_true rfl⟩ (Nat.le_of_ble_eq_true rfl) ⟨Nat.le_of_ble_eq_true rfl, Nat.le_of_ble_eq_true rfl⟩ (fun v31 w32 h33 => ?_)
  obtain ⟨rfl, rfl⟩ := h33
  show J x [(1, .int ((4 : Int32))), (0, .ref (a))] [.ref (q30), .int ((4 : Int32)), .ref (q5)] [eMn (a) (q1) (q5) (q6) (q10), eLv (q1), eAr (q5) cV 7 (upL (fun _ => none) 0 [q1, q15, q20, q25]), eWt (q6) (r9_), eAr (r9_) cR 8 (upL (fun _ => none) 0 [q0_a, q1_a, q2_a, q3_a, q4_a, q5_a, q6_a, q7_a]), eRq (q0_a), eRq (q1_a), eRq (q2_a), eRq (q3_a), eRq (q4_a), eRq (q5_a), eRq (q6_a), eRq (q7_a), eTp (q10), eLv (q15), eLv (q20), eLv (q25), eLv (q30)] 107 (17) (375)
  refine jt_aastN C0 X dX1_init_107 2 tv 17 (j := 4) (ci := 4) (r := (RX0, TX0, 11)) rfl htv rfl rfl (by decide) (by decide) ?_
  show J x [(1, .int ((4 : Int32))), (0, .ref (a))] [] [eMn (a) (q1) (q5) (q6) (q10), eLv (q1), eAr (q5) cV 7 (upL (fun _ => none) 0 [q1, q15, q20, q25, q30]), eWt (q6) (r9_), eAr (r9_) cR 8 (upL (fun _ => none) 0 [q0_a, q1_a, q2_a, q3_a, q4_a, q5_a, q6_a, q7_a]), eRq (q0_a), eRq (q1_a), eRq (q2_a), eRq (q3_a), eRq (q4_a), eRq (q5_a), eRq (q6_a), eRq (q7_a), eTp (q10), eLv (q15), eLv (q20), eLv (q25), eLv (q30)] 108 (17) (375)
  refine jt_iinc C0 dX1_init_108 0 rfl ((1 : Int32)) ((5 : Int32)) (by decide) (by decide) (by decide) [(1, .int ((5 : Int32))), (0, .ref (a))] rfl ?_
  refine j_goto C0 dX1_init_111 86 (by decide) ?_
  refine j_iload_n C0 dX1_init_86 0 rfl ?_
  refine j_aload_n C0 dX1_init_87 1 rfl ?_
  refine jt_get C0 X dX1_init_88 0 rfl rfl 1 (by decide) (fin := true) rfl rfl inT_X1 (ref := "MineHoist$Mine") (fun _ _ h => h) (mT v_199) ?_
  refine jt_alen C0 X dX1_init_91 2 tv rfl htv ((7 : Int32)) (show Int32.ofNat 7 = (7 : Int32) by decide) ?_
  refine j_icmp_ge C0 dX1_init_92 114 (by decide) (fun c34 => absurd c34 (by decide)) (fun c34_ => ?_)
  refine j_aload_n C0 dX1_init_95 1 rfl ?_
  refine jt_get C0 X dX1_init_96 0 rfl rfl 1 (by decide) (fin := true) rfl rfl inT_X1 (ref := "MineHoist$Mine") (fun _ _ h => h) (mT v_199) ?_
  refine j_iload_n C0 dX1_init_99 0 rfl ?_
  refine jt_new C0 X dX1_init_100 (ci := 4) rfl inT_X0 tyX0 tyX0_ok (mT v_193) (mT v_194) (mT v_195) (fs := [.int (0), .int (0), .int (0), .int (0), .int (0), .int (0), .int (0), .int (0), .int (0), .int (0), .int (0)]) (nw_X0) (Nat.le_of_ble_eq_true rfl) (Nat.le_of_ble_eq_true rfl) (fun q35 => ?_)
  show J x [(1, .int ((5 : Int32))), (0, .ref (a))] [.ref (q35), .int ((5 : Int32)), .ref (q5)] [eMn (a) (q1) (q5) (q6) (q10), eLv (q1), eAr (q5) cV 7 (upL (fun _ => none) 0 [q1, q15, q20, q25, q30]), eWt (q6) (r9_), eAr (r9_) cR 8 (upL (fun _ => none) 0 [q0_a, q1_a, q2_a, q3_a, q4_a, q5_a, q6_a, q7_a]), eRq (q0_a), eRq (q1_a), eRq (q2_a), eRq (q3_a), eRq (q4_a), eRq (q5_a), eRq (q6_a), eRq (q7_a), eTp (q10), eLv (q15), eLv (q20), eLv (q25), eLv (q30), eLv (q35)] 103 (18) (386)
  refine j_dup C0 dX1_init_103 rfl ?_
  refine jt_callIN (wr := [eMn (a) (q1) (q5) (q6) (q10), eLv (q1), eAr (q5) cV 7 (upL (fun _ => none) 0 [q1, q15, q20, q25, q30]), eWt (q6) (r9_), eAr (r9_) cR 8 (upL (fun _ => none) 0 [q0_a, q1_a, q2_a, q3_a, q4_a, q5_a, q6_a, q7_a]), eRq (q0_a), eRq (q1_a), eRq (q2_a), eRq (q3_a), eRq (q4_a), eRq (q5_a), eRq (q6_a), eRq (q7_a), eTp (q10), eLv (q15), eLv (q20), eLv (q25), eLv (q30)]) CV X (t_X0_init K D q35) dX1_init_104 (fun U h => h.2.1) (gI9 v_196) rfl (mT v_195) (mT v_197) rfl hy_X0_init rfl [18] [0, 1, 2, 3, 4, 5, 6, 7, 8, 9, 10, 11, 12, 13, 14, 15, 16, 17] rfl rfl (by decide) (by decide) (by decide) rfl ⟨Nat.le_of_ble_eq_true rfl, Nat.le_of_ble_eq_true rfl⟩ (Nat.le_of_ble_eq_true rfl) ⟨Nat.le_of_ble_eq_true rfl, Nat.le_of_ble_eq_true rfl⟩ (fun v36 w37 h38 => ?_)
  obtain ⟨rfl, rfl⟩ := h38
  show J x [(1, .int ((5 : Int32))), (0, .ref (a))] [.ref (q35), .int ((5 : Int32)), .ref (q5)] [eMn (a) (q1) (q5) (q6) (q10), eLv (q1), eAr (q5) cV 7 (upL (fun _ => none) 0 [q1, q15, q20, q25, q30]), eWt (q6) (r9_), eAr (r9_) cR 8 (upL (fun _ => none) 0 [q0_a, q1_a, q2_a, q3_a, q4_a, q5_a, q6_a, q7_a]), eRq (q0_a), eRq (q1_a), eRq (q2_a), eRq (q3_a), eRq (q4_a), eRq (q5_a), eRq (q6_a), eRq (q7_a), eTp (q10), eLv (q15), eLv (q20), eLv (q25), eLv (q30), eLv (q35)] 107 (18) (386)
  refine jt_aastN C0 X dX1_init_107 2 tv 18 (j := 5) (ci := 4) (r := (RX0, TX0, 11)) rfl htv rfl rfl (by decide) (by decide) ?_
  show J x [(1, .int ((5 : Int32))), (0, .ref (a))] [] [eMn (a) (q1) (q5) (q6) (q10), eLv (q1), eAr (q5) cV 7 (upL (fun _ => none) 0 [q1, q15, q20, q25, q30, q35]), eWt (q6) (r9_), eAr (r9_) cR 8 (upL (fun _ => none) 0 [q0_a, q1_a, q2_a, q3_a, q4_a, q5_a, q6_a, q7_a]), eRq (q0_a), eRq (q1_a), eRq (q2_a), eRq (q3_a), eRq (q4_a), eRq (q5_a), eRq (q6_a), eRq (q7_a), eTp (q10), eLv (q15), eLv (q20), eLv (q25), eLv (q30), eLv (q35)] 108 (18) (386)
  refine jt_iinc C0 dX1_init_108 0 rfl ((1 : Int32)) ((6 : Int32)) (by decide) (by decide) (by decide) [(1, .int ((6 : Int32))), (0, .ref (a))] rfl ?_
  refine j_goto C0 dX1_init_111 86 (by decide) ?_
  refine j_iload_n C0 dX1_init_86 0 rfl ?_
  refine j_aload_n C0 dX1_init_87 1 rfl ?_
  refine jt_get C0 X dX1_init_88 0 rfl rfl 1 (by decide) (fin := true) rfl rfl inT_X1 (ref := "MineHoist$Mine") (fun _ _ h => h) (mT v_199) ?_
  refine jt_alen C0 X dX1_init_91 2 tv rfl htv ((7 : Int32)) (show Int32.ofNat 7 = (7 : Int32) by decide) ?_
  refine j_icmp_ge C0 dX1_init_92 114 (by decide) (fun c39 => absurd c39 (by decide)) (fun c39_ => ?_)
  refine j_aload_n C0 dX1_init_95 1 rfl ?_
  refine jt_get C0 X dX1_init_96 0 rfl rfl 1 (by decide) (fin := true) rfl rfl inT_X1 (ref := "MineHoist$Mine") (fun _ _ h => h) (mT v_199) ?_
  refine j_iload_n C0 dX1_init_99 0 rfl ?_
  refine jt_new C0 X dX1_init_100 (ci := 4) rfl inT_X0 tyX0 tyX0_ok (mT v_193) (mT v_194) (mT v_195) (fs := [.int (0), .int (0), .int (0), .int (0), .int (0), .int (0), .int (0), .int (0), .int (0), .int (0), .int (0)]) (nw_X0) (Nat.le_of_ble_eq_true rfl) (Nat.le_of_ble_eq_true rfl) (fun q40 => ?_)
  show J x [(1, .int ((6 : Int32))), (0, .ref (a))] [.ref (q40), .int ((6 : Int32)), .ref (q5)] [eMn (a) (q1) (q5) (q6) (q10), eLv (q1), eAr (q5) cV 7 (upL (fun _ => none) 0 [q1, q15, q20, q25, q30, q35]), eWt (q6) (r9_), eAr (r9_) cR 8 (upL (fun _ => none) 0 [q0_a, q1_a, q2_a, q3_a, q4_a, q5_a, q6_a, q7_a]), eRq (q0_a), eRq (q1_a), eRq (q2_a), eRq (q3_a), eRq (q4_a), eRq (q5_a), eRq (q6_a), eRq (q7_a), eTp (q10), eLv (q15), eLv (q20), eLv (q25), eLv (q30), eLv (q35), eLv (q40)] 103 (19) (397)
  refine j_dup C0 dX1_init_103 rfl ?_
  refine jt_callIN (wr := [eMn (a) (q1) (q5) (q6) (q10), eLv (q1), eAr (q5) cV 7 (upL (fun _ => none) 0 [q1, q15, q20, q25, q30, q35]), eWt (q6) (r9_), eAr (r9_) cR 8 (upL (fun _ => none) 0 [q0_a, q1_a, q2_a, q3_a, q4_a, q5_a, q6_a, q7_a]), eRq (q0_a), eRq (q1_a), eRq (q2_a), eRq (q3_a), eRq (q4_a), eRq (q5_a), eRq (q6_a), eRq (q7_a), eTp (q10), eLv (q15), eLv (q20), eLv (q25), eLv (q30), eLv (q35)]) CV X (t_X0_init K D q40) dX1_init_104 (fun U h => h.2.1) (gI9 v_196) rfl (mT v_195) (mT v_197) rfl hy_X0_init rfl [19] [0, 1, 2, 3, 4, 5, 6, 7, 8, 9, 10, 11, 12, 13, 14, 15, 16, 17, 18] rfl rfl (by decide) (by decide) (by decide) rfl ⟨Nat.le_of_ble_eq_true rfl, Nat.le_of_ble_eq_true rfl⟩ (Nat.le_of_ble_eq_true rfl) ⟨Nat.le_of_ble_eq_true rfl, Nat.le_of_ble_eq_true rfl⟩ (fun v41 w42 h43 => ?_)
  obtain ⟨rfl, rfl⟩ := h43
  show J x [(1, .int ((6 : Int32))), (0, .ref (a))] [.ref (q40), .int ((6 : Int32)), .ref (q5)] [eMn (a) (q1) (q5) (q6) (q10), eLv (q1), eAr (q5) cV 7 (upL (fun _ => none) 0 [q1, q15, q20, q25, q30, q35]), eWt (q6) (r9_), eAr (r9_) cR 8 (upL (fun _ => none) 0 [q0_a, q1_a, q2_a, q3_a, q4_a, q5_a, q6_a, q7_a]), eRq (q0_a), eRq (q1_a), eRq (q2_a), eRq (q3_a), eRq (q4_a), eRq (q5_a), eRq (q6_a), eRq (q7_a), eTp (q10), eLv (q15), eLv (q20), eLv (q25), eLv (q30), eLv (q35), eLv (q40)] 107 (19) (397)
  refine jt_aastN C0 X dX1_init_107 2 tv 19 (j := 6) (ci := 4) (r := (RX0, TX0, 11)) rfl htv rfl rfl (by decide) (by decide) ?_
  show J x [(1, .int ((6 : Int32))), (0, .ref (a))] [] [eMn (a) (q1) (q5) (q6) (q10), eLv (q1), eAr (q5) cV 7 (upL (fun _ => none) 0 [q1, q15, q20, q25, q30, q35, q40]), eWt (q6) (r9_), eAr (r9_) cR 8 (upL (fun _ => none) 0 [q0_a, q1_a, q2_a, q3_a, q4_a, q5_a, q6_a, q7_a]), eRq (q0_a), eRq (q1_a), eRq (q2_a), eRq (q3_a), eRq (q4_a), eRq (q5_a), eRq (q6_a), eRq (q7_a), eTp (q10), eLv (q15), eLv (q20), eLv (q25), eLv (q30), eLv (q35), eLv (q40)] 108 (19) (397)
  refine jt_iinc C0 dX1_init_108 0 rfl ((1 : Int32)) ((7 : Int32)) (by decide) (by decide) (by decide) [(1, .int ((7 : Int32))), (0, .ref (a))] rfl ?_
  refine j_goto C0 dX1_init_111 86 (by decide) ?_
  refine j_iload_n C0 dX1_init_86 0 rfl ?_
  refine j_aload_n C0 dX1_init_87 1 rfl ?_
  refine jt_get C0 X dX1_init_88 0 rfl rfl 1 (by decide) (fin := true) rfl rfl inT_X1 (ref := "MineHoist$Mine") (fun _ _ h => h) (mT v_199) ?_
  refine jt_alen C0 X dX1_init_91 2 tv rfl htv ((7 : Int32)) (show Int32.ofNat 7 = (7 : Int32) by decide) ?_
  refine j_icmp_ge C0 dX1_init_92 114 (by decide) (fun c44_ => ?_) (fun c44 => absurd c44 (by decide))
  exact jy_return C dX1_init_114 ⟨rfl, _, _, _, _, _, _, _, _, _, _, _, _, _, _, _, _, _, _, _, rfl⟩ (Nat.le_of_ble_eq_true rfl) (Nat.le_of_ble_eq_true rfl)
