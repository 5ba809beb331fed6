abbrev rmt_J0_isLatin1K : Room := ({ frames := 10, cells := 0, slots := 0, locals := 200 } : Room)
abbrev wt_J0_isLatin1_aae02 : List Cond := (Cond.code yJ0_isLatin1_aae02 cJ0_isLatin1_aae02 1 (some .boolean)) :: wsT
set_option maxRecDepth 20000 in
set_option maxHeartbeats 4000000 in
theorem t_J0_isLatin1K (K : Nat → Nat) (D : va_G) {tys : List (ClassId × FieldType)} (i : Nat) (hi : i < 8)  : MT yJ0_isLatin1_aae02 wt_J0_isLatin1_aae02 rmt_J0_isLatin1K [.ref (K i)] K D tys [] (fun r w' => r = some (.int (1)) ∧ w' = []) := by
  refine mt_of (cc := cJ0_isLatin1_aae02) (maxL := 1) (ret := (some .boolean)) (v0 := some (.int (1))) (w0 := []) ⟨rfl, rfl⟩ (by decide +kernel) rfl (Nat.le_of_ble_eq_true rfl) (fun x C X => ?_)
  have C : Cy "isLatin1" K (fun r w' => r = some (.int (1)) ∧ w' = []) x cJ0_isLatin1_aae02 1 RJ0 (some .boolean) [] wt_J0_isLatin1_aae02 rmt_J0_isLatin1K D tys := C
  have C0 := C.cx
  have CV := C.cv
  show J x [(0, .ref (K i))] [] [] 0 (0) (0)
  refine jy_compact C dJ0_isLatin1_aae02_0 (mT v_53) rfl ?_
  refine j_if_eq C0 dJ0_isLatin1_aae02_3 17 (by decide) (fun c1 => absurd c1 (by decide)) (fun c1_ => ?_)
  refine j_aload_n C0 dJ0_isLatin1_aae02_6 0 rfl ?_
  refine jy_coder C (i := i) hi dJ0_isLatin1_aae02_7 (mT v_54) ?_
  refine j_if_ne C0 dJ0_isLatin1_aae02_10 17 (by decide) (fun c2 => absurd c2 (by decide)) (fun c2_ => ?_)
  refine j_iconst C0 dJ0_isLatin1_aae02_13 ((1 : Int32)) (by decide) ?_
  refine j_goto C0 dJ0_isLatin1_aae02_14 18 (by decide) ?_
  exact jy_zreturn C (by decide) dJ0_isLatin1_aae02_18 ⟨rfl, rfl⟩ (Nat.le_of_ble_eq_true rfl) (Nat.le_of_ble_eq_true rfl)
theorem lit_chr : ∀ i, i < 8 → ∀ j, j < 6 → ((((litB.getD i []).getD j 0) &&& 255).toUInt32 % 65536).toInt32 = (litB.getD i []).getD j 0 := by decide +kernel
theorem lit_nar : ∀ i, i < 8 → ∀ j, j < 6 → narrow .char (.int ((litB.getD i []).getD j 0)) = .int ((litB.getD i []).getD j 0) := by decide +kernel
abbrev rmt_J1_charAtK : Room := ({ frames := 12, cells := 0, slots := 0, locals := 243 } : Room)
abbrev wt_J1_charAt_3b067 : List Cond := (Cond.code yJ1_charAt_3b067 cJ1_charAt_3b067 2 (some .char)) :: wsT
set_option maxRecDepth 20000 in
set_option maxHeartbeats 4000000 in
theorem t_J1_charAtK (K : Nat → Nat) (D : va_G) {tys : List (ClassId × FieldType)} (i : Nat) (hi : i < 8) (j : Nat) (hj : j < litN.getD i 0) : MT yJ1_charAt_3b067 wt_J1_charAt_3b067 rmt_J1_charAtK [.ref (K (20 + i)), .int (nI j)] K D tys [] (fun r w' => r = some (.int ((litB.getD i []).getD j 0)) ∧ w' = []) := by
  have h9 := litN_le hi
  refine mt_of (cc := cJ1_charAt_3b067) (maxL := 2) (ret := (some .char)) (v0 := some (.int ((litB.getD i []).getD j 0))) (w0 := []) ⟨rfl, rfl⟩ (by decide +kernel) rfl (Nat.le_of_ble_eq_true rfl) (fun x C X => ?_)
  have C : Cy "charAt" K (fun r w' => r = some (.int ((litB.getD i []).getD j 0)) ∧ w' = []) x cJ1_charAt_3b067 2 RJ1 (some .char) [] wt_J1_charAt_3b067 rmt_J1_charAtK D tys := C
  have C0 := C.cx
  have CV := C.cv
  show J x [(0, .ref (K (20 + i))), (1, .int (nI j))] [] [] 0 (0) (0)
  refine j_iload_n C0 dJ1_charAt_3b067_0 1 rfl ?_
  refine j_aload_n C0 dJ1_charAt_3b067_1 0 rfl ?_
  refine jy_alen C (i := i) hi dJ1_charAt_3b067_2 ?_
  refine jt_callS (wr := []) CV X (t_J0_checkIndex_df160 K D j (litN.getD i 0) hj (by omega)) dJ1_charAt_3b067_3 (gS9 v_173 v_112 v_59 v_113) rfl hy_J0_checkIndex_df160 rfl [] [] rfl rfl (by decide) (by decide) (by decide) rfl ⟨Nat.le_of_ble_eq_true rfl, Nat.le_of_ble_eq_true rfl⟩ (Nat.le_of_ble_eq_true rfl) ⟨Nat.le_of_ble_eq_true rfl, Nat.le_of_ble_eq_true rfl⟩ (fun v1 w2 h3 => ?_)
  obtain ⟨rfl, rfl⟩ := h3
  show J x [(0, .ref (K (20 + i))), (1, .int (nI j))] [] [] 6 (0) (0)
  refine j_aload_n C0 dJ1_charAt_3b067_6 0 rfl ?_
  refine j_iload_n C0 dJ1_charAt_3b067_7 1 rfl ?_
  refine jy_lit C (i := i) (j := j) hi hj (by have := litN_le hi; omega) dJ1_charAt_3b067_8 ?_
  refine j_sipush C0 dJ1_charAt_3b067_9 ((255 : Int32)) (by decide) ?_
  refine j_iand C0 dJ1_charAt_3b067_12 ?_
  refine j_i2c C0 dJ1_charAt_3b067_13 ?_
  refine jt_eqI (b := (litB.getD i []).getD j 0) (lit_chr i hi j (by omega)) ?_
  exact jy_zreturn C (lit_nar i hi j (by omega)) dJ1_charAt_3b067_14 ⟨rfl, rfl⟩ (Nat.le_of_ble_eq_true rfl) (Nat.le_of_ble_eq_true rfl)
abbrev rmt_J0_charAtK : Room := ({ frames := 13, cells := 0, slots := 0, locals := 264 } : Room)
abbrev wt_J0_charAt_5068e : List Cond := (Cond.code yJ0_charAt_5068e cJ0_charAt_5068e 2 (some .char)) :: wsT
set_option maxRecDepth 20000 in
set_option maxHeartbeats 4000000 in
theorem t_J0_charAtK (K : Nat → Nat) (D : va_G) {tys : List (ClassId × FieldType)} (i : Nat) (hi : i < 8) (j : Nat) (hj : j < litN.getD i 0) : MT yJ0_charAt_5068e wt_J0_charAt_5068e rmt_J0_charAtK [.ref (K i), .int (nI j)] K D tys [] (fun r w' => r = some (.int ((litB.getD i []).getD j 0)) ∧ w' = []) := by
  refine mt_of (cc := cJ0_charAt_5068e) (maxL := 2) (ret := (some .char)) (v0 := some (.int ((litB.getD i []).getD j 0))) (w0 := []) ⟨rfl, rfl⟩ (by decide +kernel) rfl (Nat.le_of_ble_eq_true rfl) (fun x C X => ?_)
  have C : Cy "charAt" K (fun r w' => r = some (.int ((litB.getD i []).getD j 0)) ∧ w' = []) x cJ0_charAt_5068e 2 RJ0 (some .char) [] wt_J0_charAt_5068e rmt_J0_charAtK D tys := C
  have C0 := C.cx
  have CV := C.cv
  show J x [(0, .ref (K i)), (1, .int (nI j))] [] [] 0 (0) (0)
  refine j_aload_n C0 dJ0_charAt_5068e_0 0 rfl ?_
  refine jt_callK (wr := []) CV X (i := i) hi (t_J0_isLatin1K K D i hi) dJ0_charAt_5068e_1 (gV9 v_174 v_175 v_176 v_59 v_177) rfl hy_J0_isLatin1_aae02 rfl rfl [] [] rfl rfl (by decide) (by decide) (by decide) rfl ⟨Nat.le_of_ble_eq_true rfl, Nat.le_of_ble_eq_true rfl⟩ (Nat.le_of_ble_eq_true rfl) ⟨Nat.le_of_ble_eq_true rfl, Nat.le_of_ble_eq_true rfl⟩ (fun v1 w2 h3 => ?_)
  obtain ⟨rfl, rfl⟩ := h3
  show J x [(0, .ref (K i)), (1, .int (nI j))] [.int (1)] [] 4 (0) (0)
  refine j_if_eq C0 dJ0_charAt_5068e_4 16 (by decide) (fun c4 => absurd c4 (by decide)) (fun c4_ => ?_)
  refine j_aload_n C0 dJ0_charAt_5068e_7 0 rfl ?_
  refine jy_value C (i := i) hi dJ0_charAt_5068e_8 (mT v_55) ?_
  refine j_iload_n C0 dJ0_charAt_5068e_11 1 rfl ?_
  refine jt_callS (wr := []) CV X (t_J1_charAtK K D i hi j hj) dJ0_charAt_5068e_12 (gS9 v_178 v_179 v_51 v_180) rfl hy_J1_charAt_3b067 rfl [] [] rfl rfl (by decide) (by decide) (by decide) rfl ⟨Nat.le_of_ble_eq_true rfl, Nat.le_of_ble_eq_true rfl⟩ (Nat.le_of_ble_eq_true rfl) ⟨Nat.le_of_ble_eq_true rfl, Nat.le_of_ble_eq_true rfl⟩ (fun v5 w6 h7 => ?_)
  obtain ⟨rfl, rfl⟩ := h7
  show J x [(0, .ref (K i)), (1, .int (nI j))] [.int ((litB.getD i []).getD j 0)] [] 15 (0) (0)
  exact jy_zreturn C (lit_nar i hi j (by have := litN_le hi; omega)) dJ0_charAt_5068e_15 ⟨rfl, rfl⟩ (Nat.le_of_ble_eq_true rfl) (Nat.le_of_ble_eq_true rfl)
