def sp_X5_checkRange (n : Nat) (σ : Mem) (a0 : Int32) (a1 : Int32) (a2 : Int32) : Option ((Unit ⊕ String) × Mem) := if a0 < a1 then some (.inr "java/lang/IllegalArgumentException", σ) else if a0 ≤ a2 then some (.inl (), σ) else some (.inr "java/lang/IllegalArgumentException", σ)
abbrev rm_X5_checkRange : Room := ({ frames := 10, cells := 1, slots := 6, locals := 200 } : Room)
abbrev wu_X5_checkRange : List Cond := (Cond.code yX5_checkRange cX5_checkRange 3 none) :: wsU
theorem hy_X5_checkRange : hyOk yX5_checkRange 3 := by decide +kernel
set_option maxRecDepth 20000 in
set_option maxHeartbeats 4000000 in
theorem c_X5_checkRange (n : Nat) (G : Gt) (σ : Mem) (a0 : Int32) (a1 : Int32) (a2 : Int32)  (r : Unit ⊕ String) (σ' : Mem) (h : sp_X5_checkRange n σ a0 a1 a2 = some (r, σ')) : MM yX5_checkRange wu_X5_checkRange rm_X5_checkRange [.int (a0), .int (a1), .int (a2)] G σ (ocv r) σ' := by
  refine mm_of (cc := cX5_checkRange) (maxL := 3) (ret := none) (by decide +kernel) rfl (Nat.le_of_ble_eq_true rfl) (fun x C X hg => ?_)
  have C : Cx x cX5_checkRange 3 RX5 none [] wu_X5_checkRange rm_X5_checkRange G.1 (tysF G) := C
  unfold sp_X5_checkRange at h
  show J x [(0, .int (a0)), (1, .int (a1)), (2, .int (a2))] [] σ 0 0 0
  refine j_iload_n C dX5_checkRange_0 0 rfl ?_
  refine j_iload_n C dX5_checkRange_1 1 rfl ?_
  refine j_icmp_lt C dX5_checkRange_2 10 (by decide) (fun c1 => ?_) (fun c1 => ?_)
  · have h := (if_pos c1).symm.trans h
    exact j_throwW C ["java/lang/RuntimeException", "java/lang/Exception"] dX5_checkRange_10 dX5_checkRange_13 dX5_checkRange_14 dX5_checkRange_17 dX5_checkRange_20 (text := "out of range") (by decide +kernel) (by decide +kernel) (mU u_204) (mU u_205) (by decide +kernel) tw_47 tn_47 (by decide) (tgc tg_47) (by decide) (Nat.le_of_ble_eq_true rfl) (by decide) (by decide) X.grow (e_xv h hg)
  · have h := (if_neg c1).symm.trans h
    refine j_iload_n C dX5_checkRange_5 0 rfl ?_
    refine j_iload_n C dX5_checkRange_6 2 rfl ?_
    refine j_icmp_le C dX5_checkRange_7 21 (by decide) (fun c2 => ?_) (fun c2 => ?_)
    · have h := (if_pos c2).symm.trans h
      exact j_return C dX5_checkRange_21 (e_ov h hg) (by decide) (by decide)
    · have h := (if_neg c2).symm.trans h
      exact j_throwW C ["java/lang/RuntimeException", "java/lang/Exception"] dX5_checkRange_10 dX5_checkRange_13 dX5_checkRange_14 dX5_checkRange_17 dX5_checkRange_20 (text := "out of range") (by decide +kernel) (by decide +kernel) (mU u_204) (mU u_205) (by decide +kernel) tw_47 tn_47 (by decide) (tgc tg_47) (by decide) (Nat.le_of_ble_eq_true rfl) (by decide) (by decide) X.grow (e_xv h hg)
def sp_X5_checkPlace (n : Nat) (σ : Mem) (o0 : Nat) (a1 : Int32) : Option ((Unit ⊕ String) × Mem) := if a1 < 0 then some (.inr "java/lang/IndexOutOfBoundsException", σ) else if a1 ≤ (σ.1 (rf o0 0) 4) then some (.inl (), σ) else some (.inr "java/lang/IndexOutOfBoundsException", σ)
abbrev rm_X5_checkPlace : Room := ({ frames := 10, cells := 1, slots := 6, locals := 200 } : Room)
abbrev wu_X5_checkPlace : List Cond := (Cond.code yX5_checkPlace cX5_checkPlace 2 none) :: wsU
theorem hy_X5_checkPlace : hyOk yX5_checkPlace 1 := by decide +kernel
set_option maxRecDepth 20000 in
set_option maxHeartbeats 4000000 in
theorem c_X5_checkPlace (n : Nat) (G : Gt) (σ : Mem) (o0 : Nat) (a1 : Int32) (ho0 : Ok o0 5) (r : Unit ⊕ String) (σ' : Mem) (h : sp_X5_checkPlace n σ o0 a1 = some (r, σ')) : MM yX5_checkPlace wu_X5_checkPlace rm_X5_checkPlace [.ref (G.2.2 (o0)), .int (a1)] G σ (ocv r) σ' := by
  refine mm_of (cc := cX5_checkPlace) (maxL := 2) (ret := none) (by decide +kernel) rfl (Nat.le_of_ble_eq_true rfl) (fun x C X hg => ?_)
  have C : Cx x cX5_checkPlace 2 RX5 none [] wu_X5_checkPlace rm_X5_checkPlace G.1 (tysF G) := C
  unfold sp_X5_checkPlace at h
  show J x [(0, .ref (G.2.2 (o0))), (1, .int (a1))] [] σ 0 0 0
  refine j_iload_n C dX5_checkPlace_0 1 rfl ?_
  refine j_if_lt C dX5_checkPlace_1 15 (by decide) (fun c1 => ?_) (fun c1 => ?_)
  · have h := (if_pos c1).symm.trans h
    exact j_throwW C ["java/lang/RuntimeException", "java/lang/Exception"] dX5_checkPlace_15 dX5_checkPlace_18 dX5_checkPlace_19 dX5_checkPlace_22 dX5_checkPlace_25 (text := "no such level") (by decide +kernel) (by decide +kernel) (mU u_206) (mU u_207) (by decide +kernel) tw_198 tn_198 (by decide) (tgc tg_198) (by decide) (Nat.le_of_ble_eq_true rfl) (by decide) (by decide) X.grow (e_xv h hg)
  · have h := (if_neg c1).symm.trans h
    refine j_iload_n C dX5_checkPlace_4 1 rfl ?_
    refine j_aload_n C dX5_checkPlace_5 0 rfl ?_
    refine j_get C X dX5_checkPlace_6 ho0 rfl rfl 0 (by decide) (fin := true) rfl rfl in_X5 (mU u_208) ?_
    refine j_get C X dX5_checkPlace_9 (sh_5_0 ho0) rfl rfl 4 (by decide) (fin := false) rfl rfl in_X1 (mU u_209) ?_
    refine j_icmp_le C dX5_checkPlace_12 26 (by decide) (fun c2 => ?_) (fun c2 => ?_)
    · have h := (if_pos c2).symm.trans h
      exact j_return C dX5_checkPlace_26 (e_ov h hg) (by decide) (by decide)
    · have h := (if_neg c2).symm.trans h
      exact j_throwW C ["java/lang/RuntimeException", "java/lang/Exception"] dX5_checkPlace_15 dX5_checkPlace_18 dX5_checkPlace_19 dX5_checkPlace_22 dX5_checkPlace_25 (text := "no such level") (by decide +kernel) (by decide +kernel) (mU u_206) (mU u_207) (by decide +kernel) tw_198 tn_198 (by decide) (tgc tg_198) (by decide) (Nat.le_of_ble_eq_true rfl) (by decide) (by decide) X.grow (e_xv h hg)
def sp_X5_checkLevel (n : Nat) (σ : Mem) (o0 : Nat) (a1 : Int32) : Option ((Unit ⊕ String) × Mem) := if a1 = 0 then some (.inr "java/lang/IndexOutOfBoundsException", σ) else ((sp_X5_checkPlace n σ o0 a1).bind fun q => match q with | (.inl _, σ3) => some (.inl (), σ3) | (.inr E, σ3) => some (.inr E, σ3))
abbrev rm_X5_checkLevel : Room := ({ frames := 11, cells := 1, slots := 6, locals := 221 } : Room)
abbrev wu_X5_checkLevel : List Cond := (Cond.code yX5_checkLevel cX5_checkLevel 2 none) :: wsU
theorem hy_X5_checkLevel : hyOk yX5_checkLevel 1 := by decide +kernel
set_option maxRecDepth 20000 in
set_option maxHeartbeats 4000000 in
theorem c_X5_checkLevel (n : Nat) (G : Gt) (σ : Mem) (o0 : Nat) (a1 : Int32) (ho0 : Ok o0 5) (r : Unit ⊕ String) (σ' : Mem) (h : sp_X5_checkLevel n σ o0 a1 = some (r, σ')) : MM yX5_checkLevel wu_X5_checkLevel rm_X5_checkLevel [.ref (G.2.2 (o0)), .int (a1)] G σ (ocv r) σ' := by
  refine mm_of (cc := cX5_checkLevel) (maxL := 2) (ret := none) (by decide +kernel) rfl (Nat.le_of_ble_eq_true rfl) (fun x C X hg => ?_)
  have C : Cx x cX5_checkLevel 2 RX5 none [] wu_X5_checkLevel rm_X5_checkLevel G.1 (tysF G) := C
  unfold sp_X5_checkLevel at h
  show J x [(0, .ref (G.2.2 (o0))), (1, .int (a1))] [] σ 0 0 0
  refine j_iload_n C dX5_checkLevel_0 1 rfl ?_
  refine j_if_ne C dX5_checkLevel_1 15 (by decide) (fun c1 => ?_) (fun c1 => ?_)
  · have h := (if_neg c1).symm.trans h
    refine j_aload_n C dX5_checkLevel_15 0 rfl ?_
    refine j_iload_n C dX5_checkLevel_16 1 rfl ?_
    obtain ⟨⟨r2, σ3⟩, h4, h⟩ := ob h
    try dsimp only at h
    rcases r2 with r2 | r2 <;> (try dsimp only at h)
    · refine j_callV C X (c_X5_checkPlace n G σ o0 a1 ho0 _ _ h4) dX5_checkLevel_17 (gV u_210 u_213 u_214 u_211 u_212) rfl hy_X5_checkPlace rfl ho0 rfl (ci := 9) rfl rfl rfl (by decide) (Nat.le_of_ble_eq_true rfl) (by decide) ?_
      exact j_return C dX5_checkLevel_20 (e_ov h hg) (by decide) (by decide)
    · exact j_escV C X (c_X5_checkPlace n G σ o0 a1 ho0 _ _ h4) dX5_checkLevel_17 (gV u_210 u_213 u_214 u_211 u_212) rfl hy_X5_checkPlace rfl ho0 rfl (ci := 9) rfl rfl rfl (by decide) (Nat.le_of_ble_eq_true rfl) (by decide) (e_xv h hg)
  · have h := (if_pos c1).symm.trans h
    exact j_throwW C ["java/lang/RuntimeException", "java/lang/Exception"] dX5_checkLevel_4 dX5_checkLevel_7 dX5_checkLevel_8 dX5_checkLevel_11 dX5_checkLevel_14 (text := "the surface is no level") (by decide +kernel) (by decide +kernel) (mU u_206) (mU u_207) (by decide +kernel) tw_198 tn_198 (by decide) (tgc tg_198) (by decide) (Nat.le_of_ble_eq_true rfl) (by decide) (by decide) X.grow (e_xv h hg)
def sp_X5_checkTrip (n : Nat) (σ : Mem) (o0 : Nat) : Option ((Unit ⊕ String) × Mem) := ((sp_X3_isOn n σ ((rf (rf o0 0) 3))).bind fun q => match q with | (r1, σ2) => if r1 = 0 then some (.inr "java/util/NoSuchElementException", σ2) else some (.inl (), σ2))
abbrev rm_X5_checkTrip : Room := ({ frames := 11, cells := 1, slots := 6, locals := 220 } : Room)
abbrev wu_X5_checkTrip : List Cond := (Cond.code yX5_checkTrip cX5_checkTrip 1 none) :: wsU
theorem hy_X5_checkTrip : hyOk yX5_checkTrip 0 := by decide +kernel
set_option maxRecDepth 20000 in
set_option maxHeartbeats 4000000 in
theorem c_X5_checkTrip (n : Nat) (G : Gt) (σ : Mem) (o0 : Nat) (ho0 : Ok o0 5) (r : Unit ⊕ String) (σ' : Mem) (h : sp_X5_checkTrip n σ o0 = some (r, σ')) : MM yX5_checkTrip wu_X5_checkTrip rm_X5_checkTrip [.ref (G.2.2 (o0))] G σ (ocv r) σ' := by
  refine mm_of (cc := cX5_checkTrip) (maxL := 1) (ret := none) (by decide +kernel) rfl (Nat.le_of_ble_eq_true rfl) (fun x C X hg => ?_)
  have C : Cx x cX5_checkTrip 1 RX5 none [] wu_X5_checkTrip rm_X5_checkTrip G.1 (tysF G) := C
  unfold sp_X5_checkTrip at h
  show J x [(0, .ref (G.2.2 (o0)))] [] σ 0 0 0
  refine j_aload_n C dX5_checkTrip_0 0 rfl ?_
  refine j_get C X dX5_checkTrip_1 ho0 rfl rfl 0 (by decide) (fin := true) rfl rfl in_X5 (mU u_208) ?_
  refine j_get C X dX5_checkTrip_4 (sh_5_0 ho0) rfl rfl 3 (by decide) (fin := true) rfl rfl in_X1 (mU u_215) ?_
  obtain ⟨⟨r1, σ2⟩, h3, h⟩ := ob h
  try dsimp only at h
  refine j_callV C X (c_X3_isOn n G σ ((rf (rf o0 0) 3)) (sh_1_3 (sh_5_0 ho0)) _ _ h3) dX5_checkTrip_7 (gV u_216 u_31 u_32 u_25 u_30) rfl hy_X3_isOn rfl (sh_1_3 (sh_5_0 ho0)) rfl (ci := 7) rfl rfl rfl (by decide) (Nat.le_of_ble_eq_true rfl) (by decide) ?_
  refine j_if_ne C dX5_checkTrip_10 24 (by decide) (fun c4 => ?_) (fun c4 => ?_)
  · have h := (if_neg c4).symm.trans h
    exact j_return C dX5_checkTrip_24 (e_ov h hg) (by decide) (by decide)
  · have h := (if_pos c4).symm.trans h
    exact j_throwXW C ["java/lang/RuntimeException", "java/lang/Exception"] nse_0 nse_1 nse_2 nse_5 dX5_checkTrip_13 dX5_checkTrip_16 dX5_checkTrip_17 dX5_checkTrip_20 dX5_checkTrip_23 (text := "the hoist has no trip") (by decide +kernel) (by decide +kernel) (mU u_217) (mU u_218) (by decide +kernel) tw_125 tn_125 (by decide) (tgc tg_125) (by decide) (Nat.le_of_ble_eq_true rfl) (by decide) (by decide) X.grow (e_xv h hg)
def sp_X5_request (n : Nat) (σ : Mem) (o0 : Nat) (a1 : Int32) (a2 : Int32) (a3 : Int32) : Option ((Int32 ⊕ String) × Mem) := if (σ.1 (rf (rf o0 0) 2) 1) < (8 : Int32) then ((sp_X4_add n σ ((rf (rf o0 0) 2)) ((σ.1 (rf o0 0) 11)) a1 a2 a3).bind fun q => match q with | (_, σ3) => (lm (wi σ3 (rf o0 0) 11 ((σ3.1 (rf o0 0) 11) + (1 : Int32))) fun σ5 => some (.inl ((σ.1 (rf o0 0) 11)), σ5))) else some (.inr "java/lang/IllegalStateException", σ)
abbrev rm_X5_request : Room := ({ frames := 12, cells := 1, slots := 6, locals := 248 } : Room)
abbrev wu_X5_request : List Cond := (Cond.code yX5_request cX5_request 5 (some .int)) :: wsU
theorem hy_X5_request : hyOk yX5_request 3 := by decide +kernel
set_option maxRecDepth 20000 in
set_option maxHeartbeats 4000000 in
theorem c_X5_request (n : Nat) (G : Gt) (σ : Mem) (o0 : Nat) (a1 : Int32) (a2 : Int32) (a3 : Int32) (ho0 : Ok o0 5) (r : Int32 ⊕ String) (σ' : Mem) (h : sp_X5_request n σ o0 a1 a2 a3 = some (r, σ')) : MM yX5_request wu_X5_request rm_X5_request [.ref (G.2.2 (o0)), .int (a1), .int (a2), .int (a3)] G σ (oc r) σ' := by
  refine mm_of (cc := cX5_request) (maxL := 5) (ret := (some .int)) (by decide +kernel) rfl (Nat.le_of_ble_eq_true rfl) (fun x C X hg => ?_)
  have C : Cx x cX5_request 5 RX5 (some .int) [] wu_X5_request rm_X5_request G.1 (tysF G) := C
  unfold sp_X5_request at h
  show J x [(0, .ref (G.2.2 (o0))), (1, .int (a1)), (2, .int (a2)), (3, .int (a3))] [] σ 0 0 0
  refine j_aload_n C dX5_request_0 0 rfl ?_
  refine j_get C X dX5_request_1 ho0 rfl rfl 0 (by decide) (fin := true) rfl rfl in_X5 (mU u_208) ?_
  refine j_get C X dX5_request_4 (sh_5_0 ho0) rfl rfl 2 (by decide) (fin := true) rfl rfl in_X1 (mU u_219) ?_
  refine j_get C X dX5_request_7 (sh_1_2 (sh_5_0 ho0)) rfl rfl 1 (by decide) (fin := false) rfl rfl in_X4 (mU u_220) ?_
  refine j_bipush C dX5_request_10 ((8 : Int32)) (by decide) ?_
  refine j_icmp_lt C dX5_request_12 26 (by decide) (fun c1 => ?_) (fun c1 => ?_)
  · have h := (if_pos c1).symm.trans h
    refine j_aload_n C dX5_request_26 0 rfl ?_
    refine j_get C X dX5_request_27 ho0 rfl rfl 0 (by decide) (fin := true) rfl rfl in_X5 (mU u_208) ?_
    refine j_get C X dX5_request_30 (sh_5_0 ho0) rfl rfl 11 (by decide) (fin := false) rfl rfl in_X1 (mU u_221) ?_
    refine j_istore C dX5_request_33 (by decide) [(4, .int ((σ.1 (rf o0 0) 11))), (0, .ref (G.2.2 (o0))), (1, .int (a1)), (2, .int (a2)), (3, .int (a3))] rfl ?_
    refine j_aload_n C dX5_request_35 1 rfl ?_
    refine j_get C X dX5_request_36 ho0 rfl rfl 0 (by decide) (fin := true) rfl rfl in_X5 (mU u_208) ?_
    refine j_get C X dX5_request_39 (sh_5_0 ho0) rfl rfl 2 (by decide) (fin := true) rfl rfl in_X1 (mU u_219) ?_
    refine j_iload C dX5_request_42 0 rfl ?_
    refine j_iload_n C dX5_request_44 2 rfl ?_
    refine j_iload_n C dX5_request_45 3 rfl ?_
    refine j_iload_n C dX5_request_46 4 rfl ?_
    obtain ⟨⟨r2, σ3⟩, h4, h⟩ := ob h
    try dsimp only at h
    refine j_callV C X (c_X4_add n G σ ((rf (rf o0 0) 2)) ((σ.1 (rf o0 0) 11)) a1 a2 a3 (sh_1_2 (sh_5_0 ho0)) _ _ h4) dX5_request_47 (gV u_222 u_224 u_225 u_45 u_223) rfl hy_X4_add rfl (sh_1_2 (sh_5_0 ho0)) rfl (ci := 8) rfl rfl rfl (by decide) (Nat.le_of_ble_eq_true rfl) (by decide) ?_
    refine j_aload_n C dX5_request_50 1 rfl ?_
    refine j_get C X dX5_request_51 ho0 rfl rfl 0 (by decide) (fin := true) rfl rfl in_X5 (mU u_208) ?_
    refine j_dup C dX5_request_54 rfl ?_
    refine j_get C X dX5_request_55 (sh_5_0 ho0) rfl rfl 11 (by decide) (fin := false) rfl rfl in_X1 (mU u_221) ?_
    refine j_iconst C dX5_request_58 ((1 : Int32)) (by decide) ?_
    refine j_iadd C dX5_request_59 ?_
    obtain ⟨σ5, e6, h⟩ := lm_e h
    refine j_put C X dX5_request_60 (sh_5_0 ho0) (ty0 := tyX1) rfl rfl 11 (by decide) rfl rfl (Nat.le_of_ble_eq_true rfl) tyX1_ok nmX1 (ty := .int) rfl rfl rfl in_X1 (mU u_221) e6 ?_
    refine j_iload C dX5_request_63 0 rfl ?_
    exact j_ireturn C dX5_request_65 (e_oi h hg) (by decide) (by decide)
  · have h := (if_neg c1).symm.trans h
    exact j_throwW C ["java/lang/RuntimeException", "java/lang/Exception"] dX5_request_15 dX5_request_18 dX5_request_19 dX5_request_22 dX5_request_25 (text := "too many requests are waiting") (by decide +kernel) (by decide +kernel) (mU u_226) (mU u_227) (by decide +kernel) tw_57 tn_57 (by decide) (tgc tg_57) (by decide) (Nat.le_of_ble_eq_true rfl) (by decide) (by decide) X.grow (e_x h hg)
def sp_X5_addLevel (n : Nat) (σ : Mem) (o0 : Nat) (a1 : Int32) (a2 : Int32) (a3 : Int32) (a4 : Int32) : Option ((Int32 ⊕ String) × Mem) := ((sp_X5_checkRange n σ a1 ((10 : Int32)) ((2000 : Int32))).bind fun q => match q with | (.inl _, σ2) => ((sp_X5_checkRange n σ2 a2 ((1 : Int32)) ((500 : Int32))).bind fun q => match q with | (.inl _, σ5) => ((sp_X5_checkRange n σ5 a3 ((1 : Int32)) ((20 : Int32))).bind fun q => match q with | (.inl _, σ8) => ((sp_X5_checkRange n σ8 a4 ((0 : Int32)) ((50 : Int32))).bind fun q => match q with | (.inl _, σ11) => ((sp_X1_place n σ11 ((rf o0 0)) ((σ11.1 (rf o0 0) 4))).bind fun q => match q with | (r13, σ14) => if Ok r13 0 then if (σ14.1 r13 0) < a1 then if (6 : Int32) ≤ (σ14.1 (rf o0 0) 4) then some (.inr "java/lang/IllegalStateException", σ14) else if (σ14.1 (rf o0 0) 8) ≤ 0 then (lm (wi σ14 (rf o0 0) 4 ((σ14.1 (rf o0 0) 4) + (1 : Int32))) fun σ20 => ((sp_X1_place n σ20 ((rf o0 0)) ((σ20.1 (rf o0 0) 4))).bind fun q => match q with | (r22, σ23) => if Ok r22 0 then ((sp_X0_open n σ23 r22 a1 a2 a3 a4).bind fun q => match q with | (_, σ27) => ((sp_X1_spreadAir n σ27 ((rf o0 0))).bind fun q => match q with | (_, σ30) => some (.inl ((σ30.1 (rf o0 0) 4)), σ30))) else none)) else some (.inr "java/lang/IllegalStateException", σ14) else some (.inr "java/lang/IllegalArgumentException", σ14) else none) | (.inr E, σ11) => some (.inr E, σ11)) | (.inr E, σ8) => some (.inr E, σ8)) | (.inr E, σ5) => some (.inr E, σ5)) | (.inr E, σ2) => some (.inr E, σ2))
abbrev rm_X5_addLevel : Room := ({ frames := 13, cells := 5, slots := 30, locals := 267 } : Room)
abbrev wu_X5_addLevel : List Cond := (Cond.code yX5_addLevel cX5_addLevel 5 (some .int)) :: wsU
theorem hy_X5_addLevel : hyOk yX5_addLevel 4 := by decide +kernel
set_option maxRecDepth 20000 in
set_option maxHeartbeats 4000000 in
theorem c_X5_addLevel (n : Nat) (G : Gt) (σ : Mem) (o0 : Nat) (a1 : Int32) (a2 : Int32) (a3 : Int32) (a4 : Int32) (ho0 : Ok o0 5) (r : Int32 ⊕ String) (σ' : Mem) (h : sp_X5_addLevel n σ o0 a1 a2 a3 a4 = some (r, σ')) : MM yX5_addLevel wu_X5_addLevel rm_X5_addLevel [.ref (G.2.2 (o0)), .int (a1), .int (a2), .int (a3), .int (a4)] G σ (oc r) σ' := by
  refine mm_of (cc := cX5_addLevel) (maxL := 5) (ret := (some .int)) (by decide +kernel) rfl (Nat.le_of_ble_eq_true rfl) (fun x C X hg => ?_)
  have C : Cx x cX5_addLevel 5 RX5 (some .int) [] wu_X5_addLevel rm_X5_addLevel G.1 (tysF G) := C
  unfold sp_X5_addLevel at h
  show J x [(0, .ref (G.2.2 (o0))), (1, .int (a1)), (2, .int (a2)), (3, .int (a3)), (4, .int (a4))] [] σ 0 0 0
  refine j_iload_n C dX5_addLevel_0 1 rfl ?_
  refine j_bipush C dX5_addLevel_1 ((10 : Int32)) (by decide) ?_
  refine j_sipush C dX5_addLevel_3 ((2000 : Int32)) (by decide) ?_
  obtain ⟨⟨r1, σ2⟩, h3, h⟩ := ob h
  try dsimp only at h
  rcases r1 with r1 | r1 <;> (try dsimp only at h)
  · refine j_callS C X (c_X5_checkRange n G σ a1 ((10 : Int32)) ((2000 : Int32))  _ _ h3) dX5_addLevel_6 (gS u_228 u_230 u_211 u_229) rfl hy_X5_checkRange rfl rfl (by decide) (Nat.le_of_ble_eq_true rfl) (by decide) ?_
    refine j_iload_n C dX5_addLevel_9 2 rfl ?_
    refine j_iconst C dX5_addLevel_10 ((1 : Int32)) (by decide) ?_
    refine j_sipush C dX5_addLevel_11 ((500 : Int32)) (by decide) ?_
    obtain ⟨⟨r4, σ5⟩, h6, h⟩ := ob h
    try dsimp only at h
    rcases r4 with r4 | r4 <;> (try dsimp only at h)
    · refine j_callS C X (c_X5_checkRange n G σ2 a2 ((1 : Int32)) ((500 : Int32))  _ _ h6) dX5_addLevel_14 (gS u_228 u_230 u_211 u_229) rfl hy_X5_checkRange rfl rfl (by decide) (Nat.le_of_ble_eq_true rfl) (by decide) ?_
      refine j_iload_n C dX5_addLevel_17 3 rfl ?_
      refine j_iconst C dX5_addLevel_18 ((1 : Int32)) (by decide) ?_
      refine j_bipush C dX5_addLevel_19 ((20 : Int32)) (by decide) ?_
      obtain ⟨⟨r7, σ8⟩, h9, h⟩ := ob h
      try dsimp only at h
      rcases r7 with r7 | r7 <;> (try dsimp only at h)
      · refine j_callS C X (c_X5_checkRange n G σ5 a3 ((1 : Int32)) ((20 : Int32))  _ _ h9) dX5_addLevel_21 (gS u_228 u_230 u_211 u_229) rfl hy_X5_checkRange rfl rfl (by decide) (Nat.le_of_ble_eq_true rfl) (by decide) ?_
        refine j_iload C dX5_addLevel_24 4 rfl ?_
        refine j_iconst C dX5_addLevel_26 ((0 : Int32)) (by decide) ?_
        refine j_bipush C dX5_addLevel_27 ((50 : Int32)) (by decide) ?_
        obtain ⟨⟨r10, σ11⟩, h12, h⟩ := ob h
        try dsimp only at h
        rcases r10 with r10 | r10 <;> (try dsimp only at h)
        · refine j_callS C X (c_X5_checkRange n G σ8 a4 ((0 : Int32)) ((50 : Int32))  _ _ h12) dX5_addLevel_29 (gS u_228 u_230 u_211 u_229) rfl hy_X5_checkRange rfl rfl (by decide) (Nat.le_of_ble_eq_true rfl) (by decide) ?_
          refine j_iload_n C dX5_addLevel_32 1 rfl ?_
          refine j_aload_n C dX5_addLevel_33 0 rfl ?_
          refine j_get C X dX5_addLevel_34 ho0 rfl rfl 0 (by decide) (fin := true) rfl rfl in_X5 (mU u_208) ?_
          refine j_aload_n C dX5_addLevel_37 0 rfl ?_
          refine j_get C X dX5_addLevel_38 ho0 rfl rfl 0 (by decide) (fin := true) rfl rfl in_X5 (mU u_208) ?_
          refine j_get C X dX5_addLevel_41 (sh_5_0 ho0) rfl rfl 4 (by decide) (fin := false) rfl rfl in_X1 (mU u_209) ?_
          obtain ⟨⟨r13, σ14⟩, h15, h⟩ := ob h
          try dsimp only at h
          obtain ⟨k16, h⟩ := sg h
          refine j_callV C X (c_X1_place n G σ11 ((rf o0 0)) ((σ11.1 (rf o0 0) 4)) (sh_5_0 ho0) _ _ h15) dX5_addLevel_44 (gV u_231 u_100 u_101 u_98 u_99) rfl hy_X1_place rfl (sh_5_0 ho0) rfl (ci := 5) rfl rfl rfl (by decide) (Nat.le_of_ble_eq_true rfl) (by decide) ?_
          refine j_get C X dX5_addLevel_47 k16 rfl rfl 0 (by decide) (fin := false) rfl rfl in_X0 (mU u_232) ?_
          refine j_icmp_gt C dX5_addLevel_50 63 (by decide) (fun c17 => ?_) (fun c17 => ?_)
          · have h := (if_pos c17).symm.trans h
            refine j_aload_n C dX5_addLevel_63 0 rfl ?_
            refine j_get C X dX5_addLevel_64 ho0 rfl rfl 0 (by decide) (fin := true) rfl rfl in_X5 (mU u_208) ?_
            refine j_get C X dX5_addLevel_67 (sh_5_0 ho0) rfl rfl 4 (by decide) (fin := false) rfl rfl in_X1 (mU u_209) ?_
            refine j_bipush C dX5_addLevel_70 ((6 : Int32)) (by decide) ?_
            refine j_icmp_ge C dX5_addLevel_72 85 (by decide) (fun c18 => ?_) (fun c18 => ?_)
            · have h := (if_pos c18).symm.trans h
              exact j_throw C ["java/lang/RuntimeException", "java/lang/Exception"] dX5_addLevel_85 dX5_addLevel_88 dX5_addLevel_89 dX5_addLevel_91 dX5_addLevel_94 (text := "no more levels can be added") (by decide +kernel) (by decide +kernel) (mU u_226) (mU u_227) (by decide +kernel) tw_57 tn_57 (by decide) (tgc tg_57) (by decide) (Nat.le_of_ble_eq_true rfl) (by decide) (by decide) X.grow (e_x h hg)
            · have h := (if_neg c18).symm.trans h
              refine j_aload_n C dX5_addLevel_75 0 rfl ?_
              refine j_get C X dX5_addLevel_76 ho0 rfl rfl 0 (by decide) (fin := true) rfl rfl in_X5 (mU u_208) ?_
              refine j_get C X dX5_addLevel_79 (sh_5_0 ho0) rfl rfl 8 (by decide) (fin := false) rfl rfl in_X1 (mU u_233) ?_
              refine j_if_le C dX5_addLevel_82 95 (by decide) (fun c19 => ?_) (fun c19 => ?_)
              · have h := (if_pos c19).symm.trans h
                refine j_aload_n C dX5_addLevel_95 0 rfl ?_
                refine j_get C X dX5_addLevel_96 ho0 rfl rfl 0 (by decide) (fin := true) rfl rfl in_X5 (mU u_208) ?_
                refine j_dup C dX5_addLevel_99 rfl ?_
                refine j_get C X dX5_addLevel_100 (sh_5_0 ho0) rfl rfl 4 (by decide) (fin := false) rfl rfl in_X1 (mU u_209) ?_
                refine j_iconst C dX5_addLevel_103 ((1 : Int32)) (by decide) ?_
                refine j_iadd C dX5_addLevel_104 ?_
                obtain ⟨σ20, e21, h⟩ := lm_e h
                refine j_put C X dX5_addLevel_105 (sh_5_0 ho0) (ty0 := tyX1) rfl rfl 4 (by decide) rfl rfl (Nat.le_of_ble_eq_true rfl) tyX1_ok nmX1 (ty := .int) rfl rfl rfl in_X1 (mU u_209) e21 ?_
                refine j_aload_n C dX5_addLevel_108 0 rfl ?_
                refine j_get C X dX5_addLevel_109 ho0 rfl rfl 0 (by decide) (fin := true) rfl rfl in_X5 (mU u_208) ?_
                refine j_aload_n C dX5_addLevel_112 0 rfl ?_
                refine j_get C X dX5_addLevel_113 ho0 rfl rfl 0 (by decide) (fin := true) rfl rfl in_X5 (mU u_208) ?_
                refine j_get C X dX5_addLevel_116 (sh_5_0 ho0) rfl rfl 4 (by decide) (fin := false) rfl rfl in_X1 (mU u_209) ?_
                obtain ⟨⟨r22, σ23⟩, h24, h⟩ := ob h
                try dsimp only at h
                obtain ⟨k25, h⟩ := sg h
                refine j_callV C X (c_X1_place n G σ20 ((rf o0 0)) ((σ20.1 (rf o0 0) 4)) (sh_5_0 ho0) _ _ h24) dX5_addLevel_119 (gV u_231 u_100 u_101 u_98 u_99) rfl hy_X1_place rfl (sh_5_0 ho0) rfl (ci := 5) rfl rfl rfl (by decide) (Nat.le_of_ble_eq_true rfl) (by decide) ?_
                refine j_iload_n C dX5_addLevel_122 1 rfl ?_
                refine j_iload_n C dX5_addLevel_123 2 rfl ?_
                refine j_iload_n C dX5_addLevel_124 3 rfl ?_
                refine j_iload C dX5_addLevel_125 4 rfl ?_
                obtain ⟨⟨r26, σ27⟩, h28, h⟩ := ob h
                try dsimp only at h
                refine j_callV C X (c_X0_open n G σ23 r22 a1 a2 a3 a4 k25 _ _ h28) dX5_addLevel_127 (gV u_234 u_236 u_237 u_77 u_235) rfl hy_X0_open rfl k25 rfl (ci := 4) rfl rfl rfl (by decide) (Nat.le_of_ble_eq_true rfl) (by decide) ?_
                refine j_aload_n C dX5_addLevel_130 0 rfl ?_
                refine j_get C X dX5_addLevel_131 ho0 rfl rfl 0 (by decide) (fin := true) rfl rfl in_X5 (mU u_208) ?_
                obtain ⟨⟨r29, σ30⟩, h31, h⟩ := ob h
                try dsimp only at h
                refine j_callV C X (c_X1_spreadAir n G σ27 ((rf o0 0)) (sh_5_0 ho0) _ _ h31) dX5_addLevel_134 (gV u_238 u_240 u_241 u_98 u_239) rfl hy_X1_spreadAir rfl (sh_5_0 ho0) rfl (ci := 5) rfl rfl rfl (by decide) (Nat.le_of_ble_eq_true rfl) (by decide) ?_
                refine j_aload_n C dX5_addLevel_137 0 rfl ?_
                refine j_get C X dX5_addLevel_138 ho0 rfl rfl 0 (by decide) (fin := true) rfl rfl in_X5 (mU u_208) ?_
                refine j_get C X dX5_addLevel_141 (sh_5_0 ho0) rfl rfl 4 (by decide) (fin := false) rfl rfl in_X1 (mU u_209) ?_
                exact j_ireturn C dX5_addLevel_144 (e_oi h hg) (by decide) (by decide)
              · have h := (if_neg c19).symm.trans h
                exact j_throw C ["java/lang/RuntimeException", "java/lang/Exception"] dX5_addLevel_85 dX5_addLevel_88 dX5_addLevel_89 dX5_addLevel_91 dX5_addLevel_94 (text := "no more levels can be added") (by decide +kernel) (by decide +kernel) (mU u_226) (mU u_227) (by decide +kernel) tw_57 tn_57 (by decide) (tgc tg_57) (by decide) (Nat.le_of_ble_eq_true rfl) (by decide) (by decide) X.grow (e_x h hg)
          · have h := (if_neg c17).symm.trans h
            exact j_throw C ["java/lang/RuntimeException", "java/lang/Exception"] dX5_addLevel_53 dX5_addLevel_56 dX5_addLevel_57 dX5_addLevel_59 dX5_addLevel_62 (text := "not deeper than the level above") (by decide +kernel) (by decide +kernel) (mU u_204) (mU u_205) (by decide +kernel) tw_47 tn_47 (by decide) (tgc tg_47) (by decide) (Nat.le_of_ble_eq_true rfl) (by decide) (by decide) X.grow (e_x h hg)
        · exact j_escS C X (c_X5_checkRange n G σ8 a4 ((0 : Int32)) ((50 : Int32))  _ _ h12) dX5_addLevel_29 (gS u_228 u_230 u_211 u_229) rfl hy_X5_checkRange rfl rfl (by decide) (Nat.le_of_ble_eq_true rfl) (by decide) (e_x h hg)
      · exact j_escS C X (c_X5_checkRange n G σ5 a3 ((1 : Int32)) ((20 : Int32))  _ _ h9) dX5_addLevel_21 (gS u_228 u_230 u_211 u_229) rfl hy_X5_checkRange rfl rfl (by decide) (Nat.le_of_ble_eq_true rfl) (by decide) (e_x h hg)
    · exact j_escS C X (c_X5_checkRange n G σ2 a2 ((1 : Int32)) ((500 : Int32))  _ _ h6) dX5_addLevel_14 (gS u_228 u_230 u_211 u_229) rfl hy_X5_checkRange rfl rfl (by decide) (Nat.le_of_ble_eq_true rfl) (by decide) (e_x h hg)
  · exact j_escS C X (c_X5_checkRange n G σ a1 ((10 : Int32)) ((2000 : Int32))  _ _ h3) dX5_addLevel_6 (gS u_228 u_230 u_211 u_229) rfl hy_X5_checkRange rfl rfl (by decide) (Nat.le_of_ble_eq_true rfl) (by decide) (e_x h hg)
def sp_X5_levelCount (n : Nat) (σ : Mem) (o0 : Nat) : Option (Int32 × Mem) := some ((σ.1 (rf o0 0) 4), σ)
abbrev rm_X5_levelCount : Room := ({ frames := 10, cells := 0, slots := 0, locals := 200 } : Room)
abbrev wu_X5_levelCount : List Cond := (Cond.code yX5_levelCount cX5_levelCount 1 (some .int)) :: wsU
theorem hy_X5_levelCount : hyOk yX5_levelCount 0 := by decide +kernel
set_option maxRecDepth 20000 in
set_option maxHeartbeats 4000000 in
theorem c_X5_levelCount (n : Nat) (G : Gt) (σ : Mem) (o0 : Nat) (ho0 : Ok o0 5) (r : Int32) (σ' : Mem) (h : sp_X5_levelCount n σ o0 = some (r, σ')) : MM yX5_levelCount wu_X5_levelCount rm_X5_levelCount [.ref (G.2.2 (o0))] G σ (.inl (some (.int r))) σ' := by
  refine mm_of (cc := cX5_levelCount) (maxL := 1) (ret := (some .int)) (by decide +kernel) rfl (Nat.le_of_ble_eq_true rfl) (fun x C X hg => ?_)
  have C : Cx x cX5_levelCount 1 RX5 (some .int) [] wu_X5_levelCount rm_X5_levelCount G.1 (tysF G) := C
  unfold sp_X5_levelCount at h
  show J x [(0, .ref (G.2.2 (o0)))] [] σ 0 0 0
  refine j_aload_n C dX5_levelCount_0 0 rfl ?_
  refine j_get C X dX5_levelCount_1 ho0 rfl rfl 0 (by decide) (fin := true) rfl rfl in_X5 (mU u_208) ?_
  refine j_get C X dX5_levelCount_4 (sh_5_0 ho0) rfl rfl 4 (by decide) (fin := false) rfl rfl in_X1 (mU u_209) ?_
  exact j_ireturn C dX5_levelCount_7 (e_i h hg) (by decide) (by decide)
def sp_X5_depthOf (n : Nat) (σ : Mem) (o0 : Nat) (a1 : Int32) : Option ((Int32 ⊕ String) × Mem) := ((sp_X5_checkPlace n σ o0 a1).bind fun q => match q with | (.inl _, σ2) => ((sp_X1_place n σ2 ((rf o0 0)) a1).bind fun q => match q with | (r4, σ5) => if Ok r4 0 then some (.inl ((σ5.1 r4 0)), σ5) else none) | (.inr E, σ2) => some (.inr E, σ2))
abbrev rm_X5_depthOf : Room := ({ frames := 11, cells := 1, slots := 6, locals := 221 } : Room)
abbrev wu_X5_depthOf : List Cond := (Cond.code yX5_depthOf cX5_depthOf 2 (some .int)) :: wsU
theorem hy_X5_depthOf : hyOk yX5_depthOf 1 := by decide +kernel
set_option maxRecDepth 20000 in
set_option maxHeartbeats 4000000 in
theorem c_X5_depthOf (n : Nat) (G : Gt) (σ : Mem) (o0 : Nat) (a1 : Int32) (ho0 : Ok o0 5) (r : Int32 ⊕ String) (σ' : Mem) (h : sp_X5_depthOf n σ o0 a1 = some (r, σ')) : MM yX5_depthOf wu_X5_depthOf rm_X5_depthOf [.ref (G.2.2 (o0)), .int (a1)] G σ (oc r) σ' := by
  refine mm_of (cc := cX5_depthOf) (maxL := 2) (ret := (some .int)) (by decide +kernel) rfl (Nat.le_of_ble_eq_true rfl) (fun x C X hg => ?_)
  have C : Cx x cX5_depthOf 2 RX5 (some .int) [] wu_X5_depthOf rm_X5_depthOf G.1 (tysF G) := C
  unfold sp_X5_depthOf at h
  show J x [(0, .ref (G.2.2 (o0))), (1, .int (a1))] [] σ 0 0 0
  refine j_aload_n C dX5_depthOf_0 0 rfl ?_
  refine j_iload_n C dX5_depthOf_1 1 rfl ?_
  obtain ⟨⟨r1, σ2⟩, h3, h⟩ := ob h
  try dsimp only at h
  rcases r1 with r1 | r1 <;> (try dsimp only at h)
  · refine j_callV C X (c_X5_checkPlace n G σ o0 a1 ho0 _ _ h3) dX5_depthOf_2 (gV u_210 u_213 u_214 u_211 u_212) rfl hy_X5_checkPlace rfl ho0 rfl (ci := 9) rfl rfl rfl (by decide) (Nat.le_of_ble_eq_true rfl) (by decide) ?_
    refine j_aload_n C dX5_depthOf_5 0 rfl ?_
    refine j_get C X dX5_depthOf_6 ho0 rfl rfl 0 (by decide) (fin := true) rfl rfl in_X5 (mU u_208) ?_
    refine j_iload_n C dX5_depthOf_9 1 rfl ?_
    obtain ⟨⟨r4, σ5⟩, h6, h⟩ := ob h
    try dsimp only at h
    obtain ⟨k7, h⟩ := sg h
    refine j_callV C X (c_X1_place n G σ2 ((rf o0 0)) a1 (sh_5_0 ho0) _ _ h6) dX5_depthOf_10 (gV u_231 u_100 u_101 u_98 u_99) rfl hy_X1_place rfl (sh_5_0 ho0) rfl (ci := 5) rfl rfl rfl (by decide) (Nat.le_of_ble_eq_true rfl) (by decide) ?_
    refine j_get C X dX5_depthOf_13 k7 rfl rfl 0 (by decide) (fin := false) rfl rfl in_X0 (mU u_232) ?_
    exact j_ireturn C dX5_depthOf_16 (e_oi h hg) (by decide) (by decide)
  · exact j_escV C X (c_X5_checkPlace n G σ o0 a1 ho0 _ _ h3) dX5_depthOf_2 (gV u_210 u_213 u_214 u_211 u_212) rfl hy_X5_checkPlace rfl ho0 rfl (ci := 9) rfl rfl rfl (by decide) (Nat.le_of_ble_eq_true rfl) (by decide) (e_x h hg)
def sp_X5_setFan (n : Nat) (σ : Mem) (o0 : Nat) (a1 : Int32) : Option ((Int32 ⊕ String) × Mem) := ((sp_X5_checkRange n σ a1 ((0 : Int32)) ((1000 : Int32))).bind fun q => match q with | (.inl _, σ2) => (lm (wi σ2 (rf o0 0) 5 a1) fun σ4 => ((sp_X1_spreadAir n σ4 ((rf o0 0))).bind fun q => match q with | (_, σ7) => some (.inl ((σ2.1 (rf o0 0) 5)), σ7))) | (.inr E, σ2) => some (.inr E, σ2))
abbrev rm_X5_setFan : Room := ({ frames := 13, cells := 1, slots := 6, locals := 267 } : Room)
abbrev wu_X5_setFan : List Cond := (Cond.code yX5_setFan cX5_setFan 3 (some .int)) :: wsU
theorem hy_X5_setFan : hyOk yX5_setFan 1 := by decide +kernel
set_option maxRecDepth 20000 in
set_option maxHeartbeats 4000000 in
theorem c_X5_setFan (n : Nat) (G : Gt) (σ : Mem) (o0 : Nat) (a1 : Int32) (ho0 : Ok o0 5) (r : Int32 ⊕ String) (σ' : Mem) (h : sp_X5_setFan n σ o0 a1 = some (r, σ')) : MM yX5_setFan wu_X5_setFan rm_X5_setFan [.ref (G.2.2 (o0)), .int (a1)] G σ (oc r) σ' := by
  refine mm_of (cc := cX5_setFan) (maxL := 3) (ret := (some .int)) (by decide +kernel) rfl (Nat.le_of_ble_eq_true rfl) (fun x C X hg => ?_)
  have C : Cx x cX5_setFan 3 RX5 (some .int) [] wu_X5_setFan rm_X5_setFan G.1 (tysF G) := C
  unfold sp_X5_setFan at h
  show J x [(0, .ref (G.2.2 (o0))), (1, .int (a1))] [] σ 0 0 0
  refine j_iload_n C dX5_setFan_0 1 rfl ?_
  refine j_iconst C dX5_setFan_1 ((0 : Int32)) (by decide) ?_
  refine j_sipush C dX5_setFan_2 ((1000 : Int32)) (by decide) ?_
  obtain ⟨⟨r1, σ2⟩, h3, h⟩ := ob h
  try dsimp only at h
  rcases r1 with r1 | r1 <;> (try dsimp only at h)
  · refine j_callS C X (c_X5_checkRange n G σ a1 ((0 : Int32)) ((1000 : Int32))  _ _ h3) dX5_setFan_5 (gS u_228 u_230 u_211 u_229) rfl hy_X5_checkRange rfl rfl (by decide) (Nat.le_of_ble_eq_true rfl) (by decide) ?_
    refine j_aload_n C dX5_setFan_8 0 rfl ?_
    refine j_get C X dX5_setFan_9 ho0 rfl rfl 0 (by decide) (fin := true) rfl rfl in_X5 (mU u_208) ?_
    refine j_get C X dX5_setFan_12 (sh_5_0 ho0) rfl rfl 5 (by decide) (fin := false) rfl rfl in_X1 (mU u_242) ?_
    refine j_istore_n C dX5_setFan_15 (by decide) [(2, .int ((σ2.1 (rf o0 0) 5))), (0, .ref (G.2.2 (o0))), (1, .int (a1))] rfl ?_
    refine j_aload_n C dX5_setFan_16 1 rfl ?_
    refine j_get C X dX5_setFan_17 ho0 rfl rfl 0 (by decide) (fin := true) rfl rfl in_X5 (mU u_208) ?_
    refine j_iload_n C dX5_setFan_20 2 rfl ?_
    obtain ⟨σ4, e5, h⟩ := lm_e h
    refine j_put C X dX5_setFan_21 (sh_5_0 ho0) (ty0 := tyX1) rfl rfl 5 (by decide) rfl rfl (Nat.le_of_ble_eq_true rfl) tyX1_ok nmX1 (ty := .int) rfl rfl rfl in_X1 (mU u_242) e5 ?_
    refine j_aload_n C dX5_setFan_24 1 rfl ?_
    refine j_get C X dX5_setFan_25 ho0 rfl rfl 0 (by decide) (fin := true) rfl rfl in_X5 (mU u_208) ?_
    obtain ⟨⟨r6, σ7⟩, h8, h⟩ := ob h
    try dsimp only at h
    refine j_callV C X (c_X1_spreadAir n G σ4 ((rf o0 0)) (sh_5_0 ho0) _ _ h8) dX5_setFan_28 (gV u_238 u_240 u_241 u_98 u_239) rfl hy_X1_spreadAir rfl (sh_5_0 ho0) rfl (ci := 5) rfl rfl rfl (by decide) (Nat.le_of_ble_eq_true rfl) (by decide) ?_
    refine j_iload_n C dX5_setFan_31 0 rfl ?_
    exact j_ireturn C dX5_setFan_32 (e_oi h hg) (by decide) (by decide)
  · exact j_escS C X (c_X5_checkRange n G σ a1 ((0 : Int32)) ((1000 : Int32))  _ _ h3) dX5_setFan_5 (gS u_228 u_230 u_211 u_229) rfl hy_X5_checkRange rfl rfl (by decide) (Nat.le_of_ble_eq_true rfl) (by decide) (e_x h hg)
def sp_X5_setDoor (n : Nat) (σ : Mem) (o0 : Nat) (a1 : Int32) (a2 : Int32) : Option ((Int32 ⊕ String) × Mem) := ((sp_X5_checkLevel n σ o0 a1).bind fun q => match q with | (.inl _, σ2) => ((sp_X1_place n σ2 ((rf o0 0)) a1).bind fun q => match q with | (r4, σ5) => if Ok r4 0 then if a2 = 0 ∨ a2 = 1 then (lm (wi σ5 r4 4 a2) fun σ8 => ((sp_X1_spreadAir n σ8 ((rf o0 0))).bind fun q => match q with | (_, σ12) => if (σ5.1 r4 4) = 0 ∨ (σ5.1 r4 4) = 1 then some (.inl ((σ5.1 r4 4)), σ12) else none)) else none else none) | (.inr E, σ2) => some (.inr E, σ2))
abbrev rm_X5_setDoor : Room := ({ frames := 13, cells := 1, slots := 6, locals := 267 } : Room)
abbrev wu_X5_setDoor : List Cond := (Cond.code yX5_setDoor cX5_setDoor 5 (some .boolean)) :: wsU
theorem hy_X5_setDoor : hyOk yX5_setDoor 2 := by decide +kernel
set_option maxRecDepth 20000 in
set_option maxHeartbeats 4000000 in
theorem c_X5_setDoor (n : Nat) (G : Gt) (σ : Mem) (o0 : Nat) (a1 : Int32) (a2 : Int32) (ho0 : Ok o0 5) (r : Int32 ⊕ String) (σ' : Mem) (h : sp_X5_setDoor n σ o0 a1 a2 = some (r, σ')) : MM yX5_setDoor wu_X5_setDoor rm_X5_setDoor [.ref (G.2.2 (o0)), .int (a1), .int (a2)] G σ (oc r) σ' := by
  refine mm_of (cc := cX5_setDoor) (maxL := 5) (ret := (some .boolean)) (by decide +kernel) rfl (Nat.le_of_ble_eq_true rfl) (fun x C X hg => ?_)
  have C : Cx x cX5_setDoor 5 RX5 (some .boolean) [] wu_X5_setDoor rm_X5_setDoor G.1 (tysF G) := C
  unfold sp_X5_setDoor at h
  show J x [(0, .ref (G.2.2 (o0))), (1, .int (a1)), (2, .int (a2))] [] σ 0 0 0
  refine j_aload_n C dX5_setDoor_0 0 rfl ?_
  refine j_iload_n C dX5_setDoor_1 1 rfl ?_
  obtain ⟨⟨r1, σ2⟩, h3, h⟩ := ob h
  try dsimp only at h
  rcases r1 with r1 | r1 <;> (try dsimp only at h)
  · refine j_callV C X (c_X5_checkLevel n G σ o0 a1 ho0 _ _ h3) dX5_setDoor_2 (gV u_243 u_245 u_246 u_211 u_244) rfl hy_X5_checkLevel rfl ho0 rfl (ci := 9) rfl rfl rfl (by decide) (Nat.le_of_ble_eq_true rfl) (by decide) ?_
    refine j_aload_n C dX5_setDoor_5 0 rfl ?_
    refine j_get C X dX5_setDoor_6 ho0 rfl rfl 0 (by decide) (fin := true) rfl rfl in_X5 (mU u_208) ?_
    refine j_iload_n C dX5_setDoor_9 1 rfl ?_
    obtain ⟨⟨r4, σ5⟩, h6, h⟩ := ob h
    try dsimp only at h
    obtain ⟨k7, h⟩ := sg h
    refine j_callV C X (c_X1_place n G σ2 ((rf o0 0)) a1 (sh_5_0 ho0) _ _ h6) dX5_setDoor_10 (gV u_231 u_100 u_101 u_98 u_99) rfl hy_X1_place rfl (sh_5_0 ho0) rfl (ci := 5) rfl rfl rfl (by decide) (Nat.le_of_ble_eq_true rfl) (by decide) ?_
    refine j_astore_n C dX5_setDoor_13 (by decide) [(3, .ref (G.2.2 (r4))), (0, .ref (G.2.2 (o0))), (1, .int (a1)), (2, .int (a2))] rfl ?_
    refine j_aload_n C dX5_setDoor_14 0 rfl ?_
    refine j_get C X dX5_setDoor_15 k7 rfl rfl 4 (by decide) (fin := false) rfl rfl in_X0 (mU u_247) ?_
    refine j_istore C dX5_setDoor_18 (by decide) [(4, .int ((σ5.1 r4 4))), (3, .ref (G.2.2 (r4))), (0, .ref (G.2.2 (o0))), (1, .int (a1)), (2, .int (a2))] rfl ?_
    refine j_aload_n C dX5_setDoor_20 1 rfl ?_
    refine j_iload_n C dX5_setDoor_21 4 rfl ?_
    obtain ⟨g10, h⟩ := sg h
    obtain ⟨σ8, e9, h⟩ := lm_e h
    refine j_put C X dX5_setDoor_22 k7 (ty0 := tyX0) rfl rfl 4 (by decide) rfl rfl (Nat.le_of_ble_eq_true rfl) tyX0_ok nmX0 (ty := .boolean) rfl (nar_z g10).1 (nar_z g10).2 in_X0 (mU u_247) e9 ?_
    refine j_aload_n C dX5_setDoor_25 2 rfl ?_
    refine j_get C X dX5_setDoor_26 ho0 rfl rfl 0 (by decide) (fin := true) rfl rfl in_X5 (mU u_208) ?_
    obtain ⟨⟨r11, σ12⟩, h13, h⟩ := ob h
    try dsimp only at h
    refine j_callV C X (c_X1_spreadAir n G σ8 ((rf o0 0)) (sh_5_0 ho0) _ _ h13) dX5_setDoor_29 (gV u_238 u_240 u_241 u_98 u_239) rfl hy_X1_spreadAir rfl (sh_5_0 ho0) rfl (ci := 5) rfl rfl rfl (by decide) (Nat.le_of_ble_eq_true rfl) (by decide) ?_
    refine j_iload C dX5_setDoor_32 0 rfl ?_
    obtain ⟨g14, h⟩ := sg h
    exact j_zreturn C (nar_z g14).1 dX5_setDoor_34 (e_oi h hg) (by decide) (by decide)
  · exact j_escV C X (c_X5_checkLevel n G σ o0 a1 ho0 _ _ h3) dX5_setDoor_2 (gV u_243 u_245 u_246 u_211 u_244) rfl hy_X5_checkLevel rfl ho0 rfl (ci := 9) rfl rfl rfl (by decide) (Nat.le_of_ble_eq_true rfl) (by decide) (e_x h hg)
def sp_X5_airOf (n : Nat) (σ : Mem) (o0 : Nat) (a1 : Int32) : Option ((Int32 ⊕ String) × Mem) := ((sp_X5_checkLevel n σ o0 a1).bind fun q => match q with | (.inl _, σ2) => ((sp_X1_place n σ2 ((rf o0 0)) a1).bind fun q => match q with | (r4, σ5) => if Ok r4 0 then some (.inl ((σ5.1 r4 5)), σ5) else none) | (.inr E, σ2) => some (.inr E, σ2))
abbrev rm_X5_airOf : Room := ({ frames := 12, cells := 1, slots := 6, locals := 242 } : Room)
abbrev wu_X5_airOf : List Cond := (Cond.code yX5_airOf cX5_airOf 2 (some .int)) :: wsU
theorem hy_X5_airOf : hyOk yX5_airOf 1 := by decide +kernel
set_option maxRecDepth 20000 in
set_option maxHeartbeats 4000000 in
theorem c_X5_airOf (n : Nat) (G : Gt) (σ : Mem) (o0 : Nat) (a1 : Int32) (ho0 : Ok o0 5) (r : Int32 ⊕ String) (σ' : Mem) (h : sp_X5_airOf n σ o0 a1 = some (r, σ')) : MM yX5_airOf wu_X5_airOf rm_X5_airOf [.ref (G.2.2 (o0)), .int (a1)] G σ (oc r) σ' := by
  refine mm_of (cc := cX5_airOf) (maxL := 2) (ret := (some .int)) (by decide +kernel) rfl (Nat.le_of_ble_eq_true rfl) (fun x C X hg => ?_)
  have C : Cx x cX5_airOf 2 RX5 (some .int) [] wu_X5_airOf rm_X5_airOf G.1 (tysF G) := C
  unfold sp_X5_airOf at h
  show J x [(0, .ref (G.2.2 (o0))), (1, .int (a1))] [] σ 0 0 0
  refine j_aload_n C dX5_airOf_0 0 rfl ?_
  refine j_iload_n C dX5_airOf_1 1 rfl ?_
  obtain ⟨⟨r1, σ2⟩, h3, h⟩ := ob h
  try dsimp only at h
  rcases r1 with r1 | r1 <;> (try dsimp only at h)
  · refine j_callV C X (c_X5_checkLevel n G σ o0 a1 ho0 _ _ h3) dX5_airOf_2 (gV u_243 u_245 u_246 u_211 u_244) rfl hy_X5_checkLevel rfl ho0 rfl (ci := 9) rfl rfl rfl (by decide) (Nat.le_of_ble_eq_true rfl) (by decide) ?_
    refine j_aload_n C dX5_airOf_5 0 rfl ?_
    refine j_get C X dX5_airOf_6 ho0 rfl rfl 0 (by decide) (fin := true) rfl rfl in_X5 (mU u_208) ?_
    refine j_iload_n C dX5_airOf_9 1 rfl ?_
    obtain ⟨⟨r4, σ5⟩, h6, h⟩ := ob h
    try dsimp only at h
    obtain ⟨k7, h⟩ := sg h
    refine j_callV C X (c_X1_place n G σ2 ((rf o0 0)) a1 (sh_5_0 ho0) _ _ h6) dX5_airOf_10 (gV u_231 u_100 u_101 u_98 u_99) rfl hy_X1_place rfl (sh_5_0 ho0) rfl (ci := 5) rfl rfl rfl (by decide) (Nat.le_of_ble_eq_true rfl) (by decide) ?_
    refine j_get C X dX5_airOf_13 k7 rfl rfl 5 (by decide) (fin := false) rfl rfl in_X0 (mU u_248) ?_
    exact j_ireturn C dX5_airOf_16 (e_oi h hg) (by decide) (by decide)
  · exact j_escV C X (c_X5_checkLevel n G σ o0 a1 ho0 _ _ h3) dX5_airOf_2 (gV u_243 u_245 u_246 u_211 u_244) rfl hy_X5_checkLevel rfl ho0 rfl (ci := 9) rfl rfl rfl (by decide) (Nat.le_of_ble_eq_true rfl) (by decide) (e_x h hg)
def sp_X5_airByPaths (n : Nat) (σ : Mem) (o0 : Nat) (a1 : Int32) : Option ((Int32 ⊕ String) × Mem) := ((sp_X5_checkLevel n σ o0 a1).bind fun q => match q with | (.inl _, σ2) => ((sp_X1_followAir n σ2 ((rf o0 0))).bind fun q => match q with | (_, σ5) => ((sp_X1_place n σ5 ((rf o0 0)) a1).bind fun q => match q with | (r7, σ8) => if Ok r7 0 then some (.inl ((σ8.1 r7 6)), σ8) else none)) | (.inr E, σ2) => some (.inr E, σ2))
abbrev rm_X5_airByPaths : Room := ({ frames := 13, cells := 1, slots := 6, locals := 271 } : Room)
abbrev wu_X5_airByPaths : List Cond := (Cond.code yX5_airByPaths cX5_airByPaths 2 (some .int)) :: wsU
theorem hy_X5_airByPaths : hyOk yX5_airByPaths 1 := by decide +kernel
set_option maxRecDepth 20000 in
set_option maxHeartbeats 4000000 in
theorem c_X5_airByPaths (n : Nat) (G : Gt) (σ : Mem) (o0 : Nat) (a1 : Int32) (ho0 : Ok o0 5) (r : Int32 ⊕ String) (σ' : Mem) (h : sp_X5_airByPaths n σ o0 a1 = some (r, σ')) : MM yX5_airByPaths wu_X5_airByPaths rm_X5_airByPaths [.ref (G.2.2 (o0)), .int (a1)] G σ (oc r) σ' := by
  refine mm_of (cc := cX5_airByPaths) (maxL := 2) (ret := (some .int)) (by decide +kernel) rfl (Nat.le_of_ble_eq_true rfl) (fun x C X hg => ?_)
  have C : Cx x cX5_airByPaths 2 RX5 (some .int) [] wu_X5_airByPaths rm_X5_airByPaths G.1 (tysF G) := C
  unfold sp_X5_airByPaths at h
  show J x [(0, .ref (G.2.2 (o0))), (1, .int (a1))] [] σ 0 0 0
  refine j_aload_n C dX5_airByPaths_0 0 rfl ?_
  refine j_iload_n C dX5_airByPaths_1 1 rfl ?_
  obtain ⟨⟨r1, σ2⟩, h3, h⟩ := ob h
  try dsimp only at h
  rcases r1 with r1 | r1 <;> (try dsimp only at h)
  · refine j_callV C X (c_X5_checkLevel n G σ o0 a1 ho0 _ _ h3) dX5_airByPaths_2 (gV u_243 u_245 u_246 u_211 u_244) rfl hy_X5_checkLevel rfl ho0 rfl (ci := 9) rfl rfl rfl (by decide) (Nat.le_of_ble_eq_true rfl) (by decide) ?_
    refine j_aload_n C dX5_airByPaths_5 0 rfl ?_
    refine j_get C X dX5_airByPaths_6 ho0 rfl rfl 0 (by decide) (fin := true) rfl rfl in_X5 (mU u_208) ?_
    obtain ⟨⟨r4, σ5⟩, h6, h⟩ := ob h
    try dsimp only at h
    refine j_callV C X (c_X1_followAir n G σ2 ((rf o0 0)) (sh_5_0 ho0) _ _ h6) dX5_airByPaths_9 (gV u_249 u_251 u_252 u_98 u_250) rfl hy_X1_followAir rfl (sh_5_0 ho0) rfl (ci := 5) rfl rfl rfl (by decide) (Nat.le_of_ble_eq_true rfl) (by decide) ?_
    refine j_aload_n C dX5_airByPaths_12 0 rfl ?_
    refine j_get C X dX5_airByPaths_13 ho0 rfl rfl 0 (by decide) (fin := true) rfl rfl in_X5 (mU u_208) ?_
    refine j_iload_n C dX5_airByPaths_16 1 rfl ?_
    obtain ⟨⟨r7, σ8⟩, h9, h⟩ := ob h
    try dsimp only at h
    obtain ⟨k10, h⟩ := sg h
    refine j_callV C X (c_X1_place n G σ5 ((rf o0 0)) a1 (sh_5_0 ho0) _ _ h9) dX5_airByPaths_17 (gV u_231 u_100 u_101 u_98 u_99) rfl hy_X1_place rfl (sh_5_0 ho0) rfl (ci := 5) rfl rfl rfl (by decide) (Nat.le_of_ble_eq_true rfl) (by decide) ?_
    refine j_get C X dX5_airByPaths_20 k10 rfl rfl 6 (by decide) (fin := false) rfl rfl in_X0 (mU u_253) ?_
    exact j_ireturn C dX5_airByPaths_23 (e_oi h hg) (by decide) (by decide)
  · exact j_escV C X (c_X5_checkLevel n G σ o0 a1 ho0 _ _ h3) dX5_airByPaths_2 (gV u_243 u_245 u_246 u_211 u_244) rfl hy_X5_checkLevel rfl ho0 rfl (ci := 9) rfl rfl rfl (by decide) (Nat.le_of_ble_eq_true rfl) (by decide) (e_x h hg)
def sp_X5_setLimit (n : Nat) (σ : Mem) (o0 : Nat) (a1 : Int32) : Option ((Int32 ⊕ String) × Mem) := ((sp_X5_checkRange n σ a1 ((1 : Int32)) ((1000 : Int32))).bind fun q => match q with | (.inl _, σ2) => (lm (wi σ2 (rf o0 0) 6 a1) fun σ4 => some (.inl ((σ2.1 (rf o0 0) 6)), σ4)) | (.inr E, σ2) => some (.inr E, σ2))
abbrev rm_X5_setLimit : Room := ({ frames := 11, cells := 1, slots := 6, locals := 222 } : Room)
abbrev wu_X5_setLimit : List Cond := (Cond.code yX5_setLimit cX5_setLimit 3 (some .int)) :: wsU
theorem hy_X5_setLimit : hyOk yX5_setLimit 1 := by decide +kernel
set_option maxRecDepth 20000 in
set_option maxHeartbeats 4000000 in
theorem c_X5_setLimit (n : Nat) (G : Gt) (σ : Mem) (o0 : Nat) (a1 : Int32) (ho0 : Ok o0 5) (r : Int32 ⊕ String) (σ' : Mem) (h : sp_X5_setLimit n σ o0 a1 = some (r, σ')) : MM yX5_setLimit wu_X5_setLimit rm_X5_setLimit [.ref (G.2.2 (o0)), .int (a1)] G σ (oc r) σ' := by
  refine mm_of (cc := cX5_setLimit) (maxL := 3) (ret := (some .int)) (by decide +kernel) rfl (Nat.le_of_ble_eq_true rfl) (fun x C X hg => ?_)
  have C : Cx x cX5_setLimit 3 RX5 (some .int) [] wu_X5_setLimit rm_X5_setLimit G.1 (tysF G) := C
  unfold sp_X5_setLimit at h
  show J x [(0, .ref (G.2.2 (o0))), (1, .int (a1))] [] σ 0 0 0
  refine j_iload_n C dX5_setLimit_0 1 rfl ?_
  refine j_iconst C dX5_setLimit_1 ((1 : Int32)) (by decide) ?_
  refine j_sipush C dX5_setLimit_2 ((1000 : Int32)) (by decide) ?_
  obtain ⟨⟨r1, σ2⟩, h3, h⟩ := ob h
  try dsimp only at h
  rcases r1 with r1 | r1 <;> (try dsimp only at h)
  · refine j_callS C X (c_X5_checkRange n G σ a1 ((1 : Int32)) ((1000 : Int32))  _ _ h3) dX5_setLimit_5 (gS u_228 u_230 u_211 u_229) rfl hy_X5_checkRange rfl rfl (by decide) (Nat.le_of_ble_eq_true rfl) (by decide) ?_
    refine j_aload_n C dX5_setLimit_8 0 rfl ?_
    refine j_get C X dX5_setLimit_9 ho0 rfl rfl 0 (by decide) (fin := true) rfl rfl in_X5 (mU u_208) ?_
    refine j_get C X dX5_setLimit_12 (sh_5_0 ho0) rfl rfl 6 (by decide) (fin := false) rfl rfl in_X1 (mU u_254) ?_
    refine j_istore_n C dX5_setLimit_15 (by decide) [(2, .int ((σ2.1 (rf o0 0) 6))), (0, .ref (G.2.2 (o0))), (1, .int (a1))] rfl ?_
    refine j_aload_n C dX5_setLimit_16 1 rfl ?_
    refine j_get C X dX5_setLimit_17 ho0 rfl rfl 0 (by decide) (fin := true) rfl rfl in_X5 (mU u_208) ?_
    refine j_iload_n C dX5_setLimit_20 2 rfl ?_
    obtain ⟨σ4, e5, h⟩ := lm_e h
    refine j_put C X dX5_setLimit_21 (sh_5_0 ho0) (ty0 := tyX1) rfl rfl 6 (by decide) rfl rfl (Nat.le_of_ble_eq_true rfl) tyX1_ok nmX1 (ty := .int) rfl rfl rfl in_X1 (mU u_254) e5 ?_
    refine j_iload_n C dX5_setLimit_24 0 rfl ?_
    exact j_ireturn C dX5_setLimit_25 (e_oi h hg) (by decide) (by decide)
  · exact j_escS C X (c_X5_checkRange n G σ a1 ((1 : Int32)) ((1000 : Int32))  _ _ h3) dX5_setLimit_5 (gS u_228 u_230 u_211 u_229) rfl hy_X5_checkRange rfl rfl (by decide) (Nat.le_of_ble_eq_true rfl) (by decide) (e_x h hg)
def sp_X5_gasOf (n : Nat) (σ : Mem) (o0 : Nat) (a1 : Int32) : Option ((Int32 ⊕ String) × Mem) := ((sp_X5_checkLevel n σ o0 a1).bind fun q => match q with | (.inl _, σ2) => ((sp_X1_place n σ2 ((rf o0 0)) a1).bind fun q => match q with | (r4, σ5) => if Ok r4 0 then some (.inl ((σ5.1 r4 7)), σ5) else none) | (.inr E, σ2) => some (.inr E, σ2))
abbrev rm_X5_gasOf : Room := ({ frames := 12, cells := 1, slots := 6, locals := 242 } : Room)
abbrev wu_X5_gasOf : List Cond := (Cond.code yX5_gasOf cX5_gasOf 2 (some .int)) :: wsU
theorem hy_X5_gasOf : hyOk yX5_gasOf 1 := by decide +kernel
set_option maxRecDepth 20000 in
set_option maxHeartbeats 4000000 in
theorem c_X5_gasOf (n : Nat) (G : Gt) (σ : Mem) (o0 : Nat) (a1 : Int32) (ho0 : Ok o0 5) (r : Int32 ⊕ String) (σ' : Mem) (h : sp_X5_gasOf n σ o0 a1 = some (r, σ')) : MM yX5_gasOf wu_X5_gasOf rm_X5_gasOf [.ref (G.2.2 (o0)), .int (a1)] G σ (oc r) σ' := by
  refine mm_of (cc := cX5_gasOf) (maxL := 2) (ret := (some .int)) (by decide +kernel) rfl (Nat.le_of_ble_eq_true rfl) (fun x C X hg => ?_)
  have C : Cx x cX5_gasOf 2 RX5 (some .int) [] wu_X5_gasOf rm_X5_gasOf G.1 (tysF G) := C
  unfold sp_X5_gasOf at h
  show J x [(0, .ref (G.2.2 (o0))), (1, .int (a1))] [] σ 0 0 0
  refine j_aload_n C dX5_gasOf_0 0 rfl ?_
  refine j_iload_n C dX5_gasOf_1 1 rfl ?_
  obtain ⟨⟨r1, σ2⟩, h3, h⟩ := ob h
  try dsimp only at h
  rcases r1 with r1 | r1 <;> (try dsimp only at h)
  · refine j_callV C X (c_X5_checkLevel n G σ o0 a1 ho0 _ _ h3) dX5_gasOf_2 (gV u_243 u_245 u_246 u_211 u_244) rfl hy_X5_checkLevel rfl ho0 rfl (ci := 9) rfl rfl rfl (by decide) (Nat.le_of_ble_eq_true rfl) (by decide) ?_
    refine j_aload_n C dX5_gasOf_5 0 rfl ?_
    refine j_get C X dX5_gasOf_6 ho0 rfl rfl 0 (by decide) (fin := true) rfl rfl in_X5 (mU u_208) ?_
    refine j_iload_n C dX5_gasOf_9 1 rfl ?_
    obtain ⟨⟨r4, σ5⟩, h6, h⟩ := ob h
    try dsimp only at h
    obtain ⟨k7, h⟩ := sg h
    refine j_callV C X (c_X1_place n G σ2 ((rf o0 0)) a1 (sh_5_0 ho0) _ _ h6) dX5_gasOf_10 (gV u_231 u_100 u_101 u_98 u_99) rfl hy_X1_place rfl (sh_5_0 ho0) rfl (ci := 5) rfl rfl rfl (by decide) (Nat.le_of_ble_eq_true rfl) (by decide) ?_
    refine j_get C X dX5_gasOf_13 k7 rfl rfl 7 (by decide) (fin := false) rfl rfl in_X0 (mU u_255) ?_
    exact j_ireturn C dX5_gasOf_16 (e_oi h hg) (by decide) (by decide)
  · exact j_escV C X (c_X5_checkLevel n G σ o0 a1 ho0 _ _ h3) dX5_gasOf_2 (gV u_243 u_245 u_246 u_211 u_244) rfl hy_X5_checkLevel rfl ho0 rfl (ci := 9) rfl rfl rfl (by decide) (Nat.le_of_ble_eq_true rfl) (by decide) (e_x h hg)
def sp_X5_gasShare (n : Nat) (σ : Mem) (o0 : Nat) (a1 : Int32) : Option ((Int32 ⊕ String) × Mem) := ((sp_X5_checkLevel n σ o0 a1).bind fun q => match q with | (.inl _, σ2) => ((sp_X1_place n σ2 ((rf o0 0)) a1).bind fun q => match q with | (r4, σ5) => if Ok r4 0 then ((sp_X0_share n σ5 r4).bind fun q => match q with | (r8, σ9) => some (.inl r8, σ9)) else none) | (.inr E, σ2) => some (.inr E, σ2))
abbrev rm_X5_gasShare : Room := ({ frames := 12, cells := 1, slots := 6, locals := 242 } : Room)
abbrev wu_X5_gasShare : List Cond := (Cond.code yX5_gasShare cX5_gasShare 2 (some .int)) :: wsU
theorem hy_X5_gasShare : hyOk yX5_gasShare 1 := by decide +kernel
set_option maxRecDepth 20000 in
set_option maxHeartbeats 4000000 in
theorem c_X5_gasShare (n : Nat) (G : Gt) (σ : Mem) (o0 : Nat) (a1 : Int32) (ho0 : Ok o0 5) (r : Int32 ⊕ String) (σ' : Mem) (h : sp_X5_gasShare n σ o0 a1 = some (r, σ')) : MM yX5_gasShare wu_X5_gasShare rm_X5_gasShare [.ref (G.2.2 (o0)), .int (a1)] G σ (oc r) σ' := by
  refine mm_of (cc := cX5_gasShare) (maxL := 2) (ret := (some .int)) (by decide +kernel) rfl (Nat.le_of_ble_eq_true rfl) (fun x C X hg => ?_)
  have C : Cx x cX5_gasShare 2 RX5 (some .int) [] wu_X5_gasShare rm_X5_gasShare G.1 (tysF G) := C
  unfold sp_X5_gasShare at h
  show J x [(0, .ref (G.2.2 (o0))), (1, .int (a1))] [] σ 0 0 0
  refine j_aload_n C dX5_gasShare_0 0 rfl ?_
  refine j_iload_n C dX5_gasShare_1 1 rfl ?_
  obtain ⟨⟨r1, σ2⟩, h3, h⟩ := ob h
  try dsimp only at h
  rcases r1 with r1 | r1 <;> (try dsimp only at h)
  · refine j_callV C X (c_X5_checkLevel n G σ o0 a1 ho0 _ _ h3) dX5_gasShare_2 (gV u_243 u_245 u_246 u_211 u_244) rfl hy_X5_checkLevel rfl ho0 rfl (ci := 9) rfl rfl rfl (by decide) (Nat.le_of_ble_eq_true rfl) (by decide) ?_
    refine j_aload_n C dX5_gasShare_5 0 rfl ?_
    refine j_get C X dX5_gasShare_6 ho0 rfl rfl 0 (by decide) (fin := true) rfl rfl in_X5 (mU u_208) ?_
    refine j_iload_n C dX5_gasShare_9 1 rfl ?_
    obtain ⟨⟨r4, σ5⟩, h6, h⟩ := ob h
    try dsimp only at h
    obtain ⟨k7, h⟩ := sg h
    refine j_callV C X (c_X1_place n G σ2 ((rf o0 0)) a1 (sh_5_0 ho0) _ _ h6) dX5_gasShare_10 (gV u_231 u_100 u_101 u_98 u_99) rfl hy_X1_place rfl (sh_5_0 ho0) rfl (ci := 5) rfl rfl rfl (by decide) (Nat.le_of_ble_eq_true rfl) (by decide) ?_
    obtain ⟨⟨r8, σ9⟩, h10, h⟩ := ob h
    try dsimp only at h
    refine j_callV C X (c_X0_share n G σ5 r4 k7 _ _ h10) dX5_gasShare_13 (gV u_256 u_84 u_85 u_77 u_83) rfl hy_X0_share rfl k7 rfl (ci := 4) rfl rfl rfl (by decide) (Nat.le_of_ble_eq_true rfl) (by decide) ?_
    exact j_ireturn C dX5_gasShare_16 (e_oi h hg) (by decide) (by decide)
  · exact j_escV C X (c_X5_checkLevel n G σ o0 a1 ho0 _ _ h3) dX5_gasShare_2 (gV u_243 u_245 u_246 u_211 u_244) rfl hy_X5_checkLevel rfl ho0 rfl (ci := 9) rfl rfl rfl (by decide) (Nat.le_of_ble_eq_true rfl) (by decide) (e_x h hg)
def sp_X5_isAlarm (n : Nat) (σ : Mem) (o0 : Nat) (a1 : Int32) : Option ((Int32 ⊕ String) × Mem) := ((sp_X5_checkLevel n σ o0 a1).bind fun q => match q with | (.inl _, σ2) => ((sp_X1_place n σ2 ((rf o0 0)) a1).bind fun q => match q with | (r4, σ5) => if Ok r4 0 then ((sp_X1_hasAlarm n σ5 ((rf o0 0)) r4).bind fun q => match q with | (r8, σ9) => if r8 = 0 ∨ r8 = 1 then some (.inl r8, σ9) else none) else none) | (.inr E, σ2) => some (.inr E, σ2))
abbrev rm_X5_isAlarm : Room := ({ frames := 12, cells := 1, slots := 6, locals := 242 } : Room)
abbrev wu_X5_isAlarm : List Cond := (Cond.code yX5_isAlarm cX5_isAlarm 2 (some .boolean)) :: wsU
theorem hy_X5_isAlarm : hyOk yX5_isAlarm 1 := by decide +kernel
set_option maxRecDepth 20000 in
set_option maxHeartbeats 4000000 in
theorem c_X5_isAlarm (n : Nat) (G : Gt) (σ : Mem) (o0 : Nat) (a1 : Int32) (ho0 : Ok o0 5) (r : Int32 ⊕ String) (σ' : Mem) (h : sp_X5_isAlarm n σ o0 a1 = some (r, σ')) : MM yX5_isAlarm wu_X5_isAlarm rm_X5_isAlarm [.ref (G.2.2 (o0)), .int (a1)] G σ (oc r) σ' := by
  refine mm_of (cc := cX5_isAlarm) (maxL := 2) (ret := (some .boolean)) (by decide +kernel) rfl (Nat.le_of_ble_eq_true rfl) (fun x C X hg => ?_)
  have C : Cx x cX5_isAlarm 2 RX5 (some .boolean) [] wu_X5_isAlarm rm_X5_isAlarm G.1 (tysF G) := C
  unfold sp_X5_isAlarm at h
  show J x [(0, .ref (G.2.2 (o0))), (1, .int (a1))] [] σ 0 0 0
  refine j_aload_n C dX5_isAlarm_0 0 rfl ?_
  refine j_iload_n C dX5_isAlarm_1 1 rfl ?_
  obtain ⟨⟨r1, σ2⟩, h3, h⟩ := ob h
  try dsimp only at h
  rcases r1 with r1 | r1 <;> (try dsimp only at h)
  · refine j_callV C X (c_X5_checkLevel n G σ o0 a1 ho0 _ _ h3) dX5_isAlarm_2 (gV u_243 u_245 u_246 u_211 u_244) rfl hy_X5_checkLevel rfl ho0 rfl (ci := 9) rfl rfl rfl (by decide) (Nat.le_of_ble_eq_true rfl) (by decide) ?_
    refine j_aload_n C dX5_isAlarm_5 0 rfl ?_
    refine j_get C X dX5_isAlarm_6 ho0 rfl rfl 0 (by decide) (fin := true) rfl rfl in_X5 (mU u_208) ?_
    refine j_aload_n C dX5_isAlarm_9 0 rfl ?_
    refine j_get C X dX5_isAlarm_10 ho0 rfl rfl 0 (by decide) (fin := true) rfl rfl in_X5 (mU u_208) ?_
    refine j_iload_n C dX5_isAlarm_13 1 rfl ?_
    obtain ⟨⟨r4, σ5⟩, h6, h⟩ := ob h
    try dsimp only at h
    obtain ⟨k7, h⟩ := sg h
    refine j_callV C X (c_X1_place n G σ2 ((rf o0 0)) a1 (sh_5_0 ho0) _ _ h6) dX5_isAlarm_14 (gV u_231 u_100 u_101 u_98 u_99) rfl hy_X1_place rfl (sh_5_0 ho0) rfl (ci := 5) rfl rfl rfl (by decide) (Nat.le_of_ble_eq_true rfl) (by decide) ?_
    obtain ⟨⟨r8, σ9⟩, h10, h⟩ := ob h
    try dsimp only at h
    refine j_callV C X (c_X1_hasAlarm n G σ5 ((rf o0 0)) r4 (sh_5_0 ho0) k7 _ _ h10) dX5_isAlarm_17 (gV u_257 u_150 u_151 u_98 u_149) rfl hy_X1_hasAlarm rfl (sh_5_0 ho0) rfl (ci := 5) rfl rfl rfl (by decide) (Nat.le_of_ble_eq_true rfl) (by decide) ?_
    obtain ⟨g11, h⟩ := sg h
    exact j_zreturn C (nar_z g11).1 dX5_isAlarm_20 (e_oi h hg) (by decide) (by decide)
  · exact j_escV C X (c_X5_checkLevel n G σ o0 a1 ho0 _ _ h3) dX5_isAlarm_2 (gV u_243 u_245 u_246 u_211 u_244) rfl hy_X5_checkLevel rfl ho0 rfl (ci := 9) rfl rfl rfl (by decide) (Nat.le_of_ble_eq_true rfl) (by decide) (e_x h hg)
def sp_X5_gasTotal (n : Nat) (σ : Mem) (o0 : Nat) : Option (Int32 × Mem) := some ((σ.1 (rf o0 0) 9), σ)
abbrev rm_X5_gasTotal : Room := ({ frames := 10, cells := 0, slots := 0, locals := 200 } : Room)
abbrev wu_X5_gasTotal : List Cond := (Cond.code yX5_gasTotal cX5_gasTotal 1 (some .int)) :: wsU
theorem hy_X5_gasTotal : hyOk yX5_gasTotal 0 := by decide +kernel
set_option maxRecDepth 20000 in
set_option maxHeartbeats 4000000 in
theorem c_X5_gasTotal (n : Nat) (G : Gt) (σ : Mem) (o0 : Nat) (ho0 : Ok o0 5) (r : Int32) (σ' : Mem) (h : sp_X5_gasTotal n σ o0 = some (r, σ')) : MM yX5_gasTotal wu_X5_gasTotal rm_X5_gasTotal [.ref (G.2.2 (o0))] G σ (.inl (some (.int r))) σ' := by
  refine mm_of (cc := cX5_gasTotal) (maxL := 1) (ret := (some .int)) (by decide +kernel) rfl (Nat.le_of_ble_eq_true rfl) (fun x C X hg => ?_)
  have C : Cx x cX5_gasTotal 1 RX5 (some .int) [] wu_X5_gasTotal rm_X5_gasTotal G.1 (tysF G) := C
  unfold sp_X5_gasTotal at h
  show J x [(0, .ref (G.2.2 (o0)))] [] σ 0 0 0
  refine j_aload_n C dX5_gasTotal_0 0 rfl ?_
  refine j_get C X dX5_gasTotal_1 ho0 rfl rfl 0 (by decide) (fin := true) rfl rfl in_X5 (mU u_208) ?_
  refine j_get C X dX5_gasTotal_4 (sh_5_0 ho0) rfl rfl 9 (by decide) (fin := false) rfl rfl in_X1 (mU u_258) ?_
  exact j_ireturn C dX5_gasTotal_7 (e_i h hg) (by decide) (by decide)
def sp_X5_ventedTotal (n : Nat) (σ : Mem) (o0 : Nat) : Option (Int32 × Mem) := some ((σ.1 (rf o0 0) 10), σ)
abbrev rm_X5_ventedTotal : Room := ({ frames := 10, cells := 0, slots := 0, locals := 200 } : Room)
abbrev wu_X5_ventedTotal : List Cond := (Cond.code yX5_ventedTotal cX5_ventedTotal 1 (some .int)) :: wsU
theorem hy_X5_ventedTotal : hyOk yX5_ventedTotal 0 := by decide +kernel
set_option maxRecDepth 20000 in
set_option maxHeartbeats 4000000 in
theorem c_X5_ventedTotal (n : Nat) (G : Gt) (σ : Mem) (o0 : Nat) (ho0 : Ok o0 5) (r : Int32) (σ' : Mem) (h : sp_X5_ventedTotal n σ o0 = some (r, σ')) : MM yX5_ventedTotal wu_X5_ventedTotal rm_X5_ventedTotal [.ref (G.2.2 (o0))] G σ (.inl (some (.int r))) σ' := by
  refine mm_of (cc := cX5_ventedTotal) (maxL := 1) (ret := (some .int)) (by decide +kernel) rfl (Nat.le_of_ble_eq_true rfl) (fun x C X hg => ?_)
  have C : Cx x cX5_ventedTotal 1 RX5 (some .int) [] wu_X5_ventedTotal rm_X5_ventedTotal G.1 (tysF G) := C
  unfold sp_X5_ventedTotal at h
  show J x [(0, .ref (G.2.2 (o0)))] [] σ 0 0 0
  refine j_aload_n C dX5_ventedTotal_0 0 rfl ?_
  refine j_get C X dX5_ventedTotal_1 ho0 rfl rfl 0 (by decide) (fin := true) rfl rfl in_X5 (mU u_208) ?_
  refine j_get C X dX5_ventedTotal_4 (sh_5_0 ho0) rfl rfl 10 (by decide) (fin := false) rfl rfl in_X1 (mU u_259) ?_
  exact j_ireturn C dX5_ventedTotal_7 (e_i h hg) (by decide) (by decide)
def lp_X5_meanShare_24 (n : Nat) (o0 : Nat) : Nat → Mem → Int32 → Int32 → Option (((Int32 × Int32) ⊕ String) × Mem)
  | 0, _, _, _ => none
  | k + 1, σ, l1, l2 => if (σ.1 (rf o0 0) 4) < l2 then if ¬ (σ.1 (rf o0 0) 4) = 0 then some (.inl ((l1, (σ.1 (rf o0 0) 4))), σ) else none else ((sp_X1_place n σ ((rf o0 0)) l2).bind fun q => match q with | (r4, σ5) => if Ok r4 0 then ((sp_X0_share n σ5 r4).bind fun q => match q with | (r8, σ9) => lp_X5_meanShare_24 n o0 k σ9 ((l1 + r8)) ((l2 + (1 : Int32)))) else none)
theorem lp_X5_meanShare_24_s (n : Nat) (o0 : Nat) (k : Nat) (σ : Mem) (l1 : Int32) (l2 : Int32) : lp_X5_meanShare_24 n o0 (k + 1) σ l1 l2 = (if (σ.1 (rf o0 0) 4) < l2 then if ¬ (σ.1 (rf o0 0) 4) = 0 then some (.inl ((l1, (σ.1 (rf o0 0) 4))), σ) else none else ((sp_X1_place n σ ((rf o0 0)) l2).bind fun q => match q with | (r4, σ5) => if Ok r4 0 then ((sp_X0_share n σ5 r4).bind fun q => match q with | (r8, σ9) => lp_X5_meanShare_24 n o0 k σ9 ((l1 + r8)) ((l2 + (1 : Int32)))) else none)) := rfl
def sp_X5_meanShare (n : Nat) (σ : Mem) (o0 : Nat) : Option (((Int32 × Int32) ⊕ String) × Mem) := if (σ.1 (rf o0 0) 4) = 0 then some (.inr "java/lang/ArithmeticException", σ) else lp_X5_meanShare_24 n o0 n σ ((0 : Int32)) ((1 : Int32))
abbrev rm_X5_meanShare : Room := ({ frames := 11, cells := 1, slots := 6, locals := 221 } : Room)
abbrev wu_X5_meanShare : List Cond := (Cond.code yX5_meanShare cX5_meanShare 3 (some .double)) :: wsU
theorem hy_X5_meanShare : hyOk yX5_meanShare 0 := by decide +kernel
set_option maxRecDepth 20000 in
set_option maxHeartbeats 4000000 in
theorem c_X5_meanShare (n : Nat) (G : Gt) (σ : Mem) (o0 : Nat) (ho0 : Ok o0 5) (r : (Int32 × Int32) ⊕ String) (σ' : Mem) (h : sp_X5_meanShare n σ o0 = some (r, σ')) : MM yX5_meanShare wu_X5_meanShare rm_X5_meanShare [.ref (G.2.2 (o0))] G σ (od r) σ' := by
  refine mm_of (cc := cX5_meanShare) (maxL := 3) (ret := (some .double)) (by decide +kernel) rfl (Nat.le_of_ble_eq_true rfl) (fun x C X hg => ?_)
  have C : Cx x cX5_meanShare 3 RX5 (some .double) [] wu_X5_meanShare rm_X5_meanShare G.1 (tysF G) := C
  have LP24 : ∀ (k : Nat) (σ : Mem) (l1 : Int32) (l2 : Int32), lp_X5_meanShare_24 n o0 k σ l1 l2 = some (r, σ') → J x [(0, .ref (G.2.2 (o0))), (1, .int (l1)), (2, .int (l2))] [] σ 24 0 0 := by
    intro k
    induction k with
    | zero => intro σ l1 l2  h; cases h
    | succ k ih =>
    intro σ l1 l2  h
    rw [lp_X5_meanShare_24_s] at h
    refine j_iload_n C dX5_meanShare_24 2 rfl ?_
    refine j_aload_n C dX5_meanShare_25 0 rfl ?_
    refine j_get C X dX5_meanShare_26 ho0 rfl rfl 0 (by decide) (fin := true) rfl rfl in_X5 (mU u_208) ?_
    refine j_get C X dX5_meanShare_29 (sh_5_0 ho0) rfl rfl 4 (by decide) (fin := false) rfl rfl in_X1 (mU u_209) ?_
    refine j_icmp_gt C dX5_meanShare_32 55 (by decide) (fun c2 => ?_) (fun c2 => ?_)
    · have h := (if_pos c2).symm.trans h
      refine j_iload_n C dX5_meanShare_55 1 rfl ?_
      refine j_i2d C dX5_meanShare_56 ?_
      refine j_aload_n C dX5_meanShare_57 0 rfl ?_
      refine j_get C X dX5_meanShare_58 ho0 rfl rfl 0 (by decide) (fin := true) rfl rfl in_X5 (mU u_208) ?_
      refine j_get C X dX5_meanShare_61 (sh_5_0 ho0) rfl rfl 4 (by decide) (fin := false) rfl rfl in_X1 (mU u_209) ?_
      refine j_i2d C dX5_meanShare_64 ?_
      obtain ⟨g3, h⟩ := sg h
      refine j_ddiv C dX5_meanShare_65 (dq_ok g3) ?_
      exact j_dreturn C dX5_meanShare_66 (e_od h hg) (by decide) (by decide)
    · have h := (if_neg c2).symm.trans h
      refine j_iload_n C dX5_meanShare_35 1 rfl ?_
      refine j_aload_n C dX5_meanShare_36 0 rfl ?_
      refine j_get C X dX5_meanShare_37 ho0 rfl rfl 0 (by decide) (fin := true) rfl rfl in_X5 (mU u_208) ?_
      refine j_iload_n C dX5_meanShare_40 2 rfl ?_
      obtain ⟨⟨r4, σ5⟩, h6, h⟩ := ob h
      try dsimp only at h
      obtain ⟨k7, h⟩ := sg h
      refine j_callV C X (c_X1_place n G σ ((rf o0 0)) l2 (sh_5_0 ho0) _ _ h6) dX5_meanShare_41 (gV u_231 u_100 u_101 u_98 u_99) rfl hy_X1_place rfl (sh_5_0 ho0) rfl (ci := 5) rfl rfl rfl (by decide) (Nat.le_of_ble_eq_true rfl) (by decide) ?_
      obtain ⟨⟨r8, σ9⟩, h10, h⟩ := ob h
      try dsimp only at h
      refine j_callV C X (c_X0_share n G σ5 r4 k7 _ _ h10) dX5_meanShare_44 (gV u_256 u_84 u_85 u_77 u_83) rfl hy_X0_share rfl k7 rfl (ci := 4) rfl rfl rfl (by decide) (Nat.le_of_ble_eq_true rfl) (by decide) ?_
      refine j_iadd C dX5_meanShare_47 ?_
      refine j_istore_n C dX5_meanShare_48 (by decide) [(1, .int ((l1 + r8))), (0, .ref (G.2.2 (o0))), (2, .int (l2))] rfl ?_
      refine j_iinc C dX5_meanShare_49 2 rfl ((1 : Int32)) (by decide) (by decide) [(2, .int ((l2 + (1 : Int32)))), (1, .int ((l1 + r8))), (0, .ref (G.2.2 (o0)))] rfl ?_
      refine j_goto C dX5_meanShare_52 24 (by decide) ?_
      refine j_sub [2, 1, 0] [(0, .ref (G.2.2 (o0))), (1, .int ((l1 + r8))), (2, .int ((l2 + (1 : Int32))))] rfl ?_
      exact ih σ9 ((l1 + r8)) ((l2 + (1 : Int32)))  h
  unfold sp_X5_meanShare at h
  show J x [(0, .ref (G.2.2 (o0)))] [] σ 0 0 0
  refine j_aload_n C dX5_meanShare_0 0 rfl ?_
  refine j_get C X dX5_meanShare_1 ho0 rfl rfl 0 (by decide) (fin := true) rfl rfl in_X5 (mU u_208) ?_
  refine j_get C X dX5_meanShare_4 (sh_5_0 ho0) rfl rfl 4 (by decide) (fin := false) rfl rfl in_X1 (mU u_209) ?_
  refine j_if_ne C dX5_meanShare_7 20 (by decide) (fun c1 => ?_) (fun c1 => ?_)
  · have h := (if_neg c1).symm.trans h
    refine j_iconst C dX5_meanShare_20 ((0 : Int32)) (by decide) ?_
    refine j_istore_n C dX5_meanShare_21 (by decide) [(1, .int ((0 : Int32))), (0, .ref (G.2.2 (o0)))] rfl ?_
    refine j_iconst C dX5_meanShare_22 ((1 : Int32)) (by decide) ?_
    refine j_istore_n C dX5_meanShare_23 (by decide) [(2, .int ((1 : Int32))), (1, .int ((0 : Int32))), (0, .ref (G.2.2 (o0)))] rfl ?_
    refine j_sub [2, 1, 0] [(0, .ref (G.2.2 (o0))), (1, .int ((0 : Int32))), (2, .int ((1 : Int32)))] rfl ?_
    exact LP24 n σ ((0 : Int32)) ((1 : Int32))  h
  · have h := (if_pos c1).symm.trans h
    exact j_throw C ["java/lang/RuntimeException", "java/lang/Exception"] dX5_meanShare_10 dX5_meanShare_13 dX5_meanShare_14 dX5_meanShare_16 dX5_meanShare_19 (text := "no levels") (by decide +kernel) (by decide +kernel) (mU u_260) (mU u_261) (by decide +kernel) tw_112 tn_112 (by decide) (tgc tg_112) (by decide) (Nat.le_of_ble_eq_true rfl) (by decide) (by decide) X.grow (e_xd h hg)
def sp_X5_minutesToAlarm (n : Nat) (σ : Mem) (o0 : Nat) (a1 : Int32) : Option ((Int32 ⊕ String) × Mem) := ((sp_X5_checkLevel n σ o0 a1).bind fun q => match q with | (.inl _, σ2) => ((sp_X1_copyFrom n σ2 ((rf o0 1)) ((rf o0 0))).bind fun q => match q with | (_, σ5) => ((sp_X1_place n σ5 ((rf o0 1)) a1).bind fun q => match q with | (r7, σ8) => if Ok r7 0 then ((sp_X1_passToAlarm n σ8 ((rf o0 1)) r7).bind fun q => match q with | (r11, σ12) => if r11 = (-1 : Int32) then some (.inr "java/util/NoSuchElementException", σ12) else some (.inl r11, σ12)) else none)) | (.inr E, σ2) => some (.inr E, σ2))
abbrev rm_X5_minutesToAlarm : Room := ({ frames := 13, cells := 2, slots := 12, locals := 269 } : Room)
abbrev wu_X5_minutesToAlarm : List Cond := (Cond.code yX5_minutesToAlarm cX5_minutesToAlarm 3 (some .int)) :: wsU
theorem hy_X5_minutesToAlarm : hyOk yX5_minutesToAlarm 1 := by decide +kernel
set_option maxRecDepth 20000 in
set_option maxHeartbeats 4000000 in
theorem c_X5_minutesToAlarm (n : Nat) (G : Gt) (σ : Mem) (o0 : Nat) (a1 : Int32) (ho0 : Ok o0 5) (r : Int32 ⊕ String) (σ' : Mem) (h : sp_X5_minutesToAlarm n σ o0 a1 = some (r, σ')) : MM yX5_minutesToAlarm wu_X5_minutesToAlarm rm_X5_minutesToAlarm [.ref (G.2.2 (o0)), .int (a1)] G σ (oc r) σ' := by
  refine mm_of (cc := cX5_minutesToAlarm) (maxL := 3) (ret := (some .int)) (by decide +kernel) rfl (Nat.le_of_ble_eq_true rfl) (fun x C X hg => ?_)
  have C : Cx x cX5_minutesToAlarm 3 RX5 (some .int) [] wu_X5_minutesToAlarm rm_X5_minutesToAlarm G.1 (tysF G) := C
  unfold sp_X5_minutesToAlarm at h
  show J x [(0, .ref (G.2.2 (o0))), (1, .int (a1))] [] σ 0 0 0
  refine j_aload_n C dX5_minutesToAlarm_0 0 rfl ?_
  refine j_iload_n C dX5_minutesToAlarm_1 1 rfl ?_
  obtain ⟨⟨r1, σ2⟩, h3, h⟩ := ob h
  try dsimp only at h
  rcases r1 with r1 | r1 <;> (try dsimp only at h)
  · refine j_callV C X (c_X5_checkLevel n G σ o0 a1 ho0 _ _ h3) dX5_minutesToAlarm_2 (gV u_243 u_245 u_246 u_211 u_244) rfl hy_X5_checkLevel rfl ho0 rfl (ci := 9) rfl rfl rfl (by decide) (Nat.le_of_ble_eq_true rfl) (by decide) ?_
    refine j_aload_n C dX5_minutesToAlarm_5 0 rfl ?_
    refine j_get C X dX5_minutesToAlarm_6 ho0 rfl rfl 1 (by decide) (fin := true) rfl rfl in_X5 (mU u_262) ?_
    refine j_aload_n C dX5_minutesToAlarm_9 0 rfl ?_
    refine j_get C X dX5_minutesToAlarm_10 ho0 rfl rfl 0 (by decide) (fin := true) rfl rfl in_X5 (mU u_208) ?_
    obtain ⟨⟨r4, σ5⟩, h6, h⟩ := ob h
    try dsimp only at h
    refine j_callV C X (c_X1_copyFrom n G σ2 ((rf o0 1)) ((rf o0 0)) (sh_5_1 ho0) (sh_5_0 ho0) _ _ h6) dX5_minutesToAlarm_13 (gV u_263 u_265 u_266 u_98 u_264) rfl hy_X1_copyFrom rfl (sh_5_1 ho0) rfl (ci := 5) rfl rfl rfl (by decide) (Nat.le_of_ble_eq_true rfl) (by decide) ?_
    refine j_aload_n C dX5_minutesToAlarm_16 0 rfl ?_
    refine j_get C X dX5_minutesToAlarm_17 ho0 rfl rfl 1 (by decide) (fin := true) rfl rfl in_X5 (mU u_262) ?_
    refine j_aload_n C dX5_minutesToAlarm_20 0 rfl ?_
    refine j_get C X dX5_minutesToAlarm_21 ho0 rfl rfl 1 (by decide) (fin := true) rfl rfl in_X5 (mU u_262) ?_
    refine j_iload_n C dX5_minutesToAlarm_24 1 rfl ?_
    obtain ⟨⟨r7, σ8⟩, h9, h⟩ := ob h
    try dsimp only at h
    obtain ⟨k10, h⟩ := sg h
    refine j_callV C X (c_X1_place n G σ5 ((rf o0 1)) a1 (sh_5_1 ho0) _ _ h9) dX5_minutesToAlarm_25 (gV u_231 u_100 u_101 u_98 u_99) rfl hy_X1_place rfl (sh_5_1 ho0) rfl (ci := 5) rfl rfl rfl (by decide) (Nat.le_of_ble_eq_true rfl) (by decide) ?_
    obtain ⟨⟨r11, σ12⟩, h13, h⟩ := ob h
    try dsimp only at h
    refine j_callV C X (c_X1_passToAlarm n G σ8 ((rf o0 1)) r7 (sh_5_1 ho0) k10 _ _ h13) dX5_minutesToAlarm_28 (gV u_267 u_269 u_270 u_98 u_268) rfl hy_X1_passToAlarm rfl (sh_5_1 ho0) rfl (ci := 5) rfl rfl rfl (by decide) (Nat.le_of_ble_eq_true rfl) (by decide) ?_
    refine j_istore_n C dX5_minutesToAlarm_31 (by decide) [(2, .int (r11)), (0, .ref (G.2.2 (o0))), (1, .int (a1))] rfl ?_
    refine j_iload_n C dX5_minutesToAlarm_32 0 rfl ?_
    refine j_iconst C dX5_minutesToAlarm_33 ((-1 : Int32)) (by decide) ?_
    refine j_icmp_ne C dX5_minutesToAlarm_34 47 (by decide) (fun c14 => ?_) (fun c14 => ?_)
    · have h := (if_neg c14).symm.trans h
      refine j_iload_n C dX5_minutesToAlarm_47 0 rfl ?_
      exact j_ireturn C dX5_minutesToAlarm_48 (e_oi h hg) (by decide) (by decide)
    · have h := (if_pos c14).symm.trans h
      exact j_throwX C ["java/lang/RuntimeException", "java/lang/Exception"] nse_0 nse_1 nse_2 nse_5 dX5_minutesToAlarm_37 dX5_minutesToAlarm_40 dX5_minutesToAlarm_41 dX5_minutesToAlarm_43 dX5_minutesToAlarm_46 (text := "no alarm so soon") (by decide +kernel) (by decide +kernel) (mU u_217) (mU u_218) (by decide +kernel) tw_125 tn_125 (by decide) (tgc tg_125) (by decide) (Nat.le_of_ble_eq_true rfl) (by decide) (by decide) X.grow (e_x h hg)
  · exact j_escV C X (c_X5_checkLevel n G σ o0 a1 ho0 _ _ h3) dX5_minutesToAlarm_2 (gV u_243 u_245 u_246 u_211 u_244) rfl hy_X5_checkLevel rfl ho0 rfl (ci := 9) rfl rfl rfl (by decide) (Nat.le_of_ble_eq_true rfl) (by decide) (e_x h hg)
def sp_X5_hire (n : Nat) (σ : Mem) (o0 : Nat) (a1 : Int32) : Option ((Int32 ⊕ String) × Mem) := ((sp_X5_checkRange n σ a1 ((1 : Int32)) ((99 : Int32))).bind fun q => match q with | (.inl _, σ2) => ((sp_X1_allPeople n σ2 ((rf o0 0))).bind fun q => match q with | (r4, σ5) => if (r4 + a1) ≤ (200 : Int32) then (lm (wi σ5 (rf (rf o0 0) 0) 8 ((σ5.1 (rf (rf o0 0) 0) 8) + a1)) fun σ8 => some (.inl ((σ8.1 (rf (rf o0 0) 0) 8)), σ8)) else some (.inr "java/lang/IllegalStateException", σ5)) | (.inr E, σ2) => some (.inr E, σ2))
abbrev rm_X5_hire : Room := ({ frames := 12, cells := 2, slots := 12, locals := 243 } : Room)
abbrev wu_X5_hire : List Cond := (Cond.code yX5_hire cX5_hire 2 (some .int)) :: wsU
theorem hy_X5_hire : hyOk yX5_hire 1 := by decide +kernel
set_option maxRecDepth 20000 in
set_option maxHeartbeats 4000000 in
theorem c_X5_hire (n : Nat) (G : Gt) (σ : Mem) (o0 : Nat) (a1 : Int32) (ho0 : Ok o0 5) (r : Int32 ⊕ String) (σ' : Mem) (h : sp_X5_hire n σ o0 a1 = some (r, σ')) : MM yX5_hire wu_X5_hire rm_X5_hire [.ref (G.2.2 (o0)), .int (a1)] G σ (oc r) σ' := by
  refine mm_of (cc := cX5_hire) (maxL := 2) (ret := (some .int)) (by decide +kernel) rfl (Nat.le_of_ble_eq_true rfl) (fun x C X hg => ?_)
  have C : Cx x cX5_hire 2 RX5 (some .int) [] wu_X5_hire rm_X5_hire G.1 (tysF G) := C
  unfold sp_X5_hire at h
  show J x [(0, .ref (G.2.2 (o0))), (1, .int (a1))] [] σ 0 0 0
  refine j_iload_n C dX5_hire_0 1 rfl ?_
  refine j_iconst C dX5_hire_1 ((1 : Int32)) (by decide) ?_
  refine j_bipush C dX5_hire_2 ((99 : Int32)) (by decide) ?_
  obtain ⟨⟨r1, σ2⟩, h3, h⟩ := ob h
  try dsimp only at h
  rcases r1 with r1 | r1 <;> (try dsimp only at h)
  · refine j_callS C X (c_X5_checkRange n G σ a1 ((1 : Int32)) ((99 : Int32))  _ _ h3) dX5_hire_4 (gS u_228 u_230 u_211 u_229) rfl hy_X5_checkRange rfl rfl (by decide) (Nat.le_of_ble_eq_true rfl) (by decide) ?_
    refine j_aload_n C dX5_hire_7 0 rfl ?_
    refine j_get C X dX5_hire_8 ho0 rfl rfl 0 (by decide) (fin := true) rfl rfl in_X5 (mU u_208) ?_
    obtain ⟨⟨r4, σ5⟩, h6, h⟩ := ob h
    try dsimp only at h
    refine j_callV C X (c_X1_allPeople n G σ2 ((rf o0 0)) (sh_5_0 ho0) _ _ h6) dX5_hire_11 (gV u_271 u_273 u_274 u_98 u_272) rfl hy_X1_allPeople rfl (sh_5_0 ho0) rfl (ci := 5) rfl rfl rfl (by decide) (Nat.le_of_ble_eq_true rfl) (by decide) ?_
    refine j_iload_n C dX5_hire_14 1 rfl ?_
    refine j_iadd C dX5_hire_15 ?_
    refine j_sipush C dX5_hire_16 ((200 : Int32)) (by decide) ?_
    refine j_icmp_le C dX5_hire_19 32 (by decide) (fun c7 => ?_) (fun c7 => ?_)
    · have h := (if_pos c7).symm.trans h
      refine j_aload_n C dX5_hire_32 0 rfl ?_
      refine j_get C X dX5_hire_33 ho0 rfl rfl 0 (by decide) (fin := true) rfl rfl in_X5 (mU u_208) ?_
      refine j_get C X dX5_hire_36 (sh_5_0 ho0) rfl rfl 0 (by decide) (fin := true) rfl rfl in_X1 (mU u_275) ?_
      refine j_dup C dX5_hire_39 rfl ?_
      refine j_get C X dX5_hire_40 (sh_1_0 (sh_5_0 ho0)) rfl rfl 8 (by decide) (fin := false) rfl rfl in_X0 (mU u_276) ?_
      refine j_iload_n C dX5_hire_43 1 rfl ?_
      refine j_iadd C dX5_hire_44 ?_
      obtain ⟨σ8, e9, h⟩ := lm_e h
      refine j_put C X dX5_hire_45 (sh_1_0 (sh_5_0 ho0)) (ty0 := tyX0) rfl rfl 8 (by decide) rfl rfl (Nat.le_of_ble_eq_true rfl) tyX0_ok nmX0 (ty := .int) rfl rfl rfl in_X0 (mU u_276) e9 ?_
      refine j_aload_n C dX5_hire_48 0 rfl ?_
      refine j_get C X dX5_hire_49 ho0 rfl rfl 0 (by decide) (fin := true) rfl rfl in_X5 (mU u_208) ?_
      refine j_get C X dX5_hire_52 (sh_5_0 ho0) rfl rfl 0 (by decide) (fin := true) rfl rfl in_X1 (mU u_275) ?_
      refine j_get C X dX5_hire_55 (sh_1_0 (sh_5_0 ho0)) rfl rfl 8 (by decide) (fin := false) rfl rfl in_X0 (mU u_276) ?_
      exact j_ireturn C dX5_hire_58 (e_oi h hg) (by decide) (by decide)
    · have h := (if_neg c7).symm.trans h
      exact j_throw C ["java/lang/RuntimeException", "java/lang/Exception"] dX5_hire_22 dX5_hire_25 dX5_hire_26 dX5_hire_28 dX5_hire_31 (text := "too many people") (by decide +kernel) (by decide +kernel) (mU u_226) (mU u_227) (by decide +kernel) tw_57 tn_57 (by decide) (tgc tg_57) (by decide) (Nat.le_of_ble_eq_true rfl) (by decide) (by decide) X.grow (e_x h hg)
  · exact j_escS C X (c_X5_checkRange n G σ a1 ((1 : Int32)) ((99 : Int32))  _ _ h3) dX5_hire_4 (gS u_228 u_230 u_211 u_229) rfl hy_X5_checkRange rfl rfl (by decide) (Nat.le_of_ble_eq_true rfl) (by decide) (e_x h hg)
def sp_X5_peopleAt (n : Nat) (σ : Mem) (o0 : Nat) (a1 : Int32) : Option ((Int32 ⊕ String) × Mem) := ((sp_X5_checkPlace n σ o0 a1).bind fun q => match q with | (.inl _, σ2) => ((sp_X1_place n σ2 ((rf o0 0)) a1).bind fun q => match q with | (r4, σ5) => if Ok r4 0 then some (.inl ((σ5.1 r4 8)), σ5) else none) | (.inr E, σ2) => some (.inr E, σ2))
abbrev rm_X5_peopleAt : Room := ({ frames := 11, cells := 1, slots := 6, locals := 221 } : Room)
abbrev wu_X5_peopleAt : List Cond := (Cond.code yX5_peopleAt cX5_peopleAt 2 (some .int)) :: wsU
theorem hy_X5_peopleAt : hyOk yX5_peopleAt 1 := by decide +kernel
set_option maxRecDepth 20000 in
set_option maxHeartbeats 4000000 in
theorem c_X5_peopleAt (n : Nat) (G : Gt) (σ : Mem) (o0 : Nat) (a1 : Int32) (ho0 : Ok o0 5) (r : Int32 ⊕ String) (σ' : Mem) (h : sp_X5_peopleAt n σ o0 a1 = some (r, σ')) : MM yX5_peopleAt wu_X5_peopleAt rm_X5_peopleAt [.ref (G.2.2 (o0)), .int (a1)] G σ (oc r) σ' := by
  refine mm_of (cc := cX5_peopleAt) (maxL := 2) (ret := (some .int)) (by decide +kernel) rfl (Nat.le_of_ble_eq_true rfl) (fun x C X hg => ?_)
  have C : Cx x cX5_peopleAt 2 RX5 (some .int) [] wu_X5_peopleAt rm_X5_peopleAt G.1 (tysF G) := C
  unfold sp_X5_peopleAt at h
  show J x [(0, .ref (G.2.2 (o0))), (1, .int (a1))] [] σ 0 0 0
  refine j_aload_n C dX5_peopleAt_0 0 rfl ?_
  refine j_iload_n C dX5_peopleAt_1 1 rfl ?_
  obtain ⟨⟨r1, σ2⟩, h3, h⟩ := ob h
  try dsimp only at h
  rcases r1 with r1 | r1 <;> (try dsimp only at h)
  · refine j_callV C X (c_X5_checkPlace n G σ o0 a1 ho0 _ _ h3) dX5_peopleAt_2 (gV u_210 u_213 u_214 u_211 u_212) rfl hy_X5_checkPlace rfl ho0 rfl (ci := 9) rfl rfl rfl (by decide) (Nat.le_of_ble_eq_true rfl) (by decide) ?_
    refine j_aload_n C dX5_peopleAt_5 0 rfl ?_
    refine j_get C X dX5_peopleAt_6 ho0 rfl rfl 0 (by decide) (fin := true) rfl rfl in_X5 (mU u_208) ?_
    refine j_iload_n C dX5_peopleAt_9 1 rfl ?_
    obtain ⟨⟨r4, σ5⟩, h6, h⟩ := ob h
    try dsimp only at h
    obtain ⟨k7, h⟩ := sg h
    refine j_callV C X (c_X1_place n G σ2 ((rf o0 0)) a1 (sh_5_0 ho0) _ _ h6) dX5_peopleAt_10 (gV u_231 u_100 u_101 u_98 u_99) rfl hy_X1_place rfl (sh_5_0 ho0) rfl (ci := 5) rfl rfl rfl (by decide) (Nat.le_of_ble_eq_true rfl) (by decide) ?_
    refine j_get C X dX5_peopleAt_13 k7 rfl rfl 8 (by decide) (fin := false) rfl rfl in_X0 (mU u_276) ?_
    exact j_ireturn C dX5_peopleAt_16 (e_oi h hg) (by decide) (by decide)
  · exact j_escV C X (c_X5_checkPlace n G σ o0 a1 ho0 _ _ h3) dX5_peopleAt_2 (gV u_210 u_213 u_214 u_211 u_212) rfl hy_X5_checkPlace rfl ho0 rfl (ci := 9) rfl rfl rfl (by decide) (Nat.le_of_ble_eq_true rfl) (by decide) (e_x h hg)
def sp_X5_peopleTotal (n : Nat) (σ : Mem) (o0 : Nat) : Option (Int32 × Mem) := ((sp_X1_allPeople n σ ((rf o0 0))).bind fun q => match q with | (r1, σ2) => some (r1, σ2))
abbrev rm_X5_peopleTotal : Room := ({ frames := 12, cells := 0, slots := 0, locals := 243 } : Room)
abbrev wu_X5_peopleTotal : List Cond := (Cond.code yX5_peopleTotal cX5_peopleTotal 1 (some .int)) :: wsU
theorem hy_X5_peopleTotal : hyOk yX5_peopleTotal 0 := by decide +kernel
set_option maxRecDepth 20000 in
set_option maxHeartbeats 4000000 in
theorem c_X5_peopleTotal (n : Nat) (G : Gt) (σ : Mem) (o0 : Nat) (ho0 : Ok o0 5) (r : Int32) (σ' : Mem) (h : sp_X5_peopleTotal n σ o0 = some (r, σ')) : MM yX5_peopleTotal wu_X5_peopleTotal rm_X5_peopleTotal [.ref (G.2.2 (o0))] G σ (.inl (some (.int r))) σ' := by
  refine mm_of (cc := cX5_peopleTotal) (maxL := 1) (ret := (some .int)) (by decide +kernel) rfl (Nat.le_of_ble_eq_true rfl) (fun x C X hg => ?_)
  have C : Cx x cX5_peopleTotal 1 RX5 (some .int) [] wu_X5_peopleTotal rm_X5_peopleTotal G.1 (tysF G) := C
  unfold sp_X5_peopleTotal at h
  show J x [(0, .ref (G.2.2 (o0)))] [] σ 0 0 0
  refine j_aload_n C dX5_peopleTotal_0 0 rfl ?_
  refine j_get C X dX5_peopleTotal_1 ho0 rfl rfl 0 (by decide) (fin := true) rfl rfl in_X5 (mU u_208) ?_
  obtain ⟨⟨r1, σ2⟩, h3, h⟩ := ob h
  try dsimp only at h
  refine j_callV C X (c_X1_allPeople n G σ ((rf o0 0)) (sh_5_0 ho0) _ _ h3) dX5_peopleTotal_4 (gV u_271 u_273 u_274 u_98 u_272) rfl hy_X1_allPeople rfl (sh_5_0 ho0) rfl (ci := 5) rfl rfl rfl (by decide) (Nat.le_of_ble_eq_true rfl) (by decide) ?_
  exact j_ireturn C dX5_peopleTotal_7 (e_i h hg) (by decide) (by decide)
def lp_X5_endangered_4 (n : Nat) (o0 : Nat) : Nat → Mem → Int32 → Int32 → Option (Int32 × Mem)
  | 0, _, _, _ => none
  | k + 1, σ, l1, l2 => if (σ.1 (rf o0 0) 4) < l2 then some (l1, σ) else ((sp_X1_place n σ ((rf o0 0)) l2).bind fun q => match q with | (r2, σ3) => if Ok r2 0 then ((sp_X1_hasAlarm n σ3 ((rf o0 0)) r2).bind fun q => match q with | (r6, σ7) => if r6 = 0 then lp_X5_endangered_4 n o0 k σ7 l1 ((l2 + (1 : Int32))) else lp_X5_endangered_4 n o0 k σ7 ((l1 + (σ7.1 r2 8))) ((l2 + (1 : Int32)))) else none)
theorem lp_X5_endangered_4_s (n : Nat) (o0 : Nat) (k : Nat) (σ : Mem) (l1 : Int32) (l2 : Int32) : lp_X5_endangered_4 n o0 (k + 1) σ l1 l2 = (if (σ.1 (rf o0 0) 4) < l2 then some (l1, σ) else ((sp_X1_place n σ ((rf o0 0)) l2).bind fun q => match q with | (r2, σ3) => if Ok r2 0 then ((sp_X1_hasAlarm n σ3 ((rf o0 0)) r2).bind fun q => match q with | (r6, σ7) => if r6 = 0 then lp_X5_endangered_4 n o0 k σ7 l1 ((l2 + (1 : Int32))) else lp_X5_endangered_4 n o0 k σ7 ((l1 + (σ7.1 r2 8))) ((l2 + (1 : Int32)))) else none)) := rfl
def sp_X5_endangered (n : Nat) (σ : Mem) (o0 : Nat) : Option (Int32 × Mem) := lp_X5_endangered_4 n o0 n σ ((0 : Int32)) ((1 : Int32))
abbrev rm_X5_endangered : Room := ({ frames := 12, cells := 0, slots := 0, locals := 241 } : Room)
abbrev wu_X5_endangered : List Cond := (Cond.code yX5_endangered cX5_endangered 4 (some .int)) :: wsU
theorem hy_X5_endangered : hyOk yX5_endangered 0 := by decide +kernel
set_option maxRecDepth 20000 in
set_option maxHeartbeats 4000000 in
theorem c_X5_endangered (n : Nat) (G : Gt) (σ : Mem) (o0 : Nat) (ho0 : Ok o0 5) (r : Int32) (σ' : Mem) (h : sp_X5_endangered n σ o0 = some (r, σ')) : MM yX5_endangered wu_X5_endangered rm_X5_endangered [.ref (G.2.2 (o0))] G σ (.inl (some (.int r))) σ' := by
  refine mm_of (cc := cX5_endangered) (maxL := 4) (ret := (some .int)) (by decide +kernel) rfl (Nat.le_of_ble_eq_true rfl) (fun x C X hg => ?_)
  have C : Cx x cX5_endangered 4 RX5 (some .int) [] wu_X5_endangered rm_X5_endangered G.1 (tysF G) := C
  have LP4 : ∀ (k : Nat) (σ : Mem) (l1 : Int32) (l2 : Int32), lp_X5_endangered_4 n o0 k σ l1 l2 = some (r, σ') → J x [(0, .ref (G.2.2 (o0))), (1, .int (l1)), (2, .int (l2))] [] σ 4 0 0 := by
    intro k
    induction k with
    | zero => intro σ l1 l2  h; cases h
    | succ k ih =>
    intro σ l1 l2  h
    rw [lp_X5_endangered_4_s] at h
    refine j_iload_n C dX5_endangered_4 2 rfl ?_
    refine j_aload_n C dX5_endangered_5 0 rfl ?_
    refine j_get C X dX5_endangered_6 ho0 rfl rfl 0 (by decide) (fin := true) rfl rfl in_X5 (mU u_208) ?_
    refine j_get C X dX5_endangered_9 (sh_5_0 ho0) rfl rfl 4 (by decide) (fin := false) rfl rfl in_X1 (mU u_209) ?_
    refine j_icmp_gt C dX5_endangered_12 48 (by decide) (fun c1 => ?_) (fun c1 => ?_)
    · have h := (if_pos c1).symm.trans h
      refine j_iload_n C dX5_endangered_48 1 rfl ?_
      exact j_ireturn C dX5_endangered_49 (e_i h hg) (by decide) (by decide)
    · have h := (if_neg c1).symm.trans h
      refine j_aload_n C dX5_endangered_15 0 rfl ?_
      refine j_get C X dX5_endangered_16 ho0 rfl rfl 0 (by decide) (fin := true) rfl rfl in_X5 (mU u_208) ?_
      refine j_iload_n C dX5_endangered_19 2 rfl ?_
      obtain ⟨⟨r2, σ3⟩, h4, h⟩ := ob h
      try dsimp only at h
      obtain ⟨k5, h⟩ := sg h
      refine j_callV C X (c_X1_place n G σ ((rf o0 0)) l2 (sh_5_0 ho0) _ _ h4) dX5_endangered_20 (gV u_231 u_100 u_101 u_98 u_99) rfl hy_X1_place rfl (sh_5_0 ho0) rfl (ci := 5) rfl rfl rfl (by decide) (Nat.le_of_ble_eq_true rfl) (by decide) ?_
      refine j_astore_n C dX5_endangered_23 (by decide) [(3, .ref (G.2.2 (r2))), (0, .ref (G.2.2 (o0))), (1, .int (l1)), (2, .int (l2))] rfl ?_
      refine j_aload_n C dX5_endangered_24 1 rfl ?_
      refine j_get C X dX5_endangered_25 ho0 rfl rfl 0 (by decide) (fin := true) rfl rfl in_X5 (mU u_208) ?_
      refine j_aload_n C dX5_endangered_28 0 rfl ?_
      obtain ⟨⟨r6, σ7⟩, h8, h⟩ := ob h
      try dsimp only at h
      refine j_callV C X (c_X1_hasAlarm n G σ3 ((rf o0 0)) r2 (sh_5_0 ho0) k5 _ _ h8) dX5_endangered_29 (gV u_257 u_150 u_151 u_98 u_149) rfl hy_X1_hasAlarm rfl (sh_5_0 ho0) rfl (ci := 5) rfl rfl rfl (by decide) (Nat.le_of_ble_eq_true rfl) (by decide) ?_
      refine j_if_eq C dX5_endangered_32 42 (by decide) (fun c9 => ?_) (fun c9 => ?_)
      · have h := (if_pos c9).symm.trans h
        refine j_iinc C dX5_endangered_42 3 rfl ((1 : Int32)) (by decide) (by decide) [(2, .int ((l2 + (1 : Int32)))), (3, .ref (G.2.2 (r2))), (0, .ref (G.2.2 (o0))), (1, .int (l1))] rfl ?_
        refine j_goto C dX5_endangered_45 4 (by decide) ?_
        refine j_sub [2, 3, 0] [(0, .ref (G.2.2 (o0))), (1, .int (l1)), (2, .int ((l2 + (1 : Int32))))] rfl ?_
        exact ih σ7 l1 ((l2 + (1 : Int32)))  h
      · have h := (if_neg c9).symm.trans h
        refine j_iload_n C dX5_endangered_35 2 rfl ?_
        refine j_aload_n C dX5_endangered_36 0 rfl ?_
        refine j_get C X dX5_endangered_37 k5 rfl rfl 8 (by decide) (fin := false) rfl rfl in_X0 (mU u_276) ?_
        refine j_iadd C dX5_endangered_40 ?_
        refine j_istore_n C dX5_endangered_41 (by decide) [(1, .int ((l1 + (σ7.1 r2 8)))), (3, .ref (G.2.2 (r2))), (0, .ref (G.2.2 (o0))), (2, .int (l2))] rfl ?_
        refine j_iinc C dX5_endangered_42 3 rfl ((1 : Int32)) (by decide) (by decide) [(2, .int ((l2 + (1 : Int32)))), (1, .int ((l1 + (σ7.1 r2 8)))), (3, .ref (G.2.2 (r2))), (0, .ref (G.2.2 (o0)))] rfl ?_
        refine j_goto C dX5_endangered_45 4 (by decide) ?_
        refine j_sub [3, 1, 0] [(0, .ref (G.2.2 (o0))), (1, .int ((l1 + (σ7.1 r2 8)))), (2, .int ((l2 + (1 : Int32))))] rfl ?_
        exact ih σ7 ((l1 + (σ7.1 r2 8))) ((l2 + (1 : Int32)))  h
  unfold sp_X5_endangered at h
  show J x [(0, .ref (G.2.2 (o0)))] [] σ 0 0 0
  refine j_iconst C dX5_endangered_0 ((0 : Int32)) (by decide) ?_
  refine j_istore_n C dX5_endangered_1 (by decide) [(1, .int ((0 : Int32))), (0, .ref (G.2.2 (o0)))] rfl ?_
  refine j_iconst C dX5_endangered_2 ((1 : Int32)) (by decide) ?_
  refine j_istore_n C dX5_endangered_3 (by decide) [(2, .int ((1 : Int32))), (1, .int ((0 : Int32))), (0, .ref (G.2.2 (o0)))] rfl ?_
  refine j_sub [2, 1, 0] [(0, .ref (G.2.2 (o0))), (1, .int ((0 : Int32))), (2, .int ((1 : Int32)))] rfl ?_
  exact LP4 n σ ((0 : Int32)) ((1 : Int32))  h
def sp_X5_oreAt (n : Nat) (σ : Mem) (o0 : Nat) (a1 : Int32) : Option ((Int32 ⊕ String) × Mem) := ((sp_X5_checkPlace n σ o0 a1).bind fun q => match q with | (.inl _, σ2) => ((sp_X1_place n σ2 ((rf o0 0)) a1).bind fun q => match q with | (r4, σ5) => if Ok r4 0 then some (.inl ((σ5.1 r4 9)), σ5) else none) | (.inr E, σ2) => some (.inr E, σ2))
abbrev rm_X5_oreAt : Room := ({ frames := 11, cells := 1, slots := 6, locals := 221 } : Room)
abbrev wu_X5_oreAt : List Cond := (Cond.code yX5_oreAt cX5_oreAt 2 (some .int)) :: wsU
theorem hy_X5_oreAt : hyOk yX5_oreAt 1 := by decide +kernel
set_option maxRecDepth 20000 in
set_option maxHeartbeats 4000000 in
theorem c_X5_oreAt (n : Nat) (G : Gt) (σ : Mem) (o0 : Nat) (a1 : Int32) (ho0 : Ok o0 5) (r : Int32 ⊕ String) (σ' : Mem) (h : sp_X5_oreAt n σ o0 a1 = some (r, σ')) : MM yX5_oreAt wu_X5_oreAt rm_X5_oreAt [.ref (G.2.2 (o0)), .int (a1)] G σ (oc r) σ' := by
  refine mm_of (cc := cX5_oreAt) (maxL := 2) (ret := (some .int)) (by decide +kernel) rfl (Nat.le_of_ble_eq_true rfl) (fun x C X hg => ?_)
  have C : Cx x cX5_oreAt 2 RX5 (some .int) [] wu_X5_oreAt rm_X5_oreAt G.1 (tysF G) := C
  unfold sp_X5_oreAt at h
  show J x [(0, .ref (G.2.2 (o0))), (1, .int (a1))] [] σ 0 0 0
  refine j_aload_n C dX5_oreAt_0 0 rfl ?_
  refine j_iload_n C dX5_oreAt_1 1 rfl ?_
  obtain ⟨⟨r1, σ2⟩, h3, h⟩ := ob h
  try dsimp only at h
  rcases r1 with r1 | r1 <;> (try dsimp only at h)
  · refine j_callV C X (c_X5_checkPlace n G σ o0 a1 ho0 _ _ h3) dX5_oreAt_2 (gV u_210 u_213 u_214 u_211 u_212) rfl hy_X5_checkPlace rfl ho0 rfl (ci := 9) rfl rfl rfl (by decide) (Nat.le_of_ble_eq_true rfl) (by decide) ?_
    refine j_aload_n C dX5_oreAt_5 0 rfl ?_
    refine j_get C X dX5_oreAt_6 ho0 rfl rfl 0 (by decide) (fin := true) rfl rfl in_X5 (mU u_208) ?_
    refine j_iload_n C dX5_oreAt_9 1 rfl ?_
    obtain ⟨⟨r4, σ5⟩, h6, h⟩ := ob h
    try dsimp only at h
    obtain ⟨k7, h⟩ := sg h
    refine j_callV C X (c_X1_place n G σ2 ((rf o0 0)) a1 (sh_5_0 ho0) _ _ h6) dX5_oreAt_10 (gV u_231 u_100 u_101 u_98 u_99) rfl hy_X1_place rfl (sh_5_0 ho0) rfl (ci := 5) rfl rfl rfl (by decide) (Nat.le_of_ble_eq_true rfl) (by decide) ?_
    refine j_get C X dX5_oreAt_13 k7 rfl rfl 9 (by decide) (fin := false) rfl rfl in_X0 (mU u_277) ?_
    exact j_ireturn C dX5_oreAt_16 (e_oi h hg) (by decide) (by decide)
  · exact j_escV C X (c_X5_checkPlace n G σ o0 a1 ho0 _ _ h3) dX5_oreAt_2 (gV u_210 u_213 u_214 u_211 u_212) rfl hy_X5_checkPlace rfl ho0 rfl (ci := 9) rfl rfl rfl (by decide) (Nat.le_of_ble_eq_true rfl) (by decide) (e_x h hg)
def sp_X5_blast (n : Nat) (σ : Mem) (o0 : Nat) (a1 : Int32) (a2 : Int32) : Option ((Int32 ⊕ String) × Mem) := ((sp_X5_checkLevel n σ o0 a1).bind fun q => match q with | (.inl _, σ2) => ((sp_X5_checkRange n σ2 a2 ((1 : Int32)) ((20 : Int32))).bind fun q => match q with | (.inl _, σ5) => ((sp_X1_place n σ5 ((rf o0 0)) a1).bind fun q => match q with | (r7, σ8) => if Ok r7 0 then ((sp_X1_isShut n σ8 ((rf o0 0)) r7).bind fun q => match q with | (r11, σ12) => if r11 = 0 then if 0 < (σ12.1 r7 8) then some (.inr "java/lang/UnsupportedOperationException", σ12) else ((sp_X3_isTo n σ12 ((rf (rf o0 0) 3)) a1).bind fun q => match q with | (r16, σ17) => if r16 = 0 then ((sp_X1_letGasIn n σ17 ((rf o0 0)) r7 (((5 : Int32) * a2))).bind fun q => match q with | (_, σ21) => (lm (wi σ21 r7 9 ((σ21.1 r7 9) + ((3 : Int32) * a2))) fun σ23 => (lm (wi σ23 r7 10 ((σ23.1 (rf o0 0) 8) + (30 : Int32))) fun σ25 => some (.inl ((σ25.1 r7 10)), σ25)))) else some (.inr "java/lang/UnsupportedOperationException", σ17)) else some (.inr "java/lang/IllegalStateException", σ12)) else none) | (.inr E, σ5) => some (.inr E, σ5)) | (.inr E, σ2) => some (.inr E, σ2))
abbrev rm_X5_blast : Room := ({ frames := 12, cells := 3, slots := 18, locals := 242 } : Room)
abbrev wu_X5_blast : List Cond := (Cond.code yX5_blast cX5_blast 4 (some .int)) :: wsU
theorem hy_X5_blast : hyOk yX5_blast 2 := by decide +kernel
set_option maxRecDepth 20000 in
set_option maxHeartbeats 4000000 in
theorem c_X5_blast (n : Nat) (G : Gt) (σ : Mem) (o0 : Nat) (a1 : Int32) (a2 : Int32) (ho0 : Ok o0 5) (r : Int32 ⊕ String) (σ' : Mem) (h : sp_X5_blast n σ o0 a1 a2 = some (r, σ')) : MM yX5_blast wu_X5_blast rm_X5_blast [.ref (G.2.2 (o0)), .int (a1), .int (a2)] G σ (oc r) σ' := by
  refine mm_of (cc := cX5_blast) (maxL := 4) (ret := (some .int)) (by decide +kernel) rfl (Nat.le_of_ble_eq_true rfl) (fun x C X hg => ?_)
  have C : Cx x cX5_blast 4 RX5 (some .int) [] wu_X5_blast rm_X5_blast G.1 (tysF G) := C
  unfold sp_X5_blast at h
  show J x [(0, .ref (G.2.2 (o0))), (1, .int (a1)), (2, .int (a2))] [] σ 0 0 0
  refine j_aload_n C dX5_blast_0 0 rfl ?_
  refine j_iload_n C dX5_blast_1 1 rfl ?_
  obtain ⟨⟨r1, σ2⟩, h3, h⟩ := ob h
  try dsimp only at h
  rcases r1 with r1 | r1 <;> (try dsimp only at h)
  · refine j_callV C X (c_X5_checkLevel n G σ o0 a1 ho0 _ _ h3) dX5_blast_2 (gV u_243 u_245 u_246 u_211 u_244) rfl hy_X5_checkLevel rfl ho0 rfl (ci := 9) rfl rfl rfl (by decide) (Nat.le_of_ble_eq_true rfl) (by decide) ?_
    refine j_iload_n C dX5_blast_5 2 rfl ?_
    refine j_iconst C dX5_blast_6 ((1 : Int32)) (by decide) ?_
    refine j_bipush C dX5_blast_7 ((20 : Int32)) (by decide) ?_
    obtain ⟨⟨r4, σ5⟩, h6, h⟩ := ob h
    try dsimp only at h
    rcases r4 with r4 | r4 <;> (try dsimp only at h)
    · refine j_callS C X (c_X5_checkRange n G σ2 a2 ((1 : Int32)) ((20 : Int32))  _ _ h6) dX5_blast_9 (gS u_228 u_230 u_211 u_229) rfl hy_X5_checkRange rfl rfl (by decide) (Nat.le_of_ble_eq_true rfl) (by decide) ?_
      refine j_aload_n C dX5_blast_12 0 rfl ?_
      refine j_get C X dX5_blast_13 ho0 rfl rfl 0 (by decide) (fin := true) rfl rfl in_X5 (mU u_208) ?_
      refine j_iload_n C dX5_blast_16 1 rfl ?_
      obtain ⟨⟨r7, σ8⟩, h9, h⟩ := ob h
      try dsimp only at h
      obtain ⟨k10, h⟩ := sg h
      refine j_callV C X (c_X1_place n G σ5 ((rf o0 0)) a1 (sh_5_0 ho0) _ _ h9) dX5_blast_17 (gV u_231 u_100 u_101 u_98 u_99) rfl hy_X1_place rfl (sh_5_0 ho0) rfl (ci := 5) rfl rfl rfl (by decide) (Nat.le_of_ble_eq_true rfl) (by decide) ?_
      refine j_astore_n C dX5_blast_20 (by decide) [(3, .ref (G.2.2 (r7))), (0, .ref (G.2.2 (o0))), (1, .int (a1)), (2, .int (a2))] rfl ?_
      refine j_aload_n C dX5_blast_21 1 rfl ?_
      refine j_get C X dX5_blast_22 ho0 rfl rfl 0 (by decide) (fin := true) rfl rfl in_X5 (mU u_208) ?_
      refine j_aload_n C dX5_blast_25 0 rfl ?_
      obtain ⟨⟨r11, σ12⟩, h13, h⟩ := ob h
      try dsimp only at h
      refine j_callV C X (c_X1_isShut n G σ8 ((rf o0 0)) r7 (sh_5_0 ho0) k10 _ _ h13) dX5_blast_26 (gV u_278 u_156 u_157 u_98 u_155) rfl hy_X1_isShut rfl (sh_5_0 ho0) rfl (ci := 5) rfl rfl rfl (by decide) (Nat.le_of_ble_eq_true rfl) (by decide) ?_
      refine j_if_eq C dX5_blast_29 42 (by decide) (fun c14 => ?_) (fun c14 => ?_)
      · have h := (if_pos c14).symm.trans h
        refine j_aload_n C dX5_blast_42 0 rfl ?_
        refine j_get C X dX5_blast_43 k10 rfl rfl 8 (by decide) (fin := false) rfl rfl in_X0 (mU u_276) ?_
        refine j_if_gt C dX5_blast_46 63 (by decide) (fun c15 => ?_) (fun c15 => ?_)
        · have h := (if_pos c15).symm.trans h
          exact j_throw C ["java/lang/RuntimeException", "java/lang/Exception"] dX5_blast_63 dX5_blast_66 dX5_blast_67 dX5_blast_69 dX5_blast_72 (text := "people or the hoist are in the way") (by decide +kernel) (by decide +kernel) (mU u_279) (mU u_280) (by decide +kernel) tw_160 tn_160 (by decide) (tgc tg_160) (by decide) (Nat.le_of_ble_eq_true rfl) (by decide) (by decide) X.grow (e_x h hg)
        · have h := (if_neg c15).symm.trans h
          refine j_aload_n C dX5_blast_49 1 rfl ?_
          refine j_get C X dX5_blast_50 ho0 rfl rfl 0 (by decide) (fin := true) rfl rfl in_X5 (mU u_208) ?_
          refine j_get C X dX5_blast_53 (sh_5_0 ho0) rfl rfl 3 (by decide) (fin := true) rfl rfl in_X1 (mU u_215) ?_
          refine j_iload_n C dX5_blast_56 2 rfl ?_
          obtain ⟨⟨r16, σ17⟩, h18, h⟩ := ob h
          try dsimp only at h
          refine j_callV C X (c_X3_isTo n G σ12 ((rf (rf o0 0) 3)) a1 (sh_1_3 (sh_5_0 ho0)) _ _ h18) dX5_blast_57 (gV u_281 u_283 u_284 u_25 u_282) rfl hy_X3_isTo rfl (sh_1_3 (sh_5_0 ho0)) rfl (ci := 7) rfl rfl rfl (by decide) (Nat.le_of_ble_eq_true rfl) (by decide) ?_
          refine j_if_eq C dX5_blast_60 73 (by decide) (fun c19 => ?_) (fun c19 => ?_)
          · have h := (if_pos c19).symm.trans h
            refine j_aload_n C dX5_blast_73 1 rfl ?_
            refine j_get C X dX5_blast_74 ho0 rfl rfl 0 (by decide) (fin := true) rfl rfl in_X5 (mU u_208) ?_
            refine j_aload_n C dX5_blast_77 0 rfl ?_
            refine j_iconst C dX5_blast_78 ((5 : Int32)) (by decide) ?_
            refine j_iload_n C dX5_blast_79 3 rfl ?_
            refine j_imul C dX5_blast_80 ?_
            obtain ⟨⟨r20, σ21⟩, h22, h⟩ := ob h
            try dsimp only at h
            refine j_callV C X (c_X1_letGasIn n G σ17 ((rf o0 0)) r7 (((5 : Int32) * a2)) (sh_5_0 ho0) k10 _ _ h22) dX5_blast_81 (gV u_285 u_124 u_125 u_98 u_123) rfl hy_X1_letGasIn rfl (sh_5_0 ho0) rfl (ci := 5) rfl rfl rfl (by decide) (Nat.le_of_ble_eq_true rfl) (by decide) ?_
            refine j_aload_n C dX5_blast_84 0 rfl ?_
            refine j_dup C dX5_blast_85 rfl ?_
            refine j_get C X dX5_blast_86 k10 rfl rfl 9 (by decide) (fin := false) rfl rfl in_X0 (mU u_277) ?_
            refine j_iconst C dX5_blast_89 ((3 : Int32)) (by decide) ?_
            refine j_iload_n C dX5_blast_90 3 rfl ?_
            refine j_imul C dX5_blast_91 ?_
            refine j_iadd C dX5_blast_92 ?_
            obtain ⟨σ23, e24, h⟩ := lm_e h
            refine j_put C X dX5_blast_93 k10 (ty0 := tyX0) rfl rfl 9 (by decide) rfl rfl (Nat.le_of_ble_eq_true rfl) tyX0_ok nmX0 (ty := .int) rfl rfl rfl in_X0 (mU u_277) e24 ?_
            refine j_aload_n C dX5_blast_96 0 rfl ?_
            refine j_aload_n C dX5_blast_97 1 rfl ?_
            refine j_get C X dX5_blast_98 ho0 rfl rfl 0 (by decide) (fin := true) rfl rfl in_X5 (mU u_208) ?_
            refine j_get C X dX5_blast_101 (sh_5_0 ho0) rfl rfl 8 (by decide) (fin := false) rfl rfl in_X1 (mU u_233) ?_
            refine j_bipush C dX5_blast_104 ((30 : Int32)) (by decide) ?_
            refine j_iadd C dX5_blast_106 ?_
            obtain ⟨σ25, e26, h⟩ := lm_e h
            refine j_put C X dX5_blast_107 k10 (ty0 := tyX0) rfl rfl 10 (by decide) rfl rfl (Nat.le_of_ble_eq_true rfl) tyX0_ok nmX0 (ty := .int) rfl rfl rfl in_X0 (mU u_286) e26 ?_
            refine j_aload_n C dX5_blast_110 0 rfl ?_
            refine j_get C X dX5_blast_111 k10 rfl rfl 10 (by decide) (fin := false) rfl rfl in_X0 (mU u_286) ?_
            exact j_ireturn C dX5_blast_114 (e_oi h hg) (by decide) (by decide)
          · have h := (if_neg c19).symm.trans h
            exact j_throw C ["java/lang/RuntimeException", "java/lang/Exception"] dX5_blast_63 dX5_blast_66 dX5_blast_67 dX5_blast_69 dX5_blast_72 (text := "people or the hoist are in the way") (by decide +kernel) (by decide +kernel) (mU u_279) (mU u_280) (by decide +kernel) tw_160 tn_160 (by decide) (tgc tg_160) (by decide) (Nat.le_of_ble_eq_true rfl) (by decide) (by decide) X.grow (e_x h hg)
      · have h := (if_neg c14).symm.trans h
        exact j_throw C ["java/lang/RuntimeException", "java/lang/Exception"] dX5_blast_32 dX5_blast_35 dX5_blast_36 dX5_blast_38 dX5_blast_41 (text := "the level is closed") (by decide +kernel) (by decide +kernel) (mU u_226) (mU u_227) (by decide +kernel) tw_57 tn_57 (by decide) (tgc tg_57) (by decide) (Nat.le_of_ble_eq_true rfl) (by decide) (by decide) X.grow (e_x h hg)
    · exact j_escS C X (c_X5_checkRange n G σ2 a2 ((1 : Int32)) ((20 : Int32))  _ _ h6) dX5_blast_9 (gS u_228 u_230 u_211 u_229) rfl hy_X5_checkRange rfl rfl (by decide) (Nat.le_of_ble_eq_true rfl) (by decide) (e_x h hg)
  · exact j_escV C X (c_X5_checkLevel n G σ o0 a1 ho0 _ _ h3) dX5_blast_2 (gV u_243 u_245 u_246 u_211 u_244) rfl hy_X5_checkLevel rfl ho0 rfl (ci := 9) rfl rfl rfl (by decide) (Nat.le_of_ble_eq_true rfl) (by decide) (e_x h hg)
def sp_X5_isClosed (n : Nat) (σ : Mem) (o0 : Nat) (a1 : Int32) : Option ((Int32 ⊕ String) × Mem) := ((sp_X5_checkLevel n σ o0 a1).bind fun q => match q with | (.inl _, σ2) => ((sp_X1_place n σ2 ((rf o0 0)) a1).bind fun q => match q with | (r4, σ5) => if Ok r4 0 then ((sp_X1_isShut n σ5 ((rf o0 0)) r4).bind fun q => match q with | (r8, σ9) => if r8 = 0 ∨ r8 = 1 then some (.inl r8, σ9) else none) else none) | (.inr E, σ2) => some (.inr E, σ2))
abbrev rm_X5_isClosed : Room := ({ frames := 12, cells := 1, slots := 6, locals := 242 } : Room)
abbrev wu_X5_isClosed : List Cond := (Cond.code yX5_isClosed cX5_isClosed 2 (some .boolean)) :: wsU
theorem hy_X5_isClosed : hyOk yX5_isClosed 1 := by decide +kernel
set_option maxRecDepth 20000 in
set_option maxHeartbeats 4000000 in
theorem c_X5_isClosed (n : Nat) (G : Gt) (σ : Mem) (o0 : Nat) (a1 : Int32) (ho0 : Ok o0 5) (r : Int32 ⊕ String) (σ' : Mem) (h : sp_X5_isClosed n σ o0 a1 = some (r, σ')) : MM yX5_isClosed wu_X5_isClosed rm_X5_isClosed [.ref (G.2.2 (o0)), .int (a1)] G σ (oc r) σ' := by
  refine mm_of (cc := cX5_isClosed) (maxL := 2) (ret := (some .boolean)) (by decide +kernel) rfl (Nat.le_of_ble_eq_true rfl) (fun x C X hg => ?_)
  have C : Cx x cX5_isClosed 2 RX5 (some .boolean) [] wu_X5_isClosed rm_X5_isClosed G.1 (tysF G) := C
  unfold sp_X5_isClosed at h
  show J x [(0, .ref (G.2.2 (o0))), (1, .int (a1))] [] σ 0 0 0
  refine j_aload_n C dX5_isClosed_0 0 rfl ?_
  refine j_iload_n C dX5_isClosed_1 1 rfl ?_
  obtain ⟨⟨r1, σ2⟩, h3, h⟩ := ob h
  try dsimp only at h
  rcases r1 with r1 | r1 <;> (try dsimp only at h)
  · refine j_callV C X (c_X5_checkLevel n G σ o0 a1 ho0 _ _ h3) dX5_isClosed_2 (gV u_243 u_245 u_246 u_211 u_244) rfl hy_X5_checkLevel rfl ho0 rfl (ci := 9) rfl rfl rfl (by decide) (Nat.le_of_ble_eq_true rfl) (by decide) ?_
    refine j_aload_n C dX5_isClosed_5 0 rfl ?_
    refine j_get C X dX5_isClosed_6 ho0 rfl rfl 0 (by decide) (fin := true) rfl rfl in_X5 (mU u_208) ?_
    refine j_aload_n C dX5_isClosed_9 0 rfl ?_
    refine j_get C X dX5_isClosed_10 ho0 rfl rfl 0 (by decide) (fin := true) rfl rfl in_X5 (mU u_208) ?_
    refine j_iload_n C dX5_isClosed_13 1 rfl ?_
    obtain ⟨⟨r4, σ5⟩, h6, h⟩ := ob h
    try dsimp only at h
    obtain ⟨k7, h⟩ := sg h
    refine j_callV C X (c_X1_place n G σ2 ((rf o0 0)) a1 (sh_5_0 ho0) _ _ h6) dX5_isClosed_14 (gV u_231 u_100 u_101 u_98 u_99) rfl hy_X1_place rfl (sh_5_0 ho0) rfl (ci := 5) rfl rfl rfl (by decide) (Nat.le_of_ble_eq_true rfl) (by decide) ?_
    obtain ⟨⟨r8, σ9⟩, h10, h⟩ := ob h
    try dsimp only at h
    refine j_callV C X (c_X1_isShut n G σ5 ((rf o0 0)) r4 (sh_5_0 ho0) k7 _ _ h10) dX5_isClosed_17 (gV u_278 u_156 u_157 u_98 u_155) rfl hy_X1_isShut rfl (sh_5_0 ho0) rfl (ci := 5) rfl rfl rfl (by decide) (Nat.le_of_ble_eq_true rfl) (by decide) ?_
    obtain ⟨g11, h⟩ := sg h
    exact j_zreturn C (nar_z g11).1 dX5_isClosed_20 (e_oi h hg) (by decide) (by decide)
  · exact j_escV C X (c_X5_checkLevel n G σ o0 a1 ho0 _ _ h3) dX5_isClosed_2 (gV u_243 u_245 u_246 u_211 u_244) rfl hy_X5_checkLevel rfl ho0 rfl (ci := 9) rfl rfl rfl (by decide) (Nat.le_of_ble_eq_true rfl) (by decide) (e_x h hg)
def sp_X5_setSpeed (n : Nat) (σ : Mem) (o0 : Nat) (a1 : Int32) : Option ((Int32 ⊕ String) × Mem) := ((sp_X5_checkRange n σ a1 ((10 : Int32)) ((500 : Int32))).bind fun q => match q with | (.inl _, σ2) => (lm (wi σ2 (rf o0 0) 7 a1) fun σ4 => some (.inl ((σ2.1 (rf o0 0) 7)), σ4)) | (.inr E, σ2) => some (.inr E, σ2))
abbrev rm_X5_setSpeed : Room := ({ frames := 11, cells := 1, slots := 6, locals := 222 } : Room)
abbrev wu_X5_setSpeed : List Cond := (Cond.code yX5_setSpeed cX5_setSpeed 3 (some .int)) :: wsU
theorem hy_X5_setSpeed : hyOk yX5_setSpeed 1 := by decide +kernel
set_option maxRecDepth 20000 in
set_option maxHeartbeats 4000000 in
theorem c_X5_setSpeed (n : Nat) (G : Gt) (σ : Mem) (o0 : Nat) (a1 : Int32) (ho0 : Ok o0 5) (r : Int32 ⊕ String) (σ' : Mem) (h : sp_X5_setSpeed n σ o0 a1 = some (r, σ')) : MM yX5_setSpeed wu_X5_setSpeed rm_X5_setSpeed [.ref (G.2.2 (o0)), .int (a1)] G σ (oc r) σ' := by
  refine mm_of (cc := cX5_setSpeed) (maxL := 3) (ret := (some .int)) (by decide +kernel) rfl (Nat.le_of_ble_eq_true rfl) (fun x C X hg => ?_)
  have C : Cx x cX5_setSpeed 3 RX5 (some .int) [] wu_X5_setSpeed rm_X5_setSpeed G.1 (tysF G) := C
  unfold sp_X5_setSpeed at h
  show J x [(0, .ref (G.2.2 (o0))), (1, .int (a1))] [] σ 0 0 0
  refine j_iload_n C dX5_setSpeed_0 1 rfl ?_
  refine j_bipush C dX5_setSpeed_1 ((10 : Int32)) (by decide) ?_
  refine j_sipush C dX5_setSpeed_3 ((500 : Int32)) (by decide) ?_
  obtain ⟨⟨r1, σ2⟩, h3, h⟩ := ob h
  try dsimp only at h
  rcases r1 with r1 | r1 <;> (try dsimp only at h)
  · refine j_callS C X (c_X5_checkRange n G σ a1 ((10 : Int32)) ((500 : Int32))  _ _ h3) dX5_setSpeed_6 (gS u_228 u_230 u_211 u_229) rfl hy_X5_checkRange rfl rfl (by decide) (Nat.le_of_ble_eq_true rfl) (by decide) ?_
    refine j_aload_n C dX5_setSpeed_9 0 rfl ?_
    refine j_get C X dX5_setSpeed_10 ho0 rfl rfl 0 (by decide) (fin := true) rfl rfl in_X5 (mU u_208) ?_
    refine j_get C X dX5_setSpeed_13 (sh_5_0 ho0) rfl rfl 7 (by decide) (fin := false) rfl rfl in_X1 (mU u_287) ?_
    refine j_istore_n C dX5_setSpeed_16 (by decide) [(2, .int ((σ2.1 (rf o0 0) 7))), (0, .ref (G.2.2 (o0))), (1, .int (a1))] rfl ?_
    refine j_aload_n C dX5_setSpeed_17 1 rfl ?_
    refine j_get C X dX5_setSpeed_18 ho0 rfl rfl 0 (by decide) (fin := true) rfl rfl in_X5 (mU u_208) ?_
    refine j_iload_n C dX5_setSpeed_21 2 rfl ?_
    obtain ⟨σ4, e5, h⟩ := lm_e h
    refine j_put C X dX5_setSpeed_22 (sh_5_0 ho0) (ty0 := tyX1) rfl rfl 7 (by decide) rfl rfl (Nat.le_of_ble_eq_true rfl) tyX1_ok nmX1 (ty := .int) rfl rfl rfl in_X1 (mU u_287) e5 ?_
    refine j_iload_n C dX5_setSpeed_25 0 rfl ?_
    exact j_ireturn C dX5_setSpeed_26 (e_oi h hg) (by decide) (by decide)
  · exact j_escS C X (c_X5_checkRange n G σ a1 ((10 : Int32)) ((500 : Int32))  _ _ h3) dX5_setSpeed_6 (gS u_228 u_230 u_211 u_229) rfl hy_X5_checkRange rfl rfl (by decide) (Nat.le_of_ble_eq_true rfl) (by decide) (e_x h hg)
def sp_X5_sendDown (n : Nat) (σ : Mem) (o0 : Nat) (a1 : Int32) (a2 : Int32) : Option ((Int32 ⊕ String) × Mem) := ((sp_X5_checkLevel n σ o0 a1).bind fun q => match q with | (.inl _, σ2) => ((sp_X5_checkRange n σ2 a2 ((1 : Int32)) ((12 : Int32))).bind fun q => match q with | (.inl _, σ5) => ((sp_X1_place n σ5 ((rf o0 0)) a1).bind fun q => match q with | (r7, σ8) => if Ok r7 0 then ((sp_X1_hasAlarm n σ8 ((rf o0 0)) r7).bind fun q => match q with | (r11, σ12) => if r11 = 0 then ((sp_X1_isShut n σ12 ((rf o0 0)) r7).bind fun q => match q with | (r15, σ16) => if r15 = 0 then ((sp_X5_request n σ16 o0 ((100 : Int32)) a1 a2).bind fun q => match q with | (.inl r19, σ20) => some (.inl r19, σ20) | (.inr E, σ20) => some (.inr E, σ20)) else some (.inr "java/lang/UnsupportedOperationException", σ16)) else some (.inr "java/lang/UnsupportedOperationException", σ12)) else none) | (.inr E, σ5) => some (.inr E, σ5)) | (.inr E, σ2) => some (.inr E, σ2))
abbrev rm_X5_sendDown : Room := ({ frames := 13, cells := 3, slots := 18, locals := 272 } : Room)
abbrev wu_X5_sendDown : List Cond := (Cond.code yX5_sendDown cX5_sendDown 4 (some .int)) :: wsU
theorem hy_X5_sendDown : hyOk yX5_sendDown 2 := by decide +kernel
set_option maxRecDepth 20000 in
set_option maxHeartbeats 4000000 in
theorem c_X5_sendDown (n : Nat) (G : Gt) (σ : Mem) (o0 : Nat) (a1 : Int32) (a2 : Int32) (ho0 : Ok o0 5) (r : Int32 ⊕ String) (σ' : Mem) (h : sp_X5_sendDown n σ o0 a1 a2 = some (r, σ')) : MM yX5_sendDown wu_X5_sendDown rm_X5_sendDown [.ref (G.2.2 (o0)), .int (a1), .int (a2)] G σ (oc r) σ' := by
  refine mm_of (cc := cX5_sendDown) (maxL := 4) (ret := (some .int)) (by decide +kernel) rfl (Nat.le_of_ble_eq_true rfl) (fun x C X hg => ?_)
  have C : Cx x cX5_sendDown 4 RX5 (some .int) [] wu_X5_sendDown rm_X5_sendDown G.1 (tysF G) := C
  unfold sp_X5_sendDown at h
  show J x [(0, .ref (G.2.2 (o0))), (1, .int (a1)), (2, .int (a2))] [] σ 0 0 0
  refine j_aload_n C dX5_sendDown_0 0 rfl ?_
  refine j_iload_n C dX5_sendDown_1 1 rfl ?_
  obtain ⟨⟨r1, σ2⟩, h3, h⟩ := ob h
  try dsimp only at h
  rcases r1 with r1 | r1 <;> (try dsimp only at h)
  · refine j_callV C X (c_X5_checkLevel n G σ o0 a1 ho0 _ _ h3) dX5_sendDown_2 (gV u_243 u_245 u_246 u_211 u_244) rfl hy_X5_checkLevel rfl ho0 rfl (ci := 9) rfl rfl rfl (by decide) (Nat.le_of_ble_eq_true rfl) (by decide) ?_
    refine j_iload_n C dX5_sendDown_5 2 rfl ?_
    refine j_iconst C dX5_sendDown_6 ((1 : Int32)) (by decide) ?_
    refine j_bipush C dX5_sendDown_7 ((12 : Int32)) (by decide) ?_
    obtain ⟨⟨r4, σ5⟩, h6, h⟩ := ob h
    try dsimp only at h
    rcases r4 with r4 | r4 <;> (try dsimp only at h)
    · refine j_callS C X (c_X5_checkRange n G σ2 a2 ((1 : Int32)) ((12 : Int32))  _ _ h6) dX5_sendDown_9 (gS u_228 u_230 u_211 u_229) rfl hy_X5_checkRange rfl rfl (by decide) (Nat.le_of_ble_eq_true rfl) (by decide) ?_
      refine j_aload_n C dX5_sendDown_12 0 rfl ?_
      refine j_get C X dX5_sendDown_13 ho0 rfl rfl 0 (by decide) (fin := true) rfl rfl in_X5 (mU u_208) ?_
      refine j_iload_n C dX5_sendDown_16 1 rfl ?_
      obtain ⟨⟨r7, σ8⟩, h9, h⟩ := ob h
      try dsimp only at h
      obtain ⟨k10, h⟩ := sg h
      refine j_callV C X (c_X1_place n G σ5 ((rf o0 0)) a1 (sh_5_0 ho0) _ _ h9) dX5_sendDown_17 (gV u_231 u_100 u_101 u_98 u_99) rfl hy_X1_place rfl (sh_5_0 ho0) rfl (ci := 5) rfl rfl rfl (by decide) (Nat.le_of_ble_eq_true rfl) (by decide) ?_
      refine j_astore_n C dX5_sendDown_20 (by decide) [(3, .ref (G.2.2 (r7))), (0, .ref (G.2.2 (o0))), (1, .int (a1)), (2, .int (a2))] rfl ?_
      refine j_aload_n C dX5_sendDown_21 1 rfl ?_
      refine j_get C X dX5_sendDown_22 ho0 rfl rfl 0 (by decide) (fin := true) rfl rfl in_X5 (mU u_208) ?_
      refine j_aload_n C dX5_sendDown_25 0 rfl ?_
      obtain ⟨⟨r11, σ12⟩, h13, h⟩ := ob h
      try dsimp only at h
      refine j_callV C X (c_X1_hasAlarm n G σ8 ((rf o0 0)) r7 (sh_5_0 ho0) k10 _ _ h13) dX5_sendDown_26 (gV u_257 u_150 u_151 u_98 u_149) rfl hy_X1_hasAlarm rfl (sh_5_0 ho0) rfl (ci := 5) rfl rfl rfl (by decide) (Nat.le_of_ble_eq_true rfl) (by decide) ?_
      refine j_if_ne C dX5_sendDown_29 43 (by decide) (fun c14 => ?_) (fun c14 => ?_)
      · have h := (if_neg c14).symm.trans h
        exact j_throw C ["java/lang/RuntimeException", "java/lang/Exception"] dX5_sendDown_43 dX5_sendDown_46 dX5_sendDown_47 dX5_sendDown_49 dX5_sendDown_52 (text := "nobody may go there now") (by decide +kernel) (by decide +kernel) (mU u_279) (mU u_280) (by decide +kernel) tw_160 tn_160 (by decide) (tgc tg_160) (by decide) (Nat.le_of_ble_eq_true rfl) (by decide) (by decide) X.grow (e_x h hg)
      · have h := (if_pos c14).symm.trans h
        refine j_aload_n C dX5_sendDown_32 1 rfl ?_
        refine j_get C X dX5_sendDown_33 ho0 rfl rfl 0 (by decide) (fin := true) rfl rfl in_X5 (mU u_208) ?_
        refine j_aload_n C dX5_sendDown_36 0 rfl ?_
        obtain ⟨⟨r15, σ16⟩, h17, h⟩ := ob h
        try dsimp only at h
        refine j_callV C X (c_X1_isShut n G σ12 ((rf o0 0)) r7 (sh_5_0 ho0) k10 _ _ h17) dX5_sendDown_37 (gV u_278 u_156 u_157 u_98 u_155) rfl hy_X1_isShut rfl (sh_5_0 ho0) rfl (ci := 5) rfl rfl rfl (by decide) (Nat.le_of_ble_eq_true rfl) (by decide) ?_
        refine j_if_eq C dX5_sendDown_40 53 (by decide) (fun c18 => ?_) (fun c18 => ?_)
        · have h := (if_pos c18).symm.trans h
          refine j_aload_n C dX5_sendDown_53 1 rfl ?_
          refine j_bipush C dX5_sendDown_54 ((100 : Int32)) (by decide) ?_
          refine j_iload_n C dX5_sendDown_56 2 rfl ?_
          refine j_iload_n C dX5_sendDown_57 3 rfl ?_
          obtain ⟨⟨r19, σ20⟩, h21, h⟩ := ob h
          try dsimp only at h
          rcases r19 with r19 | r19 <;> (try dsimp only at h)
          · refine j_callV C X (c_X5_request n G σ16 o0 ((100 : Int32)) a1 a2 ho0 _ _ h21) dX5_sendDown_58 (gV u_288 u_290 u_291 u_211 u_289) rfl hy_X5_request rfl ho0 rfl (ci := 9) rfl rfl rfl (by decide) (Nat.le_of_ble_eq_true rfl) (by decide) ?_
            exact j_ireturn C dX5_sendDown_61 (e_oi h hg) (by decide) (by decide)
          · exact j_escV C X (c_X5_request n G σ16 o0 ((100 : Int32)) a1 a2 ho0 _ _ h21) dX5_sendDown_58 (gV u_288 u_290 u_291 u_211 u_289) rfl hy_X5_request rfl ho0 rfl (ci := 9) rfl rfl rfl (by decide) (Nat.le_of_ble_eq_true rfl) (by decide) (e_x h hg)
        · have h := (if_neg c18).symm.trans h
          exact j_throw C ["java/lang/RuntimeException", "java/lang/Exception"] dX5_sendDown_43 dX5_sendDown_46 dX5_sendDown_47 dX5_sendDown_49 dX5_sendDown_52 (text := "nobody may go there now") (by decide +kernel) (by decide +kernel) (mU u_279) (mU u_280) (by decide +kernel) tw_160 tn_160 (by decide) (tgc tg_160) (by decide) (Nat.le_of_ble_eq_true rfl) (by decide) (by decide) X.grow (e_x h hg)
    · exact j_escS C X (c_X5_checkRange n G σ2 a2 ((1 : Int32)) ((12 : Int32))  _ _ h6) dX5_sendDown_9 (gS u_228 u_230 u_211 u_229) rfl hy_X5_checkRange rfl rfl (by decide) (Nat.le_of_ble_eq_true rfl) (by decide) (e_x h hg)
  · exact j_escV C X (c_X5_checkLevel n G σ o0 a1 ho0 _ _ h3) dX5_sendDown_2 (gV u_243 u_245 u_246 u_211 u_244) rfl hy_X5_checkLevel rfl ho0 rfl (ci := 9) rfl rfl rfl (by decide) (Nat.le_of_ble_eq_true rfl) (by decide) (e_x h hg)
def sp_X5_callUp (n : Nat) (σ : Mem) (o0 : Nat) (a1 : Int32) (a2 : Int32) : Option ((Int32 ⊕ String) × Mem) := ((sp_X5_checkLevel n σ o0 a1).bind fun q => match q with | (.inl _, σ2) => ((sp_X5_checkRange n σ2 a2 ((1 : Int32)) ((12 : Int32))).bind fun q => match q with | (.inl _, σ5) => ((sp_X5_request n σ5 o0 ((117 : Int32)) a1 a2).bind fun q => match q with | (.inl r7, σ8) => some (.inl r7, σ8) | (.inr E, σ8) => some (.inr E, σ8)) | (.inr E, σ5) => some (.inr E, σ5)) | (.inr E, σ2) => some (.inr E, σ2))
abbrev rm_X5_callUp : Room := ({ frames := 13, cells := 3, slots := 18, locals := 272 } : Room)
abbrev wu_X5_callUp : List Cond := (Cond.code yX5_callUp cX5_callUp 3 (some .int)) :: wsU
theorem hy_X5_callUp : hyOk yX5_callUp 2 := by decide +kernel
set_option maxRecDepth 20000 in
set_option maxHeartbeats 4000000 in
theorem c_X5_callUp (n : Nat) (G : Gt) (σ : Mem) (o0 : Nat) (a1 : Int32) (a2 : Int32) (ho0 : Ok o0 5) (r : Int32 ⊕ String) (σ' : Mem) (h : sp_X5_callUp n σ o0 a1 a2 = some (r, σ')) : MM yX5_callUp wu_X5_callUp rm_X5_callUp [.ref (G.2.2 (o0)), .int (a1), .int (a2)] G σ (oc r) σ' := by
  refine mm_of (cc := cX5_callUp) (maxL := 3) (ret := (some .int)) (by decide +kernel) rfl (Nat.le_of_ble_eq_true rfl) (fun x C X hg => ?_)
  have C : Cx x cX5_callUp 3 RX5 (some .int) [] wu_X5_callUp rm_X5_callUp G.1 (tysF G) := C
  unfold sp_X5_callUp at h
  show J x [(0, .ref (G.2.2 (o0))), (1, .int (a1)), (2, .int (a2))] [] σ 0 0 0
  refine j_aload_n C dX5_callUp_0 0 rfl ?_
  refine j_iload_n C dX5_callUp_1 1 rfl ?_
  obtain ⟨⟨r1, σ2⟩, h3, h⟩ := ob h
  try dsimp only at h
  rcases r1 with r1 | r1 <;> (try dsimp only at h)
  · refine j_callV C X (c_X5_checkLevel n G σ o0 a1 ho0 _ _ h3) dX5_callUp_2 (gV u_243 u_245 u_246 u_211 u_244) rfl hy_X5_checkLevel rfl ho0 rfl (ci := 9) rfl rfl rfl (by decide) (Nat.le_of_ble_eq_true rfl) (by decide) ?_
    refine j_iload_n C dX5_callUp_5 2 rfl ?_
    refine j_iconst C dX5_callUp_6 ((1 : Int32)) (by decide) ?_
    refine j_bipush C dX5_callUp_7 ((12 : Int32)) (by decide) ?_
    obtain ⟨⟨r4, σ5⟩, h6, h⟩ := ob h
    try dsimp only at h
    rcases r4 with r4 | r4 <;> (try dsimp only at h)
    · refine j_callS C X (c_X5_checkRange n G σ2 a2 ((1 : Int32)) ((12 : Int32))  _ _ h6) dX5_callUp_9 (gS u_228 u_230 u_211 u_229) rfl hy_X5_checkRange rfl rfl (by decide) (Nat.le_of_ble_eq_true rfl) (by decide) ?_
      refine j_aload_n C dX5_callUp_12 0 rfl ?_
      refine j_bipush C dX5_callUp_13 ((117 : Int32)) (by decide) ?_
      refine j_iload_n C dX5_callUp_15 1 rfl ?_
      refine j_iload_n C dX5_callUp_16 2 rfl ?_
      obtain ⟨⟨r7, σ8⟩, h9, h⟩ := ob h
      try dsimp only at h
      rcases r7 with r7 | r7 <;> (try dsimp only at h)
      · refine j_callV C X (c_X5_request n G σ5 o0 ((117 : Int32)) a1 a2 ho0 _ _ h9) dX5_callUp_17 (gV u_288 u_290 u_291 u_211 u_289) rfl hy_X5_request rfl ho0 rfl (ci := 9) rfl rfl rfl (by decide) (Nat.le_of_ble_eq_true rfl) (by decide) ?_
        exact j_ireturn C dX5_callUp_20 (e_oi h hg) (by decide) (by decide)
      · exact j_escV C X (c_X5_request n G σ5 o0 ((117 : Int32)) a1 a2 ho0 _ _ h9) dX5_callUp_17 (gV u_288 u_290 u_291 u_211 u_289) rfl hy_X5_request rfl ho0 rfl (ci := 9) rfl rfl rfl (by decide) (Nat.le_of_ble_eq_true rfl) (by decide) (e_x h hg)
    · exact j_escS C X (c_X5_checkRange n G σ2 a2 ((1 : Int32)) ((12 : Int32))  _ _ h6) dX5_callUp_9 (gS u_228 u_230 u_211 u_229) rfl hy_X5_checkRange rfl rfl (by decide) (Nat.le_of_ble_eq_true rfl) (by decide) (e_x h hg)
  · exact j_escV C X (c_X5_checkLevel n G σ o0 a1 ho0 _ _ h3) dX5_callUp_2 (gV u_243 u_245 u_246 u_211 u_244) rfl hy_X5_checkLevel rfl ho0 rfl (ci := 9) rfl rfl rfl (by decide) (Nat.le_of_ble_eq_true rfl) (by decide) (e_x h hg)
def sp_X5_hoistOre (n : Nat) (σ : Mem) (o0 : Nat) (a1 : Int32) : Option ((Int32 ⊕ String) × Mem) := ((sp_X5_checkLevel n σ o0 a1).bind fun q => match q with | (.inl _, σ2) => ((sp_X5_request n σ2 o0 ((111 : Int32)) a1 ((20 : Int32))).bind fun q => match q with | (.inl r4, σ5) => some (.inl r4, σ5) | (.inr E, σ5) => some (.inr E, σ5)) | (.inr E, σ2) => some (.inr E, σ2))
abbrev rm_X5_hoistOre : Room := ({ frames := 13, cells := 2, slots := 12, locals := 272 } : Room)
abbrev wu_X5_hoistOre : List Cond := (Cond.code yX5_hoistOre cX5_hoistOre 2 (some .int)) :: wsU
theorem hy_X5_hoistOre : hyOk yX5_hoistOre 1 := by decide +kernel
set_option maxRecDepth 20000 in
set_option maxHeartbeats 4000000 in
theorem c_X5_hoistOre (n : Nat) (G : Gt) (σ : Mem) (o0 : Nat) (a1 : Int32) (ho0 : Ok o0 5) (r : Int32 ⊕ String) (σ' : Mem) (h : sp_X5_hoistOre n σ o0 a1 = some (r, σ')) : MM yX5_hoistOre wu_X5_hoistOre rm_X5_hoistOre [.ref (G.2.2 (o0)), .int (a1)] G σ (oc r) σ' := by
  refine mm_of (cc := cX5_hoistOre) (maxL := 2) (ret := (some .int)) (by decide +kernel) rfl (Nat.le_of_ble_eq_true rfl) (fun x C X hg => ?_)
  have C : Cx x cX5_hoistOre 2 RX5 (some .int) [] wu_X5_hoistOre rm_X5_hoistOre G.1 (tysF G) := C
  unfold sp_X5_hoistOre at h
  show J x [(0, .ref (G.2.2 (o0))), (1, .int (a1))] [] σ 0 0 0
  refine j_aload_n C dX5_hoistOre_0 0 rfl ?_
  refine j_iload_n C dX5_hoistOre_1 1 rfl ?_
  obtain ⟨⟨r1, σ2⟩, h3, h⟩ := ob h
  try dsimp only at h
  rcases r1 with r1 | r1 <;> (try dsimp only at h)
  · refine j_callV C X (c_X5_checkLevel n G σ o0 a1 ho0 _ _ h3) dX5_hoistOre_2 (gV u_243 u_245 u_246 u_211 u_244) rfl hy_X5_checkLevel rfl ho0 rfl (ci := 9) rfl rfl rfl (by decide) (Nat.le_of_ble_eq_true rfl) (by decide) ?_
    refine j_aload_n C dX5_hoistOre_5 0 rfl ?_
    refine j_bipush C dX5_hoistOre_6 ((111 : Int32)) (by decide) ?_
    refine j_iload_n C dX5_hoistOre_8 1 rfl ?_
    refine j_bipush C dX5_hoistOre_9 ((20 : Int32)) (by decide) ?_
    obtain ⟨⟨r4, σ5⟩, h6, h⟩ := ob h
    try dsimp only at h
    rcases r4 with r4 | r4 <;> (try dsimp only at h)
    · refine j_callV C X (c_X5_request n G σ2 o0 ((111 : Int32)) a1 ((20 : Int32)) ho0 _ _ h6) dX5_hoistOre_11 (gV u_288 u_290 u_291 u_211 u_289) rfl hy_X5_request rfl ho0 rfl (ci := 9) rfl rfl rfl (by decide) (Nat.le_of_ble_eq_true rfl) (by decide) ?_
      exact j_ireturn C dX5_hoistOre_14 (e_oi h hg) (by decide) (by decide)
    · exact j_escV C X (c_X5_request n G σ2 o0 ((111 : Int32)) a1 ((20 : Int32)) ho0 _ _ h6) dX5_hoistOre_11 (gV u_288 u_290 u_291 u_211 u_289) rfl hy_X5_request rfl ho0 rfl (ci := 9) rfl rfl rfl (by decide) (Nat.le_of_ble_eq_true rfl) (by decide) (e_x h hg)
  · exact j_escV C X (c_X5_checkLevel n G σ o0 a1 ho0 _ _ h3) dX5_hoistOre_2 (gV u_243 u_245 u_246 u_211 u_244) rfl hy_X5_checkLevel rfl ho0 rfl (ci := 9) rfl rfl rfl (by decide) (Nat.le_of_ble_eq_true rfl) (by decide) (e_x h hg)
def sp_X5_cancel (n : Nat) (σ : Mem) (o0 : Nat) (a1 : Int32) : Option ((Int32 ⊕ String) × Mem) := ((sp_X4_holds n σ ((rf (rf o0 0) 2)) a1).bind fun q => match q with | (r1, σ2) => if r1 = 0 then some (.inr "java/util/NoSuchElementException", σ2) else ((sp_X4_remove n σ2 ((rf (rf o0 0) 2)) a1).bind fun q => match q with | (_, σ6) => some (.inl ((σ6.1 (rf (rf o0 0) 2) 1)), σ6)))
abbrev rm_X5_cancel : Room := ({ frames := 13, cells := 1, slots := 6, locals := 267 } : Room)
abbrev wu_X5_cancel : List Cond := (Cond.code yX5_cancel cX5_cancel 2 (some .int)) :: wsU
theorem hy_X5_cancel : hyOk yX5_cancel 1 := by decide +kernel
set_option maxRecDepth 20000 in
set_option maxHeartbeats 4000000 in
theorem c_X5_cancel (n : Nat) (G : Gt) (σ : Mem) (o0 : Nat) (a1 : Int32) (ho0 : Ok o0 5) (r : Int32 ⊕ String) (σ' : Mem) (h : sp_X5_cancel n σ o0 a1 = some (r, σ')) : MM yX5_cancel wu_X5_cancel rm_X5_cancel [.ref (G.2.2 (o0)), .int (a1)] G σ (oc r) σ' := by
  refine mm_of (cc := cX5_cancel) (maxL := 2) (ret := (some .int)) (by decide +kernel) rfl (Nat.le_of_ble_eq_true rfl) (fun x C X hg => ?_)
  have C : Cx x cX5_cancel 2 RX5 (some .int) [] wu_X5_cancel rm_X5_cancel G.1 (tysF G) := C
  unfold sp_X5_cancel at h
  show J x [(0, .ref (G.2.2 (o0))), (1, .int (a1))] [] σ 0 0 0
  refine j_aload_n C dX5_cancel_0 0 rfl ?_
  refine j_get C X dX5_cancel_1 ho0 rfl rfl 0 (by decide) (fin := true) rfl rfl in_X5 (mU u_208) ?_
  refine j_get C X dX5_cancel_4 (sh_5_0 ho0) rfl rfl 2 (by decide) (fin := true) rfl rfl in_X1 (mU u_219) ?_
  refine j_iload_n C dX5_cancel_7 1 rfl ?_
  obtain ⟨⟨r1, σ2⟩, h3, h⟩ := ob h
  try dsimp only at h
  refine j_callV C X (c_X4_holds n G σ ((rf (rf o0 0) 2)) a1 (sh_1_2 (sh_5_0 ho0)) _ _ h3) dX5_cancel_8 (gV u_292 u_89 u_90 u_45 u_88) rfl hy_X4_holds rfl (sh_1_2 (sh_5_0 ho0)) rfl (ci := 8) rfl rfl rfl (by decide) (Nat.le_of_ble_eq_true rfl) (by decide) ?_
  refine j_if_ne C dX5_cancel_11 24 (by decide) (fun c4 => ?_) (fun c4 => ?_)
  · have h := (if_neg c4).symm.trans h
    refine j_aload_n C dX5_cancel_24 0 rfl ?_
    refine j_get C X dX5_cancel_25 ho0 rfl rfl 0 (by decide) (fin := true) rfl rfl in_X5 (mU u_208) ?_
    refine j_get C X dX5_cancel_28 (sh_5_0 ho0) rfl rfl 2 (by decide) (fin := true) rfl rfl in_X1 (mU u_219) ?_
    refine j_iload_n C dX5_cancel_31 1 rfl ?_
    obtain ⟨⟨r5, σ6⟩, h7, h⟩ := ob h
    try dsimp only at h
    refine j_callV C X (c_X4_remove n G σ2 ((rf (rf o0 0) 2)) a1 (sh_1_2 (sh_5_0 ho0)) _ _ h7) dX5_cancel_32 (gV u_293 u_166 u_167 u_45 u_165) rfl hy_X4_remove rfl (sh_1_2 (sh_5_0 ho0)) rfl (ci := 8) rfl rfl rfl (by decide) (Nat.le_of_ble_eq_true rfl) (by decide) ?_
    refine j_aload_n C dX5_cancel_35 0 rfl ?_
    refine j_get C X dX5_cancel_36 ho0 rfl rfl 0 (by decide) (fin := true) rfl rfl in_X5 (mU u_208) ?_
    refine j_get C X dX5_cancel_39 (sh_5_0 ho0) rfl rfl 2 (by decide) (fin := true) rfl rfl in_X1 (mU u_219) ?_
    refine j_get C X dX5_cancel_42 (sh_1_2 (sh_5_0 ho0)) rfl rfl 1 (by decide) (fin := false) rfl rfl in_X4 (mU u_220) ?_
    exact j_ireturn C dX5_cancel_45 (e_oi h hg) (by decide) (by decide)
  · have h := (if_pos c4).symm.trans h
    exact j_throwX C ["java/lang/RuntimeException", "java/lang/Exception"] nse_0 nse_1 nse_2 nse_5 dX5_cancel_14 dX5_cancel_17 dX5_cancel_18 dX5_cancel_20 dX5_cancel_23 (text := "no such request is waiting") (by decide +kernel) (by decide +kernel) (mU u_217) (mU u_218) (by decide +kernel) tw_125 tn_125 (by decide) (tgc tg_125) (by decide) (Nat.le_of_ble_eq_true rfl) (by decide) (by decide) X.grow (e_x h hg)
def sp_X5_waitingCount (n : Nat) (σ : Mem) (o0 : Nat) : Option (Int32 × Mem) := some ((σ.1 (rf (rf o0 0) 2) 1), σ)
abbrev rm_X5_waitingCount : Room := ({ frames := 10, cells := 0, slots := 0, locals := 200 } : Room)
abbrev wu_X5_waitingCount : List Cond := (Cond.code yX5_waitingCount cX5_waitingCount 1 (some .int)) :: wsU
theorem hy_X5_waitingCount : hyOk yX5_waitingCount 0 := by decide +kernel
set_option maxRecDepth 20000 in
set_option maxHeartbeats 4000000 in
theorem c_X5_waitingCount (n : Nat) (G : Gt) (σ : Mem) (o0 : Nat) (ho0 : Ok o0 5) (r : Int32) (σ' : Mem) (h : sp_X5_waitingCount n σ o0 = some (r, σ')) : MM yX5_waitingCount wu_X5_waitingCount rm_X5_waitingCount [.ref (G.2.2 (o0))] G σ (.inl (some (.int r))) σ' := by
  refine mm_of (cc := cX5_waitingCount) (maxL := 1) (ret := (some .int)) (by decide +kernel) rfl (Nat.le_of_ble_eq_true rfl) (fun x C X hg => ?_)
  have C : Cx x cX5_waitingCount 1 RX5 (some .int) [] wu_X5_waitingCount rm_X5_waitingCount G.1 (tysF G) := C
  unfold sp_X5_waitingCount at h
  show J x [(0, .ref (G.2.2 (o0)))] [] σ 0 0 0
  refine j_aload_n C dX5_waitingCount_0 0 rfl ?_
  refine j_get C X dX5_waitingCount_1 ho0 rfl rfl 0 (by decide) (fin := true) rfl rfl in_X5 (mU u_208) ?_
  refine j_get C X dX5_waitingCount_4 (sh_5_0 ho0) rfl rfl 2 (by decide) (fin := true) rfl rfl in_X1 (mU u_219) ?_
  refine j_get C X dX5_waitingCount_7 (sh_1_2 (sh_5_0 ho0)) rfl rfl 1 (by decide) (fin := false) rfl rfl in_X4 (mU u_220) ?_
  exact j_ireturn C dX5_waitingCount_10 (e_i h hg) (by decide) (by decide)
def sp_X5_waitingAt (n : Nat) (σ : Mem) (o0 : Nat) (a1 : Int32) : Option ((Int32 ⊕ String) × Mem) := if a1 < 0 then some (.inr "java/lang/IndexOutOfBoundsException", σ) else if a1 < (σ.1 (rf (rf o0 0) 2) 1) then ((sp_X4_numberAt n σ ((rf (rf o0 0) 2)) a1).bind fun q => match q with | (r3, σ4) => some (.inl r3, σ4)) else some (.inr "java/lang/IndexOutOfBoundsException", σ)
abbrev rm_X5_waitingAt : Room := ({ frames := 11, cells := 1, slots := 6, locals := 221 } : Room)
abbrev wu_X5_waitingAt : List Cond := (Cond.code yX5_waitingAt cX5_waitingAt 2 (some .int)) :: wsU
theorem hy_X5_waitingAt : hyOk yX5_waitingAt 1 := by decide +kernel
set_option maxRecDepth 20000 in
set_option maxHeartbeats 4000000 in
theorem c_X5_waitingAt (n : Nat) (G : Gt) (σ : Mem) (o0 : Nat) (a1 : Int32) (ho0 : Ok o0 5) (r : Int32 ⊕ String) (σ' : Mem) (h : sp_X5_waitingAt n σ o0 a1 = some (r, σ')) : MM yX5_waitingAt wu_X5_waitingAt rm_X5_waitingAt [.ref (G.2.2 (o0)), .int (a1)] G σ (oc r) σ' := by
  refine mm_of (cc := cX5_waitingAt) (maxL := 2) (ret := (some .int)) (by decide +kernel) rfl (Nat.le_of_ble_eq_true rfl) (fun x C X hg => ?_)
  have C : Cx x cX5_waitingAt 2 RX5 (some .int) [] wu_X5_waitingAt rm_X5_waitingAt G.1 (tysF G) := C
  unfold sp_X5_waitingAt at h
  show J x [(0, .ref (G.2.2 (o0))), (1, .int (a1))] [] σ 0 0 0
  refine j_iload_n C dX5_waitingAt_0 1 rfl ?_
  refine j_if_lt C dX5_waitingAt_1 18 (by decide) (fun c1 => ?_) (fun c1 => ?_)
  · have h := (if_pos c1).symm.trans h
    exact j_throw C ["java/lang/RuntimeException", "java/lang/Exception"] dX5_waitingAt_18 dX5_waitingAt_21 dX5_waitingAt_22 dX5_waitingAt_24 dX5_waitingAt_27 (text := "no such position") (by decide +kernel) (by decide +kernel) (mU u_206) (mU u_207) (by decide +kernel) tw_198 tn_198 (by decide) (tgc tg_198) (by decide) (Nat.le_of_ble_eq_true rfl) (by decide) (by decide) X.grow (e_x h hg)
  · have h := (if_neg c1).symm.trans h
    refine j_iload_n C dX5_waitingAt_4 1 rfl ?_
    refine j_aload_n C dX5_waitingAt_5 0 rfl ?_
    refine j_get C X dX5_waitingAt_6 ho0 rfl rfl 0 (by decide) (fin := true) rfl rfl in_X5 (mU u_208) ?_
    refine j_get C X dX5_waitingAt_9 (sh_5_0 ho0) rfl rfl 2 (by decide) (fin := true) rfl rfl in_X1 (mU u_219) ?_
    refine j_get C X dX5_waitingAt_12 (sh_1_2 (sh_5_0 ho0)) rfl rfl 1 (by decide) (fin := false) rfl rfl in_X4 (mU u_220) ?_
    refine j_icmp_lt C dX5_waitingAt_15 28 (by decide) (fun c2 => ?_) (fun c2 => ?_)
    · have h := (if_pos c2).symm.trans h
      refine j_aload_n C dX5_waitingAt_28 0 rfl ?_
      refine j_get C X dX5_waitingAt_29 ho0 rfl rfl 0 (by decide) (fin := true) rfl rfl in_X5 (mU u_208) ?_
      refine j_get C X dX5_waitingAt_32 (sh_5_0 ho0) rfl rfl 2 (by decide) (fin := true) rfl rfl in_X1 (mU u_219) ?_
      refine j_iload_n C dX5_waitingAt_35 1 rfl ?_
      obtain ⟨⟨r3, σ4⟩, h5, h⟩ := ob h
      try dsimp only at h
      refine j_callV C X (c_X4_numberAt n G σ ((rf (rf o0 0) 2)) a1 (sh_1_2 (sh_5_0 ho0)) _ _ h5) dX5_waitingAt_36 (gV u_294 u_47 u_48 u_45 u_46) rfl hy_X4_numberAt rfl (sh_1_2 (sh_5_0 ho0)) rfl (ci := 8) rfl rfl rfl (by decide) (Nat.le_of_ble_eq_true rfl) (by decide) ?_
      exact j_ireturn C dX5_waitingAt_39 (e_oi h hg) (by decide) (by decide)
    · have h := (if_neg c2).symm.trans h
      exact j_throw C ["java/lang/RuntimeException", "java/lang/Exception"] dX5_waitingAt_18 dX5_waitingAt_21 dX5_waitingAt_22 dX5_waitingAt_24 dX5_waitingAt_27 (text := "no such position") (by decide +kernel) (by decide +kernel) (mU u_206) (mU u_207) (by decide +kernel) tw_198 tn_198 (by decide) (tgc tg_198) (by decide) (Nat.le_of_ble_eq_true rfl) (by decide) (by decide) X.grow (e_x h hg)
def lp_X5_pass_34 (n : Nat) (o0 : Nat) (a1 : Int32) : Nat → Mem → Int32 → Int32 → Option ((Int32 ⊕ String) × Mem)
  | 0, _, _, _ => none
  | k + 1, σ, l1, l2 => if l1 ≤ l2 then some (.inl ((σ.1 (rf o0 0) 8)), σ) else ((sp_X1_passMinute n σ ((rf o0 0))).bind fun q => match q with | (_, σ7) => lp_X5_pass_34 n o0 a1 k σ7 l1 ((l2 + (1 : Int32))))
theorem lp_X5_pass_34_s (n : Nat) (o0 : Nat) (a1 : Int32) (k : Nat) (σ : Mem) (l1 : Int32) (l2 : Int32) : lp_X5_pass_34 n o0 a1 (k + 1) σ l1 l2 = (if l1 ≤ l2 then some (.inl ((σ.1 (rf o0 0) 8)), σ) else ((sp_X1_passMinute n σ ((rf o0 0))).bind fun q => match q with | (_, σ7) => lp_X5_pass_34 n o0 a1 k σ7 l1 ((l2 + (1 : Int32))))) := rfl
def sp_X5_pass (n : Nat) (σ : Mem) (o0 : Nat) (a1 : Int32) : Option ((Int32 ⊕ String) × Mem) := ((sp_X5_checkRange n σ a1 ((1 : Int32)) ((60 : Int32))).bind fun q => match q with | (.inl _, σ2) => if ((σ2.1 (rf o0 0) 8) + a1) ≤ (5000 : Int32) then lp_X5_pass_34 n o0 a1 n σ2 a1 ((0 : Int32)) else some (.inr "java/lang/IllegalStateException", σ2) | (.inr E, σ2) => some (.inr E, σ2))
abbrev rm_X5_pass : Room := ({ frames := 15, cells := 2, slots := 12, locals := 312 } : Room)
abbrev wu_X5_pass : List Cond := (Cond.code yX5_pass cX5_pass 3 (some .int)) :: wsU
theorem hy_X5_pass : hyOk yX5_pass 1 := by decide +kernel
set_option maxRecDepth 20000 in
set_option maxHeartbeats 4000000 in
theorem c_X5_pass (n : Nat) (G : Gt) (σ : Mem) (o0 : Nat) (a1 : Int32) (ho0 : Ok o0 5) (r : Int32 ⊕ String) (σ' : Mem) (h : sp_X5_pass n σ o0 a1 = some (r, σ')) : MM yX5_pass wu_X5_pass rm_X5_pass [.ref (G.2.2 (o0)), .int (a1)] G σ (oc r) σ' := by
  refine mm_of (cc := cX5_pass) (maxL := 3) (ret := (some .int)) (by decide +kernel) rfl (Nat.le_of_ble_eq_true rfl) (fun x C X hg => ?_)
  have C : Cx x cX5_pass 3 RX5 (some .int) [] wu_X5_pass rm_X5_pass G.1 (tysF G) := C
  have LP34 : ∀ (k : Nat) (σ : Mem) (l1 : Int32) (l2 : Int32), lp_X5_pass_34 n o0 a1 k σ l1 l2 = some (r, σ') → J x [(0, .ref (G.2.2 (o0))), (1, .int (l1)), (2, .int (l2))] [] σ 34 1 6 := by
    intro k
    induction k with
    | zero => intro σ l1 l2  h; cases h
    | succ k ih =>
    intro σ l1 l2  h
    rw [lp_X5_pass_34_s] at h
    refine j_iload_n C dX5_pass_34 2 rfl ?_
    refine j_iload_n C dX5_pass_35 1 rfl ?_
    refine j_icmp_ge C dX5_pass_36 52 (by decide) (fun c5 => ?_) (fun c5 => ?_)
    · have h := (if_pos c5).symm.trans h
      refine j_aload_n C dX5_pass_52 0 rfl ?_
      refine j_get C X dX5_pass_53 ho0 rfl rfl 0 (by decide) (fin := true) rfl rfl in_X5 (mU u_208) ?_
      refine j_get C X dX5_pass_56 (sh_5_0 ho0) rfl rfl 8 (by decide) (fin := false) rfl rfl in_X1 (mU u_233) ?_
      exact j_ireturn C dX5_pass_59 (e_oi h hg) (by decide) (by decide)
    · have h := (if_neg c5).symm.trans h
      refine j_aload_n C dX5_pass_39 0 rfl ?_
      refine j_get C X dX5_pass_40 ho0 rfl rfl 0 (by decide) (fin := true) rfl rfl in_X5 (mU u_208) ?_
      obtain ⟨⟨r6, σ7⟩, h8, h⟩ := ob h
      try dsimp only at h
      refine j_callV C X (c_X1_passMinute n G σ ((rf o0 0)) (sh_5_0 ho0) _ _ h8) dX5_pass_43 (gV u_295 u_202 u_203 u_98 u_201) rfl hy_X1_passMinute rfl (sh_5_0 ho0) rfl (ci := 5) rfl rfl rfl (by decide) (Nat.le_of_ble_eq_true rfl) (by decide) ?_
      refine j_iinc C dX5_pass_46 2 rfl ((1 : Int32)) (by decide) (by decide) [(2, .int ((l2 + (1 : Int32)))), (0, .ref (G.2.2 (o0))), (1, .int (l1))] rfl ?_
      refine j_goto C dX5_pass_49 34 (by decide) ?_
      refine j_sub [1, 2, 0] [(0, .ref (G.2.2 (o0))), (1, .int (l1)), (2, .int ((l2 + (1 : Int32))))] rfl ?_
      exact ih σ7 l1 ((l2 + (1 : Int32)))  h
  unfold sp_X5_pass at h
  show J x [(0, .ref (G.2.2 (o0))), (1, .int (a1))] [] σ 0 0 0
  refine j_iload_n C dX5_pass_0 1 rfl ?_
  refine j_iconst C dX5_pass_1 ((1 : Int32)) (by decide) ?_
  refine j_bipush C dX5_pass_2 ((60 : Int32)) (by decide) ?_
  obtain ⟨⟨r1, σ2⟩, h3, h⟩ := ob h
  try dsimp only at h
  rcases r1 with r1 | r1 <;> (try dsimp only at h)
  · refine j_callS C X (c_X5_checkRange n G σ a1 ((1 : Int32)) ((60 : Int32))  _ _ h3) dX5_pass_4 (gS u_228 u_230 u_211 u_229) rfl hy_X5_checkRange rfl rfl (by decide) (Nat.le_of_ble_eq_true rfl) (by decide) ?_
    refine j_aload_n C dX5_pass_7 0 rfl ?_
    refine j_get C X dX5_pass_8 ho0 rfl rfl 0 (by decide) (fin := true) rfl rfl in_X5 (mU u_208) ?_
    refine j_get C X dX5_pass_11 (sh_5_0 ho0) rfl rfl 8 (by decide) (fin := false) rfl rfl in_X1 (mU u_233) ?_
    refine j_iload_n C dX5_pass_14 1 rfl ?_
    refine j_iadd C dX5_pass_15 ?_
    refine j_sipush C dX5_pass_16 ((5000 : Int32)) (by decide) ?_
    refine j_icmp_le C dX5_pass_19 32 (by decide) (fun c4 => ?_) (fun c4 => ?_)
    · have h := (if_pos c4).symm.trans h
      refine j_iconst C dX5_pass_32 ((0 : Int32)) (by decide) ?_
      refine j_istore_n C dX5_pass_33 (by decide) [(2, .int ((0 : Int32))), (0, .ref (G.2.2 (o0))), (1, .int (a1))] rfl ?_
      refine j_sub [1, 2, 0] [(0, .ref (G.2.2 (o0))), (1, .int (a1)), (2, .int ((0 : Int32)))] rfl ?_
      exact LP34 n σ2 a1 ((0 : Int32))  h
    · have h := (if_neg c4).symm.trans h
      exact j_throw C ["java/lang/RuntimeException", "java/lang/Exception"] dX5_pass_22 dX5_pass_25 dX5_pass_26 dX5_pass_28 dX5_pass_31 (text := "the clock would be too great") (by decide +kernel) (by decide +kernel) (mU u_226) (mU u_227) (by decide +kernel) tw_57 tn_57 (by decide) (tgc tg_57) (by decide) (Nat.le_of_ble_eq_true rfl) (by decide) (by decide) X.grow (e_x h hg)
  · exact j_escS C X (c_X5_checkRange n G σ a1 ((1 : Int32)) ((60 : Int32))  _ _ h3) dX5_pass_4 (gS u_228 u_230 u_211 u_229) rfl hy_X5_checkRange rfl rfl (by decide) (Nat.le_of_ble_eq_true rfl) (by decide) (e_x h hg)
def sp_X5_clock (n : Nat) (σ : Mem) (o0 : Nat) : Option (Int32 × Mem) := some ((σ.1 (rf o0 0) 8), σ)
abbrev rm_X5_clock : Room := ({ frames := 10, cells := 0, slots := 0, locals := 200 } : Room)
abbrev wu_X5_clock : List Cond := (Cond.code yX5_clock cX5_clock 1 (some .int)) :: wsU
theorem hy_X5_clock : hyOk yX5_clock 0 := by decide +kernel
set_option maxRecDepth 20000 in
set_option maxHeartbeats 4000000 in
theorem c_X5_clock (n : Nat) (G : Gt) (σ : Mem) (o0 : Nat) (ho0 : Ok o0 5) (r : Int32) (σ' : Mem) (h : sp_X5_clock n σ o0 = some (r, σ')) : MM yX5_clock wu_X5_clock rm_X5_clock [.ref (G.2.2 (o0))] G σ (.inl (some (.int r))) σ' := by
  refine mm_of (cc := cX5_clock) (maxL := 1) (ret := (some .int)) (by decide +kernel) rfl (Nat.le_of_ble_eq_true rfl) (fun x C X hg => ?_)
  have C : Cx x cX5_clock 1 RX5 (some .int) [] wu_X5_clock rm_X5_clock G.1 (tysF G) := C
  unfold sp_X5_clock at h
  show J x [(0, .ref (G.2.2 (o0)))] [] σ 0 0 0
  refine j_aload_n C dX5_clock_0 0 rfl ?_
  refine j_get C X dX5_clock_1 ho0 rfl rfl 0 (by decide) (fin := true) rfl rfl in_X5 (mU u_208) ?_
  refine j_get C X dX5_clock_4 (sh_5_0 ho0) rfl rfl 8 (by decide) (fin := false) rfl rfl in_X1 (mU u_233) ?_
  exact j_ireturn C dX5_clock_7 (e_i h hg) (by decide) (by decide)
def sp_X5_tripKind (n : Nat) (σ : Mem) (o0 : Nat) : Option (Int32 × Mem) := if 0 ≤ (σ.1 (rf (rf o0 0) 3) 0) ∧ (σ.1 (rf (rf o0 0) 3) 0) ≤ 65535 then some ((σ.1 (rf (rf o0 0) 3) 0), σ) else none
abbrev rm_X5_tripKind : Room := ({ frames := 10, cells := 0, slots := 0, locals := 200 } : Room)
abbrev wu_X5_tripKind : List Cond := (Cond.code yX5_tripKind cX5_tripKind 1 (some .char)) :: wsU
theorem hy_X5_tripKind : hyOk yX5_tripKind 0 := by decide +kernel
set_option maxRecDepth 20000 in
set_option maxHeartbeats 4000000 in
theorem c_X5_tripKind (n : Nat) (G : Gt) (σ : Mem) (o0 : Nat) (ho0 : Ok o0 5) (r : Int32) (σ' : Mem) (h : sp_X5_tripKind n σ o0 = some (r, σ')) : MM yX5_tripKind wu_X5_tripKind rm_X5_tripKind [.ref (G.2.2 (o0))] G σ (.inl (some (.int r))) σ' := by
  refine mm_of (cc := cX5_tripKind) (maxL := 1) (ret := (some .char)) (by decide +kernel) rfl (Nat.le_of_ble_eq_true rfl) (fun x C X hg => ?_)
  have C : Cx x cX5_tripKind 1 RX5 (some .char) [] wu_X5_tripKind rm_X5_tripKind G.1 (tysF G) := C
  unfold sp_X5_tripKind at h
  show J x [(0, .ref (G.2.2 (o0)))] [] σ 0 0 0
  refine j_aload_n C dX5_tripKind_0 0 rfl ?_
  refine j_get C X dX5_tripKind_1 ho0 rfl rfl 0 (by decide) (fin := true) rfl rfl in_X5 (mU u_208) ?_
  refine j_get C X dX5_tripKind_4 (sh_5_0 ho0) rfl rfl 3 (by decide) (fin := true) rfl rfl in_X1 (mU u_215) ?_
  refine j_get C X dX5_tripKind_7 (sh_1_3 (sh_5_0 ho0)) rfl rfl 0 (by decide) (fin := false) rfl rfl in_X3 (mU u_296) ?_
  obtain ⟨g1, h⟩ := sg h
  exact j_zreturn C (nar_c g1).1 dX5_tripKind_10 (e_i h hg) (by decide) (by decide)
def sp_X5_tripLevel (n : Nat) (σ : Mem) (o0 : Nat) : Option ((Int32 ⊕ String) × Mem) := ((sp_X5_checkTrip n σ o0).bind fun q => match q with | (.inl _, σ2) => some (.inl ((σ2.1 (rf (rf o0 0) 3) 1)), σ2) | (.inr E, σ2) => some (.inr E, σ2))
abbrev rm_X5_tripLevel : Room := ({ frames := 12, cells := 1, slots := 6, locals := 240 } : Room)
abbrev wu_X5_tripLevel : List Cond := (Cond.code yX5_tripLevel cX5_tripLevel 1 (some .int)) :: wsU
theorem hy_X5_tripLevel : hyOk yX5_tripLevel 0 := by decide +kernel
set_option maxRecDepth 20000 in
set_option maxHeartbeats 4000000 in
theorem c_X5_tripLevel (n : Nat) (G : Gt) (σ : Mem) (o0 : Nat) (ho0 : Ok o0 5) (r : Int32 ⊕ String) (σ' : Mem) (h : sp_X5_tripLevel n σ o0 = some (r, σ')) : MM yX5_tripLevel wu_X5_tripLevel rm_X5_tripLevel [.ref (G.2.2 (o0))] G σ (oc r) σ' := by
  refine mm_of (cc := cX5_tripLevel) (maxL := 1) (ret := (some .int)) (by decide +kernel) rfl (Nat.le_of_ble_eq_true rfl) (fun x C X hg => ?_)
  have C : Cx x cX5_tripLevel 1 RX5 (some .int) [] wu_X5_tripLevel rm_X5_tripLevel G.1 (tysF G) := C
  unfold sp_X5_tripLevel at h
  show J x [(0, .ref (G.2.2 (o0)))] [] σ 0 0 0
  refine j_aload_n C dX5_tripLevel_0 0 rfl ?_
  obtain ⟨⟨r1, σ2⟩, h3, h⟩ := ob h
  try dsimp only at h
  rcases r1 with r1 | r1 <;> (try dsimp only at h)
  · refine j_callV C X (c_X5_checkTrip n G σ o0 ho0 _ _ h3) dX5_tripLevel_1 (gV u_297 u_299 u_300 u_211 u_298) rfl hy_X5_checkTrip rfl ho0 rfl (ci := 9) rfl rfl rfl (by decide) (Nat.le_of_ble_eq_true rfl) (by decide) ?_
    refine j_aload_n C dX5_tripLevel_4 0 rfl ?_
    refine j_get C X dX5_tripLevel_5 ho0 rfl rfl 0 (by decide) (fin := true) rfl rfl in_X5 (mU u_208) ?_
    refine j_get C X dX5_tripLevel_8 (sh_5_0 ho0) rfl rfl 3 (by decide) (fin := true) rfl rfl in_X1 (mU u_215) ?_
    refine j_get C X dX5_tripLevel_11 (sh_1_3 (sh_5_0 ho0)) rfl rfl 1 (by decide) (fin := false) rfl rfl in_X3 (mU u_301) ?_
    exact j_ireturn C dX5_tripLevel_14 (e_oi h hg) (by decide) (by decide)
  · exact j_escV C X (c_X5_checkTrip n G σ o0 ho0 _ _ h3) dX5_tripLevel_1 (gV u_297 u_299 u_300 u_211 u_298) rfl hy_X5_checkTrip rfl ho0 rfl (ci := 9) rfl rfl rfl (by decide) (Nat.le_of_ble_eq_true rfl) (by decide) (e_x h hg)
def sp_X5_tripLoad (n : Nat) (σ : Mem) (o0 : Nat) : Option ((Int32 ⊕ String) × Mem) := ((sp_X5_checkTrip n σ o0).bind fun q => match q with | (.inl _, σ2) => some (.inl ((σ2.1 (rf (rf o0 0) 3) 2)), σ2) | (.inr E, σ2) => some (.inr E, σ2))
abbrev rm_X5_tripLoad : Room := ({ frames := 12, cells := 1, slots := 6, locals := 240 } : Room)
abbrev wu_X5_tripLoad : List Cond := (Cond.code yX5_tripLoad cX5_tripLoad 1 (some .int)) :: wsU
theorem hy_X5_tripLoad : hyOk yX5_tripLoad 0 := by decide +kernel
set_option maxRecDepth 20000 in
set_option maxHeartbeats 4000000 in
theorem c_X5_tripLoad (n : Nat) (G : Gt) (σ : Mem) (o0 : Nat) (ho0 : Ok o0 5) (r : Int32 ⊕ String) (σ' : Mem) (h : sp_X5_tripLoad n σ o0 = some (r, σ')) : MM yX5_tripLoad wu_X5_tripLoad rm_X5_tripLoad [.ref (G.2.2 (o0))] G σ (oc r) σ' := by
  refine mm_of (cc := cX5_tripLoad) (maxL := 1) (ret := (some .int)) (by decide +kernel) rfl (Nat.le_of_ble_eq_true rfl) (fun x C X hg => ?_)
  have C : Cx x cX5_tripLoad 1 RX5 (some .int) [] wu_X5_tripLoad rm_X5_tripLoad G.1 (tysF G) := C
  unfold sp_X5_tripLoad at h
  show J x [(0, .ref (G.2.2 (o0)))] [] σ 0 0 0
  refine j_aload_n C dX5_tripLoad_0 0 rfl ?_
  obtain ⟨⟨r1, σ2⟩, h3, h⟩ := ob h
  try dsimp only at h
  rcases r1 with r1 | r1 <;> (try dsimp only at h)
  · refine j_callV C X (c_X5_checkTrip n G σ o0 ho0 _ _ h3) dX5_tripLoad_1 (gV u_297 u_299 u_300 u_211 u_298) rfl hy_X5_checkTrip rfl ho0 rfl (ci := 9) rfl rfl rfl (by decide) (Nat.le_of_ble_eq_true rfl) (by decide) ?_
    refine j_aload_n C dX5_tripLoad_4 0 rfl ?_
    refine j_get C X dX5_tripLoad_5 ho0 rfl rfl 0 (by decide) (fin := true) rfl rfl in_X5 (mU u_208) ?_
    refine j_get C X dX5_tripLoad_8 (sh_5_0 ho0) rfl rfl 3 (by decide) (fin := true) rfl rfl in_X1 (mU u_215) ?_
    refine j_get C X dX5_tripLoad_11 (sh_1_3 (sh_5_0 ho0)) rfl rfl 2 (by decide) (fin := false) rfl rfl in_X3 (mU u_302) ?_
    exact j_ireturn C dX5_tripLoad_14 (e_oi h hg) (by decide) (by decide)
  · exact j_escV C X (c_X5_checkTrip n G σ o0 ho0 _ _ h3) dX5_tripLoad_1 (gV u_297 u_299 u_300 u_211 u_298) rfl hy_X5_checkTrip rfl ho0 rfl (ci := 9) rfl rfl rfl (by decide) (Nat.le_of_ble_eq_true rfl) (by decide) (e_x h hg)
def sp_X5_tripRest (n : Nat) (σ : Mem) (o0 : Nat) : Option ((Int32 ⊕ String) × Mem) := ((sp_X5_checkTrip n σ o0).bind fun q => match q with | (.inl _, σ2) => some (.inl ((σ2.1 (rf (rf o0 0) 3) 3)), σ2) | (.inr E, σ2) => some (.inr E, σ2))
abbrev rm_X5_tripRest : Room := ({ frames := 12, cells := 1, slots := 6, locals := 240 } : Room)
abbrev wu_X5_tripRest : List Cond := (Cond.code yX5_tripRest cX5_tripRest 1 (some .int)) :: wsU
theorem hy_X5_tripRest : hyOk yX5_tripRest 0 := by decide +kernel
set_option maxRecDepth 20000 in
set_option maxHeartbeats 4000000 in
theorem c_X5_tripRest (n : Nat) (G : Gt) (σ : Mem) (o0 : Nat) (ho0 : Ok o0 5) (r : Int32 ⊕ String) (σ' : Mem) (h : sp_X5_tripRest n σ o0 = some (r, σ')) : MM yX5_tripRest wu_X5_tripRest rm_X5_tripRest [.ref (G.2.2 (o0))] G σ (oc r) σ' := by
  refine mm_of (cc := cX5_tripRest) (maxL := 1) (ret := (some .int)) (by decide +kernel) rfl (Nat.le_of_ble_eq_true rfl) (fun x C X hg => ?_)
  have C : Cx x cX5_tripRest 1 RX5 (some .int) [] wu_X5_tripRest rm_X5_tripRest G.1 (tysF G) := C
  unfold sp_X5_tripRest at h
  show J x [(0, .ref (G.2.2 (o0)))] [] σ 0 0 0
  refine j_aload_n C dX5_tripRest_0 0 rfl ?_
  obtain ⟨⟨r1, σ2⟩, h3, h⟩ := ob h
  try dsimp only at h
  rcases r1 with r1 | r1 <;> (try dsimp only at h)
  · refine j_callV C X (c_X5_checkTrip n G σ o0 ho0 _ _ h3) dX5_tripRest_1 (gV u_297 u_299 u_300 u_211 u_298) rfl hy_X5_checkTrip rfl ho0 rfl (ci := 9) rfl rfl rfl (by decide) (Nat.le_of_ble_eq_true rfl) (by decide) ?_
    refine j_aload_n C dX5_tripRest_4 0 rfl ?_
    refine j_get C X dX5_tripRest_5 ho0 rfl rfl 0 (by decide) (fin := true) rfl rfl in_X5 (mU u_208) ?_
    refine j_get C X dX5_tripRest_8 (sh_5_0 ho0) rfl rfl 3 (by decide) (fin := true) rfl rfl in_X1 (mU u_215) ?_
    refine j_get C X dX5_tripRest_11 (sh_1_3 (sh_5_0 ho0)) rfl rfl 3 (by decide) (fin := false) rfl rfl in_X3 (mU u_303) ?_
    exact j_ireturn C dX5_tripRest_14 (e_oi h hg) (by decide) (by decide)
  · exact j_escV C X (c_X5_checkTrip n G σ o0 ho0 _ _ h3) dX5_tripRest_1 (gV u_297 u_299 u_300 u_211 u_298) rfl hy_X5_checkTrip rfl ho0 rfl (ci := 9) rfl rfl rfl (by decide) (Nat.le_of_ble_eq_true rfl) (by decide) (e_x h hg)
def sp_X5_cageLevel (n : Nat) (σ : Mem) (o0 : Nat) : Option (Int32 × Mem) := some ((σ.1 (rf o0 0) 12), σ)
abbrev rm_X5_cageLevel : Room := ({ frames := 10, cells := 0, slots := 0, locals := 200 } : Room)
abbrev wu_X5_cageLevel : List Cond := (Cond.code yX5_cageLevel cX5_cageLevel 1 (some .int)) :: wsU
theorem hy_X5_cageLevel : hyOk yX5_cageLevel 0 := by decide +kernel
set_option maxRecDepth 20000 in
set_option maxHeartbeats 4000000 in
theorem c_X5_cageLevel (n : Nat) (G : Gt) (σ : Mem) (o0 : Nat) (ho0 : Ok o0 5) (r : Int32) (σ' : Mem) (h : sp_X5_cageLevel n σ o0 = some (r, σ')) : MM yX5_cageLevel wu_X5_cageLevel rm_X5_cageLevel [.ref (G.2.2 (o0))] G σ (.inl (some (.int r))) σ' := by
  refine mm_of (cc := cX5_cageLevel) (maxL := 1) (ret := (some .int)) (by decide +kernel) rfl (Nat.le_of_ble_eq_true rfl) (fun x C X hg => ?_)
  have C : Cx x cX5_cageLevel 1 RX5 (some .int) [] wu_X5_cageLevel rm_X5_cageLevel G.1 (tysF G) := C
  unfold sp_X5_cageLevel at h
  show J x [(0, .ref (G.2.2 (o0)))] [] σ 0 0 0
  refine j_aload_n C dX5_cageLevel_0 0 rfl ?_
  refine j_get C X dX5_cageLevel_1 ho0 rfl rfl 0 (by decide) (fin := true) rfl rfl in_X5 (mU u_208) ?_
  refine j_get C X dX5_cageLevel_4 (sh_5_0 ho0) rfl rfl 12 (by decide) (fin := false) rfl rfl in_X1 (mU u_304) ?_
  exact j_ireturn C dX5_cageLevel_7 (e_i h hg) (by decide) (by decide)
def sp_X5_doneCount (n : Nat) (σ : Mem) (o0 : Nat) : Option (Int32 × Mem) := some ((σ.1 (rf o0 0) 13), σ)
abbrev rm_X5_doneCount : Room := ({ frames := 10, cells := 0, slots := 0, locals := 200 } : Room)
abbrev wu_X5_doneCount : List Cond := (Cond.code yX5_doneCount cX5_doneCount 1 (some .int)) :: wsU
theorem hy_X5_doneCount : hyOk yX5_doneCount 0 := by decide +kernel
set_option maxRecDepth 20000 in
set_option maxHeartbeats 4000000 in
theorem c_X5_doneCount (n : Nat) (G : Gt) (σ : Mem) (o0 : Nat) (ho0 : Ok o0 5) (r : Int32) (σ' : Mem) (h : sp_X5_doneCount n σ o0 = some (r, σ')) : MM yX5_doneCount wu_X5_doneCount rm_X5_doneCount [.ref (G.2.2 (o0))] G σ (.inl (some (.int r))) σ' := by
  refine mm_of (cc := cX5_doneCount) (maxL := 1) (ret := (some .int)) (by decide +kernel) rfl (Nat.le_of_ble_eq_true rfl) (fun x C X hg => ?_)
  have C : Cx x cX5_doneCount 1 RX5 (some .int) [] wu_X5_doneCount rm_X5_doneCount G.1 (tysF G) := C
  unfold sp_X5_doneCount at h
  show J x [(0, .ref (G.2.2 (o0)))] [] σ 0 0 0
  refine j_aload_n C dX5_doneCount_0 0 rfl ?_
  refine j_get C X dX5_doneCount_1 ho0 rfl rfl 0 (by decide) (fin := true) rfl rfl in_X5 (mU u_208) ?_
  refine j_get C X dX5_doneCount_4 (sh_5_0 ho0) rfl rfl 13 (by decide) (fin := false) rfl rfl in_X1 (mU u_305) ?_
  exact j_ireturn C dX5_doneCount_7 (e_i h hg) (by decide) (by decide)
def sp_X5_droppedCount (n : Nat) (σ : Mem) (o0 : Nat) : Option (Int32 × Mem) := some ((σ.1 (rf o0 0) 14), σ)
abbrev rm_X5_droppedCount : Room := ({ frames := 10, cells := 0, slots := 0, locals := 200 } : Room)
abbrev wu_X5_droppedCount : List Cond := (Cond.code yX5_droppedCount cX5_droppedCount 1 (some .int)) :: wsU
theorem hy_X5_droppedCount : hyOk yX5_droppedCount 0 := by decide +kernel
set_option maxRecDepth 20000 in
set_option maxHeartbeats 4000000 in
theorem c_X5_droppedCount (n : Nat) (G : Gt) (σ : Mem) (o0 : Nat) (ho0 : Ok o0 5) (r : Int32) (σ' : Mem) (h : sp_X5_droppedCount n σ o0 = some (r, σ')) : MM yX5_droppedCount wu_X5_droppedCount rm_X5_droppedCount [.ref (G.2.2 (o0))] G σ (.inl (some (.int r))) σ' := by
  refine mm_of (cc := cX5_droppedCount) (maxL := 1) (ret := (some .int)) (by decide +kernel) rfl (Nat.le_of_ble_eq_true rfl) (fun x C X hg => ?_)
  have C : Cx x cX5_droppedCount 1 RX5 (some .int) [] wu_X5_droppedCount rm_X5_droppedCount G.1 (tysF G) := C
  unfold sp_X5_droppedCount at h
  show J x [(0, .ref (G.2.2 (o0)))] [] σ 0 0 0
  refine j_aload_n C dX5_droppedCount_0 0 rfl ?_
  refine j_get C X dX5_droppedCount_1 ho0 rfl rfl 0 (by decide) (fin := true) rfl rfl in_X5 (mU u_208) ?_
  refine j_get C X dX5_droppedCount_4 (sh_5_0 ho0) rfl rfl 14 (by decide) (fin := false) rfl rfl in_X1 (mU u_306) ?_
  exact j_ireturn C dX5_droppedCount_7 (e_i h hg) (by decide) (by decide)
def sp_X5_waitFor (n : Nat) (σ : Mem) (o0 : Nat) (a1 : Int32) : Option ((Int32 ⊕ String) × Mem) := ((sp_X1_isPending n σ ((rf o0 0)) a1).bind fun q => match q with | (r1, σ2) => if r1 = 0 then some (.inr "java/util/NoSuchElementException", σ2) else ((sp_X1_copyFrom n σ2 ((rf o0 1)) ((rf o0 0))).bind fun q => match q with | (_, σ6) => ((sp_X1_passToEndOf n σ6 ((rf o0 1)) a1).bind fun q => match q with | (r8, σ9) => if r8 = (-1 : Int32) then some (.inr "java/lang/UnsupportedOperationException", σ9) else some (.inl r8, σ9))))
abbrev rm_X5_waitFor : Room := ({ frames := 16, cells := 1, slots := 6, locals := 334 } : Room)
abbrev wu_X5_waitFor : List Cond := (Cond.code yX5_waitFor cX5_waitFor 3 (some .int)) :: wsU
theorem hy_X5_waitFor : hyOk yX5_waitFor 1 := by decide +kernel
set_option maxRecDepth 20000 in
set_option maxHeartbeats 4000000 in
theorem c_X5_waitFor (n : Nat) (G : Gt) (σ : Mem) (o0 : Nat) (a1 : Int32) (ho0 : Ok o0 5) (r : Int32 ⊕ String) (σ' : Mem) (h : sp_X5_waitFor n σ o0 a1 = some (r, σ')) : MM yX5_waitFor wu_X5_waitFor rm_X5_waitFor [.ref (G.2.2 (o0)), .int (a1)] G σ (oc r) σ' := by
  refine mm_of (cc := cX5_waitFor) (maxL := 3) (ret := (some .int)) (by decide +kernel) rfl (Nat.le_of_ble_eq_true rfl) (fun x C X hg => ?_)
  have C : Cx x cX5_waitFor 3 RX5 (some .int) [] wu_X5_waitFor rm_X5_waitFor G.1 (tysF G) := C
  unfold sp_X5_waitFor at h
  show J x [(0, .ref (G.2.2 (o0))), (1, .int (a1))] [] σ 0 0 0
  refine j_aload_n C dX5_waitFor_0 0 rfl ?_
  refine j_get C X dX5_waitFor_1 ho0 rfl rfl 0 (by decide) (fin := true) rfl rfl in_X5 (mU u_208) ?_
  refine j_iload_n C dX5_waitFor_4 1 rfl ?_
  obtain ⟨⟨r1, σ2⟩, h3, h⟩ := ob h
  try dsimp only at h
  refine j_callV C X (c_X1_isPending n G σ ((rf o0 0)) a1 (sh_5_0 ho0) _ _ h3) dX5_waitFor_5 (gV u_307 u_198 u_199 u_98 u_197) rfl hy_X1_isPending rfl (sh_5_0 ho0) rfl (ci := 5) rfl rfl rfl (by decide) (Nat.le_of_ble_eq_true rfl) (by decide) ?_
  refine j_if_ne C dX5_waitFor_8 21 (by decide) (fun c4 => ?_) (fun c4 => ?_)
  · have h := (if_neg c4).symm.trans h
    refine j_aload_n C dX5_waitFor_21 0 rfl ?_
    refine j_get C X dX5_waitFor_22 ho0 rfl rfl 1 (by decide) (fin := true) rfl rfl in_X5 (mU u_262) ?_
    refine j_aload_n C dX5_waitFor_25 0 rfl ?_
    refine j_get C X dX5_waitFor_26 ho0 rfl rfl 0 (by decide) (fin := true) rfl rfl in_X5 (mU u_208) ?_
    obtain ⟨⟨r5, σ6⟩, h7, h⟩ := ob h
    try dsimp only at h
    refine j_callV C X (c_X1_copyFrom n G σ2 ((rf o0 1)) ((rf o0 0)) (sh_5_1 ho0) (sh_5_0 ho0) _ _ h7) dX5_waitFor_29 (gV u_263 u_265 u_266 u_98 u_264) rfl hy_X1_copyFrom rfl (sh_5_1 ho0) rfl (ci := 5) rfl rfl rfl (by decide) (Nat.le_of_ble_eq_true rfl) (by decide) ?_
    refine j_aload_n C dX5_waitFor_32 0 rfl ?_
    refine j_get C X dX5_waitFor_33 ho0 rfl rfl 1 (by decide) (fin := true) rfl rfl in_X5 (mU u_262) ?_
    refine j_iload_n C dX5_waitFor_36 1 rfl ?_
    obtain ⟨⟨r8, σ9⟩, h10, h⟩ := ob h
    try dsimp only at h
    refine j_callV C X (c_X1_passToEndOf n G σ6 ((rf o0 1)) a1 (sh_5_1 ho0) _ _ h10) dX5_waitFor_37 (gV u_308 u_310 u_311 u_98 u_309) rfl hy_X1_passToEndOf rfl (sh_5_1 ho0) rfl (ci := 5) rfl rfl rfl (by decide) (Nat.le_of_ble_eq_true rfl) (by decide) ?_
    refine j_istore_n C dX5_waitFor_40 (by decide) [(2, .int (r8)), (0, .ref (G.2.2 (o0))), (1, .int (a1))] rfl ?_
    refine j_iload_n C dX5_waitFor_41 0 rfl ?_
    refine j_iconst C dX5_waitFor_42 ((-1 : Int32)) (by decide) ?_
    refine j_icmp_ne C dX5_waitFor_43 56 (by decide) (fun c11 => ?_) (fun c11 => ?_)
    · have h := (if_neg c11).symm.trans h
      refine j_iload_n C dX5_waitFor_56 0 rfl ?_
      exact j_ireturn C dX5_waitFor_57 (e_oi h hg) (by decide) (by decide)
    · have h := (if_pos c11).symm.trans h
      exact j_throw C ["java/lang/RuntimeException", "java/lang/Exception"] dX5_waitFor_46 dX5_waitFor_49 dX5_waitFor_50 dX5_waitFor_52 dX5_waitFor_55 (text := "no trip for the request would end so soon") (by decide +kernel) (by decide +kernel) (mU u_279) (mU u_280) (by decide +kernel) tw_160 tn_160 (by decide) (tgc tg_160) (by decide) (Nat.le_of_ble_eq_true rfl) (by decide) (by decide) X.grow (e_x h hg)
  · have h := (if_pos c4).symm.trans h
    exact j_throwX C ["java/lang/RuntimeException", "java/lang/Exception"] nse_0 nse_1 nse_2 nse_5 dX5_waitFor_11 dX5_waitFor_14 dX5_waitFor_15 dX5_waitFor_17 dX5_waitFor_20 (text := "the request is neither waiting nor on its way") (by decide +kernel) (by decide +kernel) (mU u_217) (mU u_218) (by decide +kernel) tw_125 tn_125 (by decide) (tgc tg_125) (by decide) (Nat.le_of_ble_eq_true rfl) (by decide) (by decide) X.grow (e_x h hg)
def lp_X5_isConsistent_17 (n : Nat) (o0 : Nat) : Nat → Mem → Int32 → Int32 → Option (Int32 × Mem)
  | 0, _, _, _ => none
  | k + 1, σ, l1, l2 => if (σ.1 (rf o0 0) 4) < l2 then if l1 = (σ.1 (rf o0 0) 9) then some ((1 : Int32), σ) else some ((0 : Int32), σ) else ((sp_X1_place n σ ((rf o0 0)) l2).bind fun q => match q with | (r6, σ7) => if Ok r6 0 then if (σ7.1 r6 5) = (σ7.1 r6 6) then lp_X5_isConsistent_17 n o0 k σ7 ((l1 + (σ7.1 r6 7))) ((l2 + (1 : Int32))) else some ((0 : Int32), σ7) else none)
theorem lp_X5_isConsistent_17_s (n : Nat) (o0 : Nat) (k : Nat) (σ : Mem) (l1 : Int32) (l2 : Int32) : lp_X5_isConsistent_17 n o0 (k + 1) σ l1 l2 = (if (σ.1 (rf o0 0) 4) < l2 then if l1 = (σ.1 (rf o0 0) 9) then some ((1 : Int32), σ) else some ((0 : Int32), σ) else ((sp_X1_place n σ ((rf o0 0)) l2).bind fun q => match q with | (r6, σ7) => if Ok r6 0 then if (σ7.1 r6 5) = (σ7.1 r6 6) then lp_X5_isConsistent_17 n o0 k σ7 ((l1 + (σ7.1 r6 7))) ((l2 + (1 : Int32))) else some ((0 : Int32), σ7) else none)) := rfl
def sp_X5_isConsistent (n : Nat) (σ : Mem) (o0 : Nat) : Option (Int32 × Mem) := ((sp_X1_followAir n σ ((rf o0 0))).bind fun q => match q with | (_, σ2) => lp_X5_isConsistent_17 n o0 n σ2 ((σ2.1 (rf o0 0) 10)) ((1 : Int32)))
abbrev rm_X5_isConsistent : Room := ({ frames := 13, cells := 0, slots := 0, locals := 271 } : Room)
abbrev wu_X5_isConsistent : List Cond := (Cond.code yX5_isConsistent cX5_isConsistent 4 (some .boolean)) :: wsU
theorem hy_X5_isConsistent : hyOk yX5_isConsistent 0 := by decide +kernel
set_option maxRecDepth 20000 in
set_option maxHeartbeats 4000000 in
theorem c_X5_isConsistent (n : Nat) (G : Gt) (σ : Mem) (o0 : Nat) (ho0 : Ok o0 5) (r : Int32) (σ' : Mem) (h : sp_X5_isConsistent n σ o0 = some (r, σ')) : MM yX5_isConsistent wu_X5_isConsistent rm_X5_isConsistent [.ref (G.2.2 (o0))] G σ (.inl (some (.int r))) σ' := by
  refine mm_of (cc := cX5_isConsistent) (maxL := 4) (ret := (some .boolean)) (by decide +kernel) rfl (Nat.le_of_ble_eq_true rfl) (fun x C X hg => ?_)
  have C : Cx x cX5_isConsistent 4 RX5 (some .boolean) [] wu_X5_isConsistent rm_X5_isConsistent G.1 (tysF G) := C
  have LP17 : ∀ (k : Nat) (σ : Mem) (l1 : Int32) (l2 : Int32), lp_X5_isConsistent_17 n o0 k σ l1 l2 = some (r, σ') → J x [(0, .ref (G.2.2 (o0))), (1, .int (l1)), (2, .int (l2))] [] σ 17 0 0 := by
    intro k
    induction k with
    | zero => intro σ l1 l2  h; cases h
    | succ k ih =>
    intro σ l1 l2  h
    rw [lp_X5_isConsistent_17_s] at h
    refine j_iload_n C dX5_isConsistent_17 2 rfl ?_
    refine j_aload_n C dX5_isConsistent_18 0 rfl ?_
    refine j_get C X dX5_isConsistent_19 ho0 rfl rfl 0 (by decide) (fin := true) rfl rfl in_X5 (mU u_208) ?_
    refine j_get C X dX5_isConsistent_22 (sh_5_0 ho0) rfl rfl 4 (by decide) (fin := false) rfl rfl in_X1 (mU u_209) ?_
    refine j_icmp_gt C dX5_isConsistent_25 63 (by decide) (fun c4 => ?_) (fun c4 => ?_)
    · have h := (if_pos c4).symm.trans h
      refine j_iload_n C dX5_isConsistent_63 1 rfl ?_
      refine j_aload_n C dX5_isConsistent_64 0 rfl ?_
      refine j_get C X dX5_isConsistent_65 ho0 rfl rfl 0 (by decide) (fin := true) rfl rfl in_X5 (mU u_208) ?_
      refine j_get C X dX5_isConsistent_68 (sh_5_0 ho0) rfl rfl 9 (by decide) (fin := false) rfl rfl in_X1 (mU u_258) ?_
      refine j_icmp_ne C dX5_isConsistent_71 78 (by decide) (fun c5 => ?_) (fun c5 => ?_)
      · have h := (if_neg c5).symm.trans h
        refine j_iconst C dX5_isConsistent_78 ((0 : Int32)) (by decide) ?_
        exact j_zreturn C (by decide) dX5_isConsistent_79 (e_i h hg) (by decide) (by decide)
      · have h := (if_pos c5).symm.trans h
        refine j_iconst C dX5_isConsistent_74 ((1 : Int32)) (by decide) ?_
        refine j_goto C dX5_isConsistent_75 79 (by decide) ?_
        exact j_zreturn C (by decide) dX5_isConsistent_79 (e_i h hg) (by decide) (by decide)
    · have h := (if_neg c4).symm.trans h
      refine j_aload_n C dX5_isConsistent_28 0 rfl ?_
      refine j_get C X dX5_isConsistent_29 ho0 rfl rfl 0 (by decide) (fin := true) rfl rfl in_X5 (mU u_208) ?_
      refine j_iload_n C dX5_isConsistent_32 2 rfl ?_
      obtain ⟨⟨r6, σ7⟩, h8, h⟩ := ob h
      try dsimp only at h
      obtain ⟨k9, h⟩ := sg h
      refine j_callV C X (c_X1_place n G σ ((rf o0 0)) l2 (sh_5_0 ho0) _ _ h8) dX5_isConsistent_33 (gV u_231 u_100 u_101 u_98 u_99) rfl hy_X1_place rfl (sh_5_0 ho0) rfl (ci := 5) rfl rfl rfl (by decide) (Nat.le_of_ble_eq_true rfl) (by decide) ?_
      refine j_astore_n C dX5_isConsistent_36 (by decide) [(3, .ref (G.2.2 (r6))), (0, .ref (G.2.2 (o0))), (1, .int (l1)), (2, .int (l2))] rfl ?_
      refine j_iload_n C dX5_isConsistent_37 2 rfl ?_
      refine j_aload_n C dX5_isConsistent_38 0 rfl ?_
      refine j_get C X dX5_isConsistent_39 k9 rfl rfl 7 (by decide) (fin := false) rfl rfl in_X0 (mU u_255) ?_
      refine j_iadd C dX5_isConsistent_42 ?_
      refine j_istore_n C dX5_isConsistent_43 (by decide) [(1, .int ((l1 + (σ7.1 r6 7)))), (3, .ref (G.2.2 (r6))), (0, .ref (G.2.2 (o0))), (2, .int (l2))] rfl ?_
      refine j_aload_n C dX5_isConsistent_44 1 rfl ?_
      refine j_get C X dX5_isConsistent_45 k9 rfl rfl 5 (by decide) (fin := false) rfl rfl in_X0 (mU u_248) ?_
      refine j_aload_n C dX5_isConsistent_48 1 rfl ?_
      refine j_get C X dX5_isConsistent_49 k9 rfl rfl 6 (by decide) (fin := false) rfl rfl in_X0 (mU u_253) ?_
      refine j_icmp_eq C dX5_isConsistent_52 57 (by decide) (fun c10 => ?_) (fun c10 => ?_)
      · have h := (if_pos c10).symm.trans h
        refine j_iinc C dX5_isConsistent_57 3 rfl ((1 : Int32)) (by decide) (by decide) [(2, .int ((l2 + (1 : Int32)))), (1, .int ((l1 + (σ7.1 r6 7)))), (3, .ref (G.2.2 (r6))), (0, .ref (G.2.2 (o0)))] rfl ?_
        refine j_goto C dX5_isConsistent_60 17 (by decide) ?_
        refine j_sub [3, 1, 0] [(0, .ref (G.2.2 (o0))), (1, .int ((l1 + (σ7.1 r6 7)))), (2, .int ((l2 + (1 : Int32))))] rfl ?_
        exact ih σ7 ((l1 + (σ7.1 r6 7))) ((l2 + (1 : Int32)))  h
      · have h := (if_neg c10).symm.trans h
        refine j_iconst C dX5_isConsistent_55 ((0 : Int32)) (by decide) ?_
        exact j_zreturn C (by decide) dX5_isConsistent_56 (e_i h hg) (by decide) (by decide)
  unfold sp_X5_isConsistent at h
  show J x [(0, .ref (G.2.2 (o0)))] [] σ 0 0 0
  refine j_aload_n C dX5_isConsistent_0 0 rfl ?_
  refine j_get C X dX5_isConsistent_1 ho0 rfl rfl 0 (by decide) (fin := true) rfl rfl in_X5 (mU u_208) ?_
  obtain ⟨⟨r1, σ2⟩, h3, h⟩ := ob h
  try dsimp only at h
  refine j_callV C X (c_X1_followAir n G σ ((rf o0 0)) (sh_5_0 ho0) _ _ h3) dX5_isConsistent_4 (gV u_249 u_251 u_252 u_98 u_250) rfl hy_X1_followAir rfl (sh_5_0 ho0) rfl (ci := 5) rfl rfl rfl (by decide) (Nat.le_of_ble_eq_true rfl) (by decide) ?_
  refine j_aload_n C dX5_isConsistent_7 0 rfl ?_
  refine j_get C X dX5_isConsistent_8 ho0 rfl rfl 0 (by decide) (fin := true) rfl rfl in_X5 (mU u_208) ?_
  refine j_get C X dX5_isConsistent_11 (sh_5_0 ho0) rfl rfl 10 (by decide) (fin := false) rfl rfl in_X1 (mU u_259) ?_
  refine j_istore_n C dX5_isConsistent_14 (by decide) [(1, .int ((σ2.1 (rf o0 0) 10))), (0, .ref (G.2.2 (o0)))] rfl ?_
  refine j_iconst C dX5_isConsistent_15 ((1 : Int32)) (by decide) ?_
  refine j_istore_n C dX5_isConsistent_16 (by decide) [(2, .int ((1 : Int32))), (1, .int ((σ2.1 (rf o0 0) 10))), (0, .ref (G.2.2 (o0)))] rfl ?_
  refine j_sub [2, 1, 0] [(0, .ref (G.2.2 (o0))), (1, .int ((σ2.1 (rf o0 0) 10))), (2, .int ((1 : Int32)))] rfl ?_
  exact LP17 n σ2 ((σ2.1 (rf o0 0) 10)) ((1 : Int32))  h
