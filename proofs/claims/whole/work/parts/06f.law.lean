def sp_L_addLevel (n : Nat) (σ : Mem) (o0 : Nat) (a1 : Int32) (a2 : Int32) (a3 : Int32) (a4 : Int32) (o5 : Nat) : Option (Int32 × Mem) := ((sp_X5_addLevel n σ o0 a1 a2 a3 a4).bind fun q => match q with | (.inl r1, σ2) => (lm (wi σ2 o5 ((0 : Int32)).toNatClampNeg r1) fun σ5 => some ((0 : Int32), σ5)) | (.inr E, σ2) => (if E = "java/lang/IllegalArgumentException" then some ((1 : Int32), σ2) else (if E = "java/lang/IllegalStateException" then some ((2 : Int32), σ2) else none)))
abbrev rm_L_addLevel : Room := ({ frames := 14, cells := 5, slots := 30, locals := 291 } : Room)
abbrev wu_L_addLevel : List Cond := (Cond.codeWith yL_addLevel cL_addLevel 7 (some .int) [(0, 14, 17, 13), (0, 14, 21, 15)]) :: wsU
theorem hy_L_addLevel : hyOk yL_addLevel 6 := by decide +kernel
set_option maxRecDepth 20000 in
set_option maxHeartbeats 4000000 in
theorem c_L_addLevel (n : Nat) (G : Gt) (σ : Mem) (o0 : Nat) (a1 : Int32) (a2 : Int32) (a3 : Int32) (a4 : Int32) (o5 : Nat) (ho0 : Ok o0 5) (ho5 : Ok o5 12) (r : Int32) (σ' : Mem) (h : sp_L_addLevel n σ o0 a1 a2 a3 a4 o5 = some (r, σ')) : MM yL_addLevel wu_L_addLevel rm_L_addLevel [.ref (G.2.2 (o0)), .int (a1), .int (a2), .int (a3), .int (a4), .ref (G.2.2 (o5))] G σ (.inl (some (.int r))) σ' := by
  refine mm_ofW (cc := cL_addLevel) (maxL := 7) (ret := (some .int)) (by decide +kernel) rfl (Nat.le_of_ble_eq_true rfl) (fun x C X hg => ?_)
  have C : Cx x cL_addLevel 7 RL (some .int) (tableOf [(0, 14, 17, 13), (0, 14, 21, 15)]) wu_L_addLevel rm_L_addLevel G.1 (tysF G) := C
  unfold sp_L_addLevel at h
  show J x [(0, .ref (G.2.2 (o0))), (1, .int (a1)), (2, .int (a2)), (3, .int (a3)), (4, .int (a4)), (5, .ref (G.2.2 (o5)))] [] σ 0 0 0
  refine j_aload C dL_addLevel_0 5 rfl ?_
  refine j_iconst C dL_addLevel_2 ((0 : Int32)) (by decide) ?_
  refine j_aload_n C dL_addLevel_3 0 rfl ?_
  refine j_iload_n C dL_addLevel_4 1 rfl ?_
  refine j_iload_n C dL_addLevel_5 2 rfl ?_
  refine j_iload_n C dL_addLevel_6 3 rfl ?_
  refine j_iload C dL_addLevel_7 4 rfl ?_
  obtain ⟨⟨r1, σ2⟩, h3, h⟩ := ob h
  try dsimp only at h
  rcases r1 with r1 | r1 <;> (try dsimp only at h)
  · refine j_callV C X (c_X5_addLevel n G σ o0 a1 a2 a3 a4 ho0 _ _ h3) dL_addLevel_9 (gV u_428 u_430 u_431 u_211 u_429) rfl hy_X5_addLevel rfl ho0 rfl (ci := 9) rfl rfl rfl (by decide) (Nat.le_of_ble_eq_true rfl) (by decide) ?_
    refine j_i2l C dL_addLevel_12 ?_
    obtain ⟨σ5, e6, h⟩ := lm_e h
    refine j_last C X dL_addLevel_13 ho5 (v := r1) rfl vp01 e6 ?_
    refine j_goto C dL_addLevel_14 25 (by decide) ?_
    refine j_iconst C dL_addLevel_25 ((0 : Int32)) (by decide) ?_
    exact j_ireturn C dL_addLevel_26 (e_i h hg) (by decide) (by decide)
  · by_cases c10 : r1 = "java/lang/IllegalArgumentException"
    · subst c10
      have h := (if_pos rfl).symm.trans h
      refine j_catV C X (c_X5_addLevel n G σ o0 a1 a2 a3 a4 ho0 _ _ h3) dL_addLevel_9 (gV u_428 u_430 u_431 u_211 u_429) rfl hy_X5_addLevel rfl ho0 rfl (ci := 9) rfl rfl rfl (by decide) (Nat.le_of_ble_eq_true rfl) (by decide) [] ⟨0, 14, 17, 13⟩ [⟨0, 14, 21, 15⟩] rfl (fun z hz => by cases hz) (by decide) (by decide) (mU u_432) (by decide) (fun q9 => ?_)
      refine j_astore C dL_addLevel_17 (by decide) [(6, .ref q9), (0, .ref (G.2.2 (o0))), (1, .int (a1)), (2, .int (a2)), (3, .int (a3)), (4, .int (a4)), (5, .ref (G.2.2 (o5)))] rfl ?_
      refine j_iconst C dL_addLevel_19 ((1 : Int32)) (by decide) ?_
      exact j_ireturn C dL_addLevel_20 (e_i h hg) (by decide) (by decide)
    have h := (if_neg c10).symm.trans h
    by_cases c8 : r1 = "java/lang/IllegalStateException"
    · subst c8
      have h := (if_pos rfl).symm.trans h
      refine j_catV C X (c_X5_addLevel n G σ o0 a1 a2 a3 a4 ho0 _ _ h3) dL_addLevel_9 (gV u_428 u_430 u_431 u_211 u_429) rfl hy_X5_addLevel rfl ho0 rfl (ci := 9) rfl rfl rfl (by decide) (Nat.le_of_ble_eq_true rfl) (by decide) [⟨0, 14, 17, 13⟩] ⟨0, 14, 21, 15⟩ [] rfl (fun z hz => by rcases List.mem_cons.mp hz with rfl | hz; exact ⟨by decide, "java/lang/IllegalArgumentException", (mU u_432), by decide, by decide⟩; cases hz) (by decide) (by decide) (mU u_433) (by decide) (fun q7 => ?_)
      refine j_astore C dL_addLevel_21 (by decide) [(6, .ref q7), (0, .ref (G.2.2 (o0))), (1, .int (a1)), (2, .int (a2)), (3, .int (a3)), (4, .int (a4)), (5, .ref (G.2.2 (o5)))] rfl ?_
      refine j_iconst C dL_addLevel_23 ((2 : Int32)) (by decide) ?_
      exact j_ireturn C dL_addLevel_24 (e_i h hg) (by decide) (by decide)
    have h := (if_neg c8).symm.trans h
    cases h
def sp_L_depthOf (n : Nat) (σ : Mem) (o0 : Nat) (a1 : Int32) (o2 : Nat) : Option (Int32 × Mem) := ((sp_X5_depthOf n σ o0 a1).bind fun q => match q with | (.inl r1, σ2) => (lm (wi σ2 o2 ((0 : Int32)).toNatClampNeg r1) fun σ5 => some ((0 : Int32), σ5)) | (.inr E, σ2) => (if E = "java/lang/IndexOutOfBoundsException" then some ((1 : Int32), σ2) else none))
abbrev rm_L_depthOf : Room := ({ frames := 12, cells := 1, slots := 6, locals := 242 } : Room)
abbrev wu_L_depthOf : List Cond := (Cond.codeWith yL_depthOf cL_depthOf 4 (some .int) [(0, 9, 12, 21)]) :: wsU
theorem hy_L_depthOf : hyOk yL_depthOf 3 := by decide +kernel
set_option maxRecDepth 20000 in
set_option maxHeartbeats 4000000 in
theorem c_L_depthOf (n : Nat) (G : Gt) (σ : Mem) (o0 : Nat) (a1 : Int32) (o2 : Nat) (ho0 : Ok o0 5) (ho2 : Ok o2 12) (r : Int32) (σ' : Mem) (h : sp_L_depthOf n σ o0 a1 o2 = some (r, σ')) : MM yL_depthOf wu_L_depthOf rm_L_depthOf [.ref (G.2.2 (o0)), .int (a1), .ref (G.2.2 (o2))] G σ (.inl (some (.int r))) σ' := by
  refine mm_ofW (cc := cL_depthOf) (maxL := 4) (ret := (some .int)) (by decide +kernel) rfl (Nat.le_of_ble_eq_true rfl) (fun x C X hg => ?_)
  have C : Cx x cL_depthOf 4 RL (some .int) (tableOf [(0, 9, 12, 21)]) wu_L_depthOf rm_L_depthOf G.1 (tysF G) := C
  unfold sp_L_depthOf at h
  show J x [(0, .ref (G.2.2 (o0))), (1, .int (a1)), (2, .ref (G.2.2 (o2)))] [] σ 0 0 0
  refine j_aload_n C dL_depthOf_0 2 rfl ?_
  refine j_iconst C dL_depthOf_1 ((0 : Int32)) (by decide) ?_
  refine j_aload_n C dL_depthOf_2 0 rfl ?_
  refine j_iload_n C dL_depthOf_3 1 rfl ?_
  obtain ⟨⟨r1, σ2⟩, h3, h⟩ := ob h
  try dsimp only at h
  rcases r1 with r1 | r1 <;> (try dsimp only at h)
  · refine j_callV C X (c_X5_depthOf n G σ o0 a1 ho0 _ _ h3) dL_depthOf_4 (gV u_434 u_436 u_437 u_211 u_435) rfl hy_X5_depthOf rfl ho0 rfl (ci := 9) rfl rfl rfl (by decide) (Nat.le_of_ble_eq_true rfl) (by decide) ?_
    refine j_i2l C dL_depthOf_7 ?_
    obtain ⟨σ5, e6, h⟩ := lm_e h
    refine j_last C X dL_depthOf_8 ho2 (v := r1) rfl vp01 e6 ?_
    refine j_goto C dL_depthOf_9 15 (by decide) ?_
    refine j_iconst C dL_depthOf_15 ((0 : Int32)) (by decide) ?_
    exact j_ireturn C dL_depthOf_16 (e_i h hg) (by decide) (by decide)
  · by_cases c8 : r1 = "java/lang/IndexOutOfBoundsException"
    · subst c8
      have h := (if_pos rfl).symm.trans h
      refine j_catV C X (c_X5_depthOf n G σ o0 a1 ho0 _ _ h3) dL_depthOf_4 (gV u_434 u_436 u_437 u_211 u_435) rfl hy_X5_depthOf rfl ho0 rfl (ci := 9) rfl rfl rfl (by decide) (Nat.le_of_ble_eq_true rfl) (by decide) [] ⟨0, 9, 12, 21⟩ [] rfl (fun z hz => by cases hz) (by decide) (by decide) (mU u_438) (by decide) (fun q7 => ?_)
      refine j_astore_n C dL_depthOf_12 (by decide) [(3, .ref q7), (0, .ref (G.2.2 (o0))), (1, .int (a1)), (2, .ref (G.2.2 (o2)))] rfl ?_
      refine j_iconst C dL_depthOf_13 ((1 : Int32)) (by decide) ?_
      exact j_ireturn C dL_depthOf_14 (e_i h hg) (by decide) (by decide)
    have h := (if_neg c8).symm.trans h
    cases h
def sp_L_setFan (n : Nat) (σ : Mem) (o0 : Nat) (a1 : Int32) (o2 : Nat) : Option (Int32 × Mem) := ((sp_X5_setFan n σ o0 a1).bind fun q => match q with | (.inl r1, σ2) => (lm (wi σ2 o2 ((0 : Int32)).toNatClampNeg r1) fun σ5 => some ((0 : Int32), σ5)) | (.inr E, σ2) => (if E = "java/lang/IllegalArgumentException" then some ((1 : Int32), σ2) else none))
abbrev rm_L_setFan : Room := ({ frames := 14, cells := 1, slots := 6, locals := 289 } : Room)
abbrev wu_L_setFan : List Cond := (Cond.codeWith yL_setFan cL_setFan 4 (some .int) [(0, 9, 12, 13)]) :: wsU
theorem hy_L_setFan : hyOk yL_setFan 3 := by decide +kernel
set_option maxRecDepth 20000 in
set_option maxHeartbeats 4000000 in
theorem c_L_setFan (n : Nat) (G : Gt) (σ : Mem) (o0 : Nat) (a1 : Int32) (o2 : Nat) (ho0 : Ok o0 5) (ho2 : Ok o2 12) (r : Int32) (σ' : Mem) (h : sp_L_setFan n σ o0 a1 o2 = some (r, σ')) : MM yL_setFan wu_L_setFan rm_L_setFan [.ref (G.2.2 (o0)), .int (a1), .ref (G.2.2 (o2))] G σ (.inl (some (.int r))) σ' := by
  refine mm_ofW (cc := cL_setFan) (maxL := 4) (ret := (some .int)) (by decide +kernel) rfl (Nat.le_of_ble_eq_true rfl) (fun x C X hg => ?_)
  have C : Cx x cL_setFan 4 RL (some .int) (tableOf [(0, 9, 12, 13)]) wu_L_setFan rm_L_setFan G.1 (tysF G) := C
  unfold sp_L_setFan at h
  show J x [(0, .ref (G.2.2 (o0))), (1, .int (a1)), (2, .ref (G.2.2 (o2)))] [] σ 0 0 0
  refine j_aload_n C dL_setFan_0 2 rfl ?_
  refine j_iconst C dL_setFan_1 ((0 : Int32)) (by decide) ?_
  refine j_aload_n C dL_setFan_2 0 rfl ?_
  refine j_iload_n C dL_setFan_3 1 rfl ?_
  obtain ⟨⟨r1, σ2⟩, h3, h⟩ := ob h
  try dsimp only at h
  rcases r1 with r1 | r1 <;> (try dsimp only at h)
  · refine j_callV C X (c_X5_setFan n G σ o0 a1 ho0 _ _ h3) dL_setFan_4 (gV u_439 u_441 u_442 u_211 u_440) rfl hy_X5_setFan rfl ho0 rfl (ci := 9) rfl rfl rfl (by decide) (Nat.le_of_ble_eq_true rfl) (by decide) ?_
    refine j_i2l C dL_setFan_7 ?_
    obtain ⟨σ5, e6, h⟩ := lm_e h
    refine j_last C X dL_setFan_8 ho2 (v := r1) rfl vp01 e6 ?_
    refine j_goto C dL_setFan_9 15 (by decide) ?_
    refine j_iconst C dL_setFan_15 ((0 : Int32)) (by decide) ?_
    exact j_ireturn C dL_setFan_16 (e_i h hg) (by decide) (by decide)
  · by_cases c8 : r1 = "java/lang/IllegalArgumentException"
    · subst c8
      have h := (if_pos rfl).symm.trans h
      refine j_catV C X (c_X5_setFan n G σ o0 a1 ho0 _ _ h3) dL_setFan_4 (gV u_439 u_441 u_442 u_211 u_440) rfl hy_X5_setFan rfl ho0 rfl (ci := 9) rfl rfl rfl (by decide) (Nat.le_of_ble_eq_true rfl) (by decide) [] ⟨0, 9, 12, 13⟩ [] rfl (fun z hz => by cases hz) (by decide) (by decide) (mU u_432) (by decide) (fun q7 => ?_)
      refine j_astore_n C dL_setFan_12 (by decide) [(3, .ref q7), (0, .ref (G.2.2 (o0))), (1, .int (a1)), (2, .ref (G.2.2 (o2)))] rfl ?_
      refine j_iconst C dL_setFan_13 ((1 : Int32)) (by decide) ?_
      exact j_ireturn C dL_setFan_14 (e_i h hg) (by decide) (by decide)
    have h := (if_neg c8).symm.trans h
    cases h
def sp_L_setDoor (n : Nat) (σ : Mem) (o0 : Nat) (a1 : Int32) (a2 : Int32) (o3 : Nat) : Option (Int32 × Mem) := ((sp_X5_setDoor n σ o0 a1 a2).bind fun q => match q with | (.inl r1, σ2) => if r1 = 0 then (lm (wi σ2 o3 ((0 : Int32)).toNatClampNeg (0 : Int32)) fun σ6 => some ((0 : Int32), σ6)) else (lm (wi σ2 o3 ((0 : Int32)).toNatClampNeg (1 : Int32)) fun σ9 => some ((0 : Int32), σ9)) | (.inr E, σ2) => (if E = "java/lang/IndexOutOfBoundsException" then some ((1 : Int32), σ2) else none))
abbrev rm_L_setDoor : Room := ({ frames := 14, cells := 1, slots := 6, locals := 291 } : Room)
abbrev wu_L_setDoor : List Cond := (Cond.codeWith yL_setDoor cL_setDoor 5 (some .int) [(0, 17, 20, 21)]) :: wsU
theorem hy_L_setDoor : hyOk yL_setDoor 4 := by decide +kernel
set_option maxRecDepth 20000 in
set_option maxHeartbeats 4000000 in
theorem c_L_setDoor (n : Nat) (G : Gt) (σ : Mem) (o0 : Nat) (a1 : Int32) (a2 : Int32) (o3 : Nat) (ho0 : Ok o0 5) (ho3 : Ok o3 12) (r : Int32) (σ' : Mem) (h : sp_L_setDoor n σ o0 a1 a2 o3 = some (r, σ')) : MM yL_setDoor wu_L_setDoor rm_L_setDoor [.ref (G.2.2 (o0)), .int (a1), .int (a2), .ref (G.2.2 (o3))] G σ (.inl (some (.int r))) σ' := by
  refine mm_ofW (cc := cL_setDoor) (maxL := 5) (ret := (some .int)) (by decide +kernel) rfl (Nat.le_of_ble_eq_true rfl) (fun x C X hg => ?_)
  have C : Cx x cL_setDoor 5 RL (some .int) (tableOf [(0, 17, 20, 21)]) wu_L_setDoor rm_L_setDoor G.1 (tysF G) := C
  unfold sp_L_setDoor at h
  show J x [(0, .ref (G.2.2 (o0))), (1, .int (a1)), (2, .int (a2)), (3, .ref (G.2.2 (o3)))] [] σ 0 0 0
  refine j_aload_n C dL_setDoor_0 3 rfl ?_
  refine j_iconst C dL_setDoor_1 ((0 : Int32)) (by decide) ?_
  refine j_aload_n C dL_setDoor_2 0 rfl ?_
  refine j_iload_n C dL_setDoor_3 1 rfl ?_
  refine j_iload_n C dL_setDoor_4 2 rfl ?_
  obtain ⟨⟨r1, σ2⟩, h3, h⟩ := ob h
  try dsimp only at h
  rcases r1 with r1 | r1 <;> (try dsimp only at h)
  · refine j_callV C X (c_X5_setDoor n G σ o0 a1 a2 ho0 _ _ h3) dL_setDoor_5 (gV u_443 u_445 u_446 u_211 u_444) rfl hy_X5_setDoor rfl ho0 rfl (ci := 9) rfl rfl rfl (by decide) (Nat.le_of_ble_eq_true rfl) (by decide) ?_
    refine j_if_eq C dL_setDoor_8 15 (by decide) (fun c4 => ?_) (fun c4 => ?_)
    · have h := (if_pos c4).symm.trans h
      refine j_lconst C dL_setDoor_15 0 (by decide) ?_
      obtain ⟨σ6, e7, h⟩ := lm_e h
      refine j_last C X dL_setDoor_16 ho3 (v := (0 : Int32)) (by decide) vp01 e7 ?_
      refine j_goto C dL_setDoor_17 24 (by decide) ?_
      refine j_iconst C dL_setDoor_24 ((0 : Int32)) (by decide) ?_
      exact j_ireturn C dL_setDoor_25 (e_i h hg) (by decide) (by decide)
    · have h := (if_neg c4).symm.trans h
      refine j_lconst C dL_setDoor_11 1 (by decide) ?_
      refine j_goto C dL_setDoor_12 16 (by decide) ?_
      obtain ⟨σ9, e10, h⟩ := lm_e h
      refine j_last C X dL_setDoor_16 ho3 (v := (1 : Int32)) (by decide) vp01 e10 ?_
      refine j_goto C dL_setDoor_17 24 (by decide) ?_
      refine j_iconst C dL_setDoor_24 ((0 : Int32)) (by decide) ?_
      exact j_ireturn C dL_setDoor_25 (e_i h hg) (by decide) (by decide)
  · by_cases c12 : r1 = "java/lang/IndexOutOfBoundsException"
    · subst c12
      have h := (if_pos rfl).symm.trans h
      refine j_catV C X (c_X5_setDoor n G σ o0 a1 a2 ho0 _ _ h3) dL_setDoor_5 (gV u_443 u_445 u_446 u_211 u_444) rfl hy_X5_setDoor rfl ho0 rfl (ci := 9) rfl rfl rfl (by decide) (Nat.le_of_ble_eq_true rfl) (by decide) [] ⟨0, 17, 20, 21⟩ [] rfl (fun z hz => by cases hz) (by decide) (by decide) (mU u_438) (by decide) (fun q11 => ?_)
      refine j_astore C dL_setDoor_20 (by decide) [(4, .ref q11), (0, .ref (G.2.2 (o0))), (1, .int (a1)), (2, .int (a2)), (3, .ref (G.2.2 (o3)))] rfl ?_
      refine j_iconst C dL_setDoor_22 ((1 : Int32)) (by decide) ?_
      exact j_ireturn C dL_setDoor_23 (e_i h hg) (by decide) (by decide)
    have h := (if_neg c12).symm.trans h
    cases h
def sp_L_airOf (n : Nat) (σ : Mem) (o0 : Nat) (a1 : Int32) (o2 : Nat) : Option (Int32 × Mem) := ((sp_X5_airOf n σ o0 a1).bind fun q => match q with | (.inl r1, σ2) => (lm (wi σ2 o2 ((0 : Int32)).toNatClampNeg r1) fun σ5 => some ((0 : Int32), σ5)) | (.inr E, σ2) => (if E = "java/lang/IndexOutOfBoundsException" then some ((1 : Int32), σ2) else none))
abbrev rm_L_airOf : Room := ({ frames := 13, cells := 1, slots := 6, locals := 263 } : Room)
abbrev wu_L_airOf : List Cond := (Cond.codeWith yL_airOf cL_airOf 4 (some .int) [(0, 9, 12, 21)]) :: wsU
theorem hy_L_airOf : hyOk yL_airOf 3 := by decide +kernel
set_option maxRecDepth 20000 in
set_option maxHeartbeats 4000000 in
theorem c_L_airOf (n : Nat) (G : Gt) (σ : Mem) (o0 : Nat) (a1 : Int32) (o2 : Nat) (ho0 : Ok o0 5) (ho2 : Ok o2 12) (r : Int32) (σ' : Mem) (h : sp_L_airOf n σ o0 a1 o2 = some (r, σ')) : MM yL_airOf wu_L_airOf rm_L_airOf [.ref (G.2.2 (o0)), .int (a1), .ref (G.2.2 (o2))] G σ (.inl (some (.int r))) σ' := by
  refine mm_ofW (cc := cL_airOf) (maxL := 4) (ret := (some .int)) (by decide +kernel) rfl (Nat.le_of_ble_eq_true rfl) (fun x C X hg => ?_)
  have C : Cx x cL_airOf 4 RL (some .int) (tableOf [(0, 9, 12, 21)]) wu_L_airOf rm_L_airOf G.1 (tysF G) := C
  unfold sp_L_airOf at h
  show J x [(0, .ref (G.2.2 (o0))), (1, .int (a1)), (2, .ref (G.2.2 (o2)))] [] σ 0 0 0
  refine j_aload_n C dL_airOf_0 2 rfl ?_
  refine j_iconst C dL_airOf_1 ((0 : Int32)) (by decide) ?_
  refine j_aload_n C dL_airOf_2 0 rfl ?_
  refine j_iload_n C dL_airOf_3 1 rfl ?_
  obtain ⟨⟨r1, σ2⟩, h3, h⟩ := ob h
  try dsimp only at h
  rcases r1 with r1 | r1 <;> (try dsimp only at h)
  · refine j_callV C X (c_X5_airOf n G σ o0 a1 ho0 _ _ h3) dL_airOf_4 (gV u_447 u_449 u_450 u_211 u_448) rfl hy_X5_airOf rfl ho0 rfl (ci := 9) rfl rfl rfl (by decide) (Nat.le_of_ble_eq_true rfl) (by decide) ?_
    refine j_i2l C dL_airOf_7 ?_
    obtain ⟨σ5, e6, h⟩ := lm_e h
    refine j_last C X dL_airOf_8 ho2 (v := r1) rfl vp01 e6 ?_
    refine j_goto C dL_airOf_9 15 (by decide) ?_
    refine j_iconst C dL_airOf_15 ((0 : Int32)) (by decide) ?_
    exact j_ireturn C dL_airOf_16 (e_i h hg) (by decide) (by decide)
  · by_cases c8 : r1 = "java/lang/IndexOutOfBoundsException"
    · subst c8
      have h := (if_pos rfl).symm.trans h
      refine j_catV C X (c_X5_airOf n G σ o0 a1 ho0 _ _ h3) dL_airOf_4 (gV u_447 u_449 u_450 u_211 u_448) rfl hy_X5_airOf rfl ho0 rfl (ci := 9) rfl rfl rfl (by decide) (Nat.le_of_ble_eq_true rfl) (by decide) [] ⟨0, 9, 12, 21⟩ [] rfl (fun z hz => by cases hz) (by decide) (by decide) (mU u_438) (by decide) (fun q7 => ?_)
      refine j_astore_n C dL_airOf_12 (by decide) [(3, .ref q7), (0, .ref (G.2.2 (o0))), (1, .int (a1)), (2, .ref (G.2.2 (o2)))] rfl ?_
      refine j_iconst C dL_airOf_13 ((1 : Int32)) (by decide) ?_
      exact j_ireturn C dL_airOf_14 (e_i h hg) (by decide) (by decide)
    have h := (if_neg c8).symm.trans h
    cases h
def sp_L_airByPaths (n : Nat) (σ : Mem) (o0 : Nat) (a1 : Int32) (o2 : Nat) : Option (Int32 × Mem) := ((sp_X5_airByPaths n σ o0 a1).bind fun q => match q with | (.inl r1, σ2) => (lm (wi σ2 o2 ((0 : Int32)).toNatClampNeg r1) fun σ5 => some ((0 : Int32), σ5)) | (.inr E, σ2) => (if E = "java/lang/IndexOutOfBoundsException" then some ((1 : Int32), σ2) else none))
abbrev rm_L_airByPaths : Room := ({ frames := 14, cells := 1, slots := 6, locals := 292 } : Room)
abbrev wu_L_airByPaths : List Cond := (Cond.codeWith yL_airByPaths cL_airByPaths 4 (some .int) [(0, 9, 12, 21)]) :: wsU
theorem hy_L_airByPaths : hyOk yL_airByPaths 3 := by decide +kernel
set_option maxRecDepth 20000 in
set_option maxHeartbeats 4000000 in
theorem c_L_airByPaths (n : Nat) (G : Gt) (σ : Mem) (o0 : Nat) (a1 : Int32) (o2 : Nat) (ho0 : Ok o0 5) (ho2 : Ok o2 12) (r : Int32) (σ' : Mem) (h : sp_L_airByPaths n σ o0 a1 o2 = some (r, σ')) : MM yL_airByPaths wu_L_airByPaths rm_L_airByPaths [.ref (G.2.2 (o0)), .int (a1), .ref (G.2.2 (o2))] G σ (.inl (some (.int r))) σ' := by
  refine mm_ofW (cc := cL_airByPaths) (maxL := 4) (ret := (some .int)) (by decide +kernel) rfl (Nat.le_of_ble_eq_true rfl) (fun x C X hg => ?_)
  have C : Cx x cL_airByPaths 4 RL (some .int) (tableOf [(0, 9, 12, 21)]) wu_L_airByPaths rm_L_airByPaths G.1 (tysF G) := C
  unfold sp_L_airByPaths at h
  show J x [(0, .ref (G.2.2 (o0))), (1, .int (a1)), (2, .ref (G.2.2 (o2)))] [] σ 0 0 0
  refine j_aload_n C dL_airByPaths_0 2 rfl ?_
  refine j_iconst C dL_airByPaths_1 ((0 : Int32)) (by decide) ?_
  refine j_aload_n C dL_airByPaths_2 0 rfl ?_
  refine j_iload_n C dL_airByPaths_3 1 rfl ?_
  obtain ⟨⟨r1, σ2⟩, h3, h⟩ := ob h
  try dsimp only at h
  rcases r1 with r1 | r1 <;> (try dsimp only at h)
  · refine j_callV C X (c_X5_airByPaths n G σ o0 a1 ho0 _ _ h3) dL_airByPaths_4 (gV u_451 u_453 u_454 u_211 u_452) rfl hy_X5_airByPaths rfl ho0 rfl (ci := 9) rfl rfl rfl (by decide) (Nat.le_of_ble_eq_true rfl) (by decide) ?_
    refine j_i2l C dL_airByPaths_7 ?_
    obtain ⟨σ5, e6, h⟩ := lm_e h
    refine j_last C X dL_airByPaths_8 ho2 (v := r1) rfl vp01 e6 ?_
    refine j_goto C dL_airByPaths_9 15 (by decide) ?_
    refine j_iconst C dL_airByPaths_15 ((0 : Int32)) (by decide) ?_
    exact j_ireturn C dL_airByPaths_16 (e_i h hg) (by decide) (by decide)
  · by_cases c8 : r1 = "java/lang/IndexOutOfBoundsException"
    · subst c8
      have h := (if_pos rfl).symm.trans h
      refine j_catV C X (c_X5_airByPaths n G σ o0 a1 ho0 _ _ h3) dL_airByPaths_4 (gV u_451 u_453 u_454 u_211 u_452) rfl hy_X5_airByPaths rfl ho0 rfl (ci := 9) rfl rfl rfl (by decide) (Nat.le_of_ble_eq_true rfl) (by decide) [] ⟨0, 9, 12, 21⟩ [] rfl (fun z hz => by cases hz) (by decide) (by decide) (mU u_438) (by decide) (fun q7 => ?_)
      refine j_astore_n C dL_airByPaths_12 (by decide) [(3, .ref q7), (0, .ref (G.2.2 (o0))), (1, .int (a1)), (2, .ref (G.2.2 (o2)))] rfl ?_
      refine j_iconst C dL_airByPaths_13 ((1 : Int32)) (by decide) ?_
      exact j_ireturn C dL_airByPaths_14 (e_i h hg) (by decide) (by decide)
    have h := (if_neg c8).symm.trans h
    cases h
def sp_L_setLimit (n : Nat) (σ : Mem) (o0 : Nat) (a1 : Int32) (o2 : Nat) : Option (Int32 × Mem) := ((sp_X5_setLimit n σ o0 a1).bind fun q => match q with | (.inl r1, σ2) => (lm (wi σ2 o2 ((0 : Int32)).toNatClampNeg r1) fun σ5 => some ((0 : Int32), σ5)) | (.inr E, σ2) => (if E = "java/lang/IllegalArgumentException" then some ((1 : Int32), σ2) else none))
abbrev rm_L_setLimit : Room := ({ frames := 12, cells := 1, slots := 6, locals := 244 } : Room)
abbrev wu_L_setLimit : List Cond := (Cond.codeWith yL_setLimit cL_setLimit 4 (some .int) [(0, 9, 12, 13)]) :: wsU
theorem hy_L_setLimit : hyOk yL_setLimit 3 := by decide +kernel
set_option maxRecDepth 20000 in
set_option maxHeartbeats 4000000 in
theorem c_L_setLimit (n : Nat) (G : Gt) (σ : Mem) (o0 : Nat) (a1 : Int32) (o2 : Nat) (ho0 : Ok o0 5) (ho2 : Ok o2 12) (r : Int32) (σ' : Mem) (h : sp_L_setLimit n σ o0 a1 o2 = some (r, σ')) : MM yL_setLimit wu_L_setLimit rm_L_setLimit [.ref (G.2.2 (o0)), .int (a1), .ref (G.2.2 (o2))] G σ (.inl (some (.int r))) σ' := by
  refine mm_ofW (cc := cL_setLimit) (maxL := 4) (ret := (some .int)) (by decide +kernel) rfl (Nat.le_of_ble_eq_true rfl) (fun x C X hg => ?_)
  have C : Cx x cL_setLimit 4 RL (some .int) (tableOf [(0, 9, 12, 13)]) wu_L_setLimit rm_L_setLimit G.1 (tysF G) := C
  unfold sp_L_setLimit at h
  show J x [(0, .ref (G.2.2 (o0))), (1, .int (a1)), (2, .ref (G.2.2 (o2)))] [] σ 0 0 0
  refine j_aload_n C dL_setLimit_0 2 rfl ?_
  refine j_iconst C dL_setLimit_1 ((0 : Int32)) (by decide) ?_
  refine j_aload_n C dL_setLimit_2 0 rfl ?_
  refine j_iload_n C dL_setLimit_3 1 rfl ?_
  obtain ⟨⟨r1, σ2⟩, h3, h⟩ := ob h
  try dsimp only at h
  rcases r1 with r1 | r1 <;> (try dsimp only at h)
  · refine j_callV C X (c_X5_setLimit n G σ o0 a1 ho0 _ _ h3) dL_setLimit_4 (gV u_455 u_457 u_458 u_211 u_456) rfl hy_X5_setLimit rfl ho0 rfl (ci := 9) rfl rfl rfl (by decide) (Nat.le_of_ble_eq_true rfl) (by decide) ?_
    refine j_i2l C dL_setLimit_7 ?_
    obtain ⟨σ5, e6, h⟩ := lm_e h
    refine j_last C X dL_setLimit_8 ho2 (v := r1) rfl vp01 e6 ?_
    refine j_goto C dL_setLimit_9 15 (by decide) ?_
    refine j_iconst C dL_setLimit_15 ((0 : Int32)) (by decide) ?_
    exact j_ireturn C dL_setLimit_16 (e_i h hg) (by decide) (by decide)
  · by_cases c8 : r1 = "java/lang/IllegalArgumentException"
    · subst c8
      have h := (if_pos rfl).symm.trans h
      refine j_catV C X (c_X5_setLimit n G σ o0 a1 ho0 _ _ h3) dL_setLimit_4 (gV u_455 u_457 u_458 u_211 u_456) rfl hy_X5_setLimit rfl ho0 rfl (ci := 9) rfl rfl rfl (by decide) (Nat.le_of_ble_eq_true rfl) (by decide) [] ⟨0, 9, 12, 13⟩ [] rfl (fun z hz => by cases hz) (by decide) (by decide) (mU u_432) (by decide) (fun q7 => ?_)
      refine j_astore_n C dL_setLimit_12 (by decide) [(3, .ref q7), (0, .ref (G.2.2 (o0))), (1, .int (a1)), (2, .ref (G.2.2 (o2)))] rfl ?_
      refine j_iconst C dL_setLimit_13 ((1 : Int32)) (by decide) ?_
      exact j_ireturn C dL_setLimit_14 (e_i h hg) (by decide) (by decide)
    have h := (if_neg c8).symm.trans h
    cases h
def sp_L_gasOf (n : Nat) (σ : Mem) (o0 : Nat) (a1 : Int32) (o2 : Nat) : Option (Int32 × Mem) := ((sp_X5_gasOf n σ o0 a1).bind fun q => match q with | (.inl r1, σ2) => (lm (wi σ2 o2 ((0 : Int32)).toNatClampNeg r1) fun σ5 => some ((0 : Int32), σ5)) | (.inr E, σ2) => (if E = "java/lang/IndexOutOfBoundsException" then some ((1 : Int32), σ2) else none))
abbrev rm_L_gasOf : Room := ({ frames := 13, cells := 1, slots := 6, locals := 263 } : Room)
abbrev wu_L_gasOf : List Cond := (Cond.codeWith yL_gasOf cL_gasOf 4 (some .int) [(0, 9, 12, 21)]) :: wsU
theorem hy_L_gasOf : hyOk yL_gasOf 3 := by decide +kernel
set_option maxRecDepth 20000 in
set_option maxHeartbeats 4000000 in
theorem c_L_gasOf (n : Nat) (G : Gt) (σ : Mem) (o0 : Nat) (a1 : Int32) (o2 : Nat) (ho0 : Ok o0 5) (ho2 : Ok o2 12) (r : Int32) (σ' : Mem) (h : sp_L_gasOf n σ o0 a1 o2 = some (r, σ')) : MM yL_gasOf wu_L_gasOf rm_L_gasOf [.ref (G.2.2 (o0)), .int (a1), .ref (G.2.2 (o2))] G σ (.inl (some (.int r))) σ' := by
  refine mm_ofW (cc := cL_gasOf) (maxL := 4) (ret := (some .int)) (by decide +kernel) rfl (Nat.le_of_ble_eq_true rfl) (fun x C X hg => ?_)
  have C : Cx x cL_gasOf 4 RL (some .int) (tableOf [(0, 9, 12, 21)]) wu_L_gasOf rm_L_gasOf G.1 (tysF G) := C
  unfold sp_L_gasOf at h
  show J x [(0, .ref (G.2.2 (o0))), (1, .int (a1)), (2, .ref (G.2.2 (o2)))] [] σ 0 0 0
  refine j_aload_n C dL_gasOf_0 2 rfl ?_
  refine j_iconst C dL_gasOf_1 ((0 : Int32)) (by decide) ?_
  refine j_aload_n C dL_gasOf_2 0 rfl ?_
  refine j_iload_n C dL_gasOf_3 1 rfl ?_
  obtain ⟨⟨r1, σ2⟩, h3, h⟩ := ob h
  try dsimp only at h
  rcases r1 with r1 | r1 <;> (try dsimp only at h)
  · refine j_callV C X (c_X5_gasOf n G σ o0 a1 ho0 _ _ h3) dL_gasOf_4 (gV u_459 u_461 u_462 u_211 u_460) rfl hy_X5_gasOf rfl ho0 rfl (ci := 9) rfl rfl rfl (by decide) (Nat.le_of_ble_eq_true rfl) (by decide) ?_
    refine j_i2l C dL_gasOf_7 ?_
    obtain ⟨σ5, e6, h⟩ := lm_e h
    refine j_last C X dL_gasOf_8 ho2 (v := r1) rfl vp01 e6 ?_
    refine j_goto C dL_gasOf_9 15 (by decide) ?_
    refine j_iconst C dL_gasOf_15 ((0 : Int32)) (by decide) ?_
    exact j_ireturn C dL_gasOf_16 (e_i h hg) (by decide) (by decide)
  · by_cases c8 : r1 = "java/lang/IndexOutOfBoundsException"
    · subst c8
      have h := (if_pos rfl).symm.trans h
      refine j_catV C X (c_X5_gasOf n G σ o0 a1 ho0 _ _ h3) dL_gasOf_4 (gV u_459 u_461 u_462 u_211 u_460) rfl hy_X5_gasOf rfl ho0 rfl (ci := 9) rfl rfl rfl (by decide) (Nat.le_of_ble_eq_true rfl) (by decide) [] ⟨0, 9, 12, 21⟩ [] rfl (fun z hz => by cases hz) (by decide) (by decide) (mU u_438) (by decide) (fun q7 => ?_)
      refine j_astore_n C dL_gasOf_12 (by decide) [(3, .ref q7), (0, .ref (G.2.2 (o0))), (1, .int (a1)), (2, .ref (G.2.2 (o2)))] rfl ?_
      refine j_iconst C dL_gasOf_13 ((1 : Int32)) (by decide) ?_
      exact j_ireturn C dL_gasOf_14 (e_i h hg) (by decide) (by decide)
    have h := (if_neg c8).symm.trans h
    cases h
def sp_L_gasShare (n : Nat) (σ : Mem) (o0 : Nat) (a1 : Int32) (o2 : Nat) : Option (Int32 × Mem) := ((sp_X5_gasShare n σ o0 a1).bind fun q => match q with | (.inl r1, σ2) => (lm (wi σ2 o2 ((0 : Int32)).toNatClampNeg r1) fun σ5 => some ((0 : Int32), σ5)) | (.inr E, σ2) => (if E = "java/lang/IndexOutOfBoundsException" then some ((1 : Int32), σ2) else none))
abbrev rm_L_gasShare : Room := ({ frames := 13, cells := 1, slots := 6, locals := 263 } : Room)
abbrev wu_L_gasShare : List Cond := (Cond.codeWith yL_gasShare cL_gasShare 4 (some .int) [(0, 9, 12, 21)]) :: wsU
theorem hy_L_gasShare : hyOk yL_gasShare 3 := by decide +kernel
set_option maxRecDepth 20000 in
set_option maxHeartbeats 4000000 in
theorem c_L_gasShare (n : Nat) (G : Gt) (σ : Mem) (o0 : Nat) (a1 : Int32) (o2 : Nat) (ho0 : Ok o0 5) (ho2 : Ok o2 12) (r : Int32) (σ' : Mem) (h : sp_L_gasShare n σ o0 a1 o2 = some (r, σ')) : MM yL_gasShare wu_L_gasShare rm_L_gasShare [.ref (G.2.2 (o0)), .int (a1), .ref (G.2.2 (o2))] G σ (.inl (some (.int r))) σ' := by
  refine mm_ofW (cc := cL_gasShare) (maxL := 4) (ret := (some .int)) (by decide +kernel) rfl (Nat.le_of_ble_eq_true rfl) (fun x C X hg => ?_)
  have C : Cx x cL_gasShare 4 RL (some .int) (tableOf [(0, 9, 12, 21)]) wu_L_gasShare rm_L_gasShare G.1 (tysF G) := C
  unfold sp_L_gasShare at h
  show J x [(0, .ref (G.2.2 (o0))), (1, .int (a1)), (2, .ref (G.2.2 (o2)))] [] σ 0 0 0
  refine j_aload_n C dL_gasShare_0 2 rfl ?_
  refine j_iconst C dL_gasShare_1 ((0 : Int32)) (by decide) ?_
  refine j_aload_n C dL_gasShare_2 0 rfl ?_
  refine j_iload_n C dL_gasShare_3 1 rfl ?_
  obtain ⟨⟨r1, σ2⟩, h3, h⟩ := ob h
  try dsimp only at h
  rcases r1 with r1 | r1 <;> (try dsimp only at h)
  · refine j_callV C X (c_X5_gasShare n G σ o0 a1 ho0 _ _ h3) dL_gasShare_4 (gV u_463 u_465 u_466 u_211 u_464) rfl hy_X5_gasShare rfl ho0 rfl (ci := 9) rfl rfl rfl (by decide) (Nat.le_of_ble_eq_true rfl) (by decide) ?_
    refine j_i2l C dL_gasShare_7 ?_
    obtain ⟨σ5, e6, h⟩ := lm_e h
    refine j_last C X dL_gasShare_8 ho2 (v := r1) rfl vp01 e6 ?_
    refine j_goto C dL_gasShare_9 15 (by decide) ?_
    refine j_iconst C dL_gasShare_15 ((0 : Int32)) (by decide) ?_
    exact j_ireturn C dL_gasShare_16 (e_i h hg) (by decide) (by decide)
  · by_cases c8 : r1 = "java/lang/IndexOutOfBoundsException"
    · subst c8
      have h := (if_pos rfl).symm.trans h
      refine j_catV C X (c_X5_gasShare n G σ o0 a1 ho0 _ _ h3) dL_gasShare_4 (gV u_463 u_465 u_466 u_211 u_464) rfl hy_X5_gasShare rfl ho0 rfl (ci := 9) rfl rfl rfl (by decide) (Nat.le_of_ble_eq_true rfl) (by decide) [] ⟨0, 9, 12, 21⟩ [] rfl (fun z hz => by cases hz) (by decide) (by decide) (mU u_438) (by decide) (fun q7 => ?_)
      refine j_astore_n C dL_gasShare_12 (by decide) [(3, .ref q7), (0, .ref (G.2.2 (o0))), (1, .int (a1)), (2, .ref (G.2.2 (o2)))] rfl ?_
      refine j_iconst C dL_gasShare_13 ((1 : Int32)) (by decide) ?_
      exact j_ireturn C dL_gasShare_14 (e_i h hg) (by decide) (by decide)
    have h := (if_neg c8).symm.trans h
    cases h
def sp_L_isAlarm (n : Nat) (σ : Mem) (o0 : Nat) (a1 : Int32) (o2 : Nat) : Option (Int32 × Mem) := ((sp_X5_isAlarm n σ o0 a1).bind fun q => match q with | (.inl r1, σ2) => if r1 = 0 then (lm (wi σ2 o2 ((0 : Int32)).toNatClampNeg (0 : Int32)) fun σ6 => some ((0 : Int32), σ6)) else (lm (wi σ2 o2 ((0 : Int32)).toNatClampNeg (1 : Int32)) fun σ9 => some ((0 : Int32), σ9)) | (.inr E, σ2) => (if E = "java/lang/IndexOutOfBoundsException" then some ((1 : Int32), σ2) else none))
abbrev rm_L_isAlarm : Room := ({ frames := 13, cells := 1, slots := 6, locals := 263 } : Room)
abbrev wu_L_isAlarm : List Cond := (Cond.codeWith yL_isAlarm cL_isAlarm 4 (some .int) [(0, 16, 19, 21)]) :: wsU
theorem hy_L_isAlarm : hyOk yL_isAlarm 3 := by decide +kernel
set_option maxRecDepth 20000 in
set_option maxHeartbeats 4000000 in
theorem c_L_isAlarm (n : Nat) (G : Gt) (σ : Mem) (o0 : Nat) (a1 : Int32) (o2 : Nat) (ho0 : Ok o0 5) (ho2 : Ok o2 12) (r : Int32) (σ' : Mem) (h : sp_L_isAlarm n σ o0 a1 o2 = some (r, σ')) : MM yL_isAlarm wu_L_isAlarm rm_L_isAlarm [.ref (G.2.2 (o0)), .int (a1), .ref (G.2.2 (o2))] G σ (.inl (some (.int r))) σ' := by
  refine mm_ofW (cc := cL_isAlarm) (maxL := 4) (ret := (some .int)) (by decide +kernel) rfl (Nat.le_of_ble_eq_true rfl) (fun x C X hg => ?_)
  have C : Cx x cL_isAlarm 4 RL (some .int) (tableOf [(0, 16, 19, 21)]) wu_L_isAlarm rm_L_isAlarm G.1 (tysF G) := C
  unfold sp_L_isAlarm at h
  show J x [(0, .ref (G.2.2 (o0))), (1, .int (a1)), (2, .ref (G.2.2 (o2)))] [] σ 0 0 0
  refine j_aload_n C dL_isAlarm_0 2 rfl ?_
  refine j_iconst C dL_isAlarm_1 ((0 : Int32)) (by decide) ?_
  refine j_aload_n C dL_isAlarm_2 0 rfl ?_
  refine j_iload_n C dL_isAlarm_3 1 rfl ?_
  obtain ⟨⟨r1, σ2⟩, h3, h⟩ := ob h
  try dsimp only at h
  rcases r1 with r1 | r1 <;> (try dsimp only at h)
  · refine j_callV C X (c_X5_isAlarm n G σ o0 a1 ho0 _ _ h3) dL_isAlarm_4 (gV u_467 u_469 u_470 u_211 u_468) rfl hy_X5_isAlarm rfl ho0 rfl (ci := 9) rfl rfl rfl (by decide) (Nat.le_of_ble_eq_true rfl) (by decide) ?_
    refine j_if_eq C dL_isAlarm_7 14 (by decide) (fun c4 => ?_) (fun c4 => ?_)
    · have h := (if_pos c4).symm.trans h
      refine j_lconst C dL_isAlarm_14 0 (by decide) ?_
      obtain ⟨σ6, e7, h⟩ := lm_e h
      refine j_last C X dL_isAlarm_15 ho2 (v := (0 : Int32)) (by decide) vp01 e7 ?_
      refine j_goto C dL_isAlarm_16 22 (by decide) ?_
      refine j_iconst C dL_isAlarm_22 ((0 : Int32)) (by decide) ?_
      exact j_ireturn C dL_isAlarm_23 (e_i h hg) (by decide) (by decide)
    · have h := (if_neg c4).symm.trans h
      refine j_lconst C dL_isAlarm_10 1 (by decide) ?_
      refine j_goto C dL_isAlarm_11 15 (by decide) ?_
      obtain ⟨σ9, e10, h⟩ := lm_e h
      refine j_last C X dL_isAlarm_15 ho2 (v := (1 : Int32)) (by decide) vp01 e10 ?_
      refine j_goto C dL_isAlarm_16 22 (by decide) ?_
      refine j_iconst C dL_isAlarm_22 ((0 : Int32)) (by decide) ?_
      exact j_ireturn C dL_isAlarm_23 (e_i h hg) (by decide) (by decide)
  · by_cases c12 : r1 = "java/lang/IndexOutOfBoundsException"
    · subst c12
      have h := (if_pos rfl).symm.trans h
      refine j_catV C X (c_X5_isAlarm n G σ o0 a1 ho0 _ _ h3) dL_isAlarm_4 (gV u_467 u_469 u_470 u_211 u_468) rfl hy_X5_isAlarm rfl ho0 rfl (ci := 9) rfl rfl rfl (by decide) (Nat.le_of_ble_eq_true rfl) (by decide) [] ⟨0, 16, 19, 21⟩ [] rfl (fun z hz => by cases hz) (by decide) (by decide) (mU u_438) (by decide) (fun q11 => ?_)
      refine j_astore_n C dL_isAlarm_19 (by decide) [(3, .ref q11), (0, .ref (G.2.2 (o0))), (1, .int (a1)), (2, .ref (G.2.2 (o2)))] rfl ?_
      refine j_iconst C dL_isAlarm_20 ((1 : Int32)) (by decide) ?_
      exact j_ireturn C dL_isAlarm_21 (e_i h hg) (by decide) (by decide)
    have h := (if_neg c12).symm.trans h
    cases h
def sp_L_minutesToAlarm (n : Nat) (σ : Mem) (o0 : Nat) (a1 : Int32) (o2 : Nat) : Option (Int32 × Mem) := ((sp_X5_minutesToAlarm n σ o0 a1).bind fun q => match q with | (.inl r1, σ2) => (lm (wi σ2 o2 ((0 : Int32)).toNatClampNeg r1) fun σ5 => some ((0 : Int32), σ5)) | (.inr E, σ2) => (if E = "java/lang/IndexOutOfBoundsException" then some ((1 : Int32), σ2) else (if E = "java/util/NoSuchElementException" then some ((2 : Int32), σ2) else none)))
abbrev rm_L_minutesToAlarm : Room := ({ frames := 14, cells := 2, slots := 12, locals := 291 } : Room)
abbrev wu_L_minutesToAlarm : List Cond := (Cond.codeWith yL_minutesToAlarm cL_minutesToAlarm 4 (some .int) [(0, 9, 12, 21), (0, 9, 15, 58)]) :: wsU
theorem hy_L_minutesToAlarm : hyOk yL_minutesToAlarm 3 := by decide +kernel
set_option maxRecDepth 20000 in
set_option maxHeartbeats 4000000 in
theorem c_L_minutesToAlarm (n : Nat) (G : Gt) (σ : Mem) (o0 : Nat) (a1 : Int32) (o2 : Nat) (ho0 : Ok o0 5) (ho2 : Ok o2 12) (r : Int32) (σ' : Mem) (h : sp_L_minutesToAlarm n σ o0 a1 o2 = some (r, σ')) : MM yL_minutesToAlarm wu_L_minutesToAlarm rm_L_minutesToAlarm [.ref (G.2.2 (o0)), .int (a1), .ref (G.2.2 (o2))] G σ (.inl (some (.int r))) σ' := by
  refine mm_ofW (cc := cL_minutesToAlarm) (maxL := 4) (ret := (some .int)) (by decide +kernel) rfl (Nat.le_of_ble_eq_true rfl) (fun x C X hg => ?_)
  have C : Cx x cL_minutesToAlarm 4 RL (some .int) (tableOf [(0, 9, 12, 21), (0, 9, 15, 58)]) wu_L_minutesToAlarm rm_L_minutesToAlarm G.1 (tysF G) := C
  unfold sp_L_minutesToAlarm at h
  show J x [(0, .ref (G.2.2 (o0))), (1, .int (a1)), (2, .ref (G.2.2 (o2)))] [] σ 0 0 0
  refine j_aload_n C dL_minutesToAlarm_0 2 rfl ?_
  refine j_iconst C dL_minutesToAlarm_1 ((0 : Int32)) (by decide) ?_
  refine j_aload_n C dL_minutesToAlarm_2 0 rfl ?_
  refine j_iload_n C dL_minutesToAlarm_3 1 rfl ?_
  obtain ⟨⟨r1, σ2⟩, h3, h⟩ := ob h
  try dsimp only at h
  rcases r1 with r1 | r1 <;> (try dsimp only at h)
  · refine j_callV C X (c_X5_minutesToAlarm n G σ o0 a1 ho0 _ _ h3) dL_minutesToAlarm_4 (gV u_471 u_473 u_474 u_211 u_472) rfl hy_X5_minutesToAlarm rfl ho0 rfl (ci := 9) rfl rfl rfl (by decide) (Nat.le_of_ble_eq_true rfl) (by decide) ?_
    refine j_i2l C dL_minutesToAlarm_7 ?_
    obtain ⟨σ5, e6, h⟩ := lm_e h
    refine j_last C X dL_minutesToAlarm_8 ho2 (v := r1) rfl vp01 e6 ?_
    refine j_goto C dL_minutesToAlarm_9 18 (by decide) ?_
    refine j_iconst C dL_minutesToAlarm_18 ((0 : Int32)) (by decide) ?_
    exact j_ireturn C dL_minutesToAlarm_19 (e_i h hg) (by decide) (by decide)
  · by_cases c10 : r1 = "java/lang/IndexOutOfBoundsException"
    · subst c10
      have h := (if_pos rfl).symm.trans h
      refine j_catV C X (c_X5_minutesToAlarm n G σ o0 a1 ho0 _ _ h3) dL_minutesToAlarm_4 (gV u_471 u_473 u_474 u_211 u_472) rfl hy_X5_minutesToAlarm rfl ho0 rfl (ci := 9) rfl rfl rfl (by decide) (Nat.le_of_ble_eq_true rfl) (by decide) [] ⟨0, 9, 12, 21⟩ [⟨0, 9, 15, 58⟩] rfl (fun z hz => by cases hz) (by decide) (by decide) (mU u_438) (by decide) (fun q9 => ?_)
      refine j_astore_n C dL_minutesToAlarm_12 (by decide) [(3, .ref q9), (0, .ref (G.2.2 (o0))), (1, .int (a1)), (2, .ref (G.2.2 (o2)))] rfl ?_
      refine j_iconst C dL_minutesToAlarm_13 ((1 : Int32)) (by decide) ?_
      exact j_ireturn C dL_minutesToAlarm_14 (e_i h hg) (by decide) (by decide)
    have h := (if_neg c10).symm.trans h
    by_cases c8 : r1 = "java/util/NoSuchElementException"
    · subst c8
      have h := (if_pos rfl).symm.trans h
      refine j_catV C X (c_X5_minutesToAlarm n G σ o0 a1 ho0 _ _ h3) dL_minutesToAlarm_4 (gV u_471 u_473 u_474 u_211 u_472) rfl hy_X5_minutesToAlarm rfl ho0 rfl (ci := 9) rfl rfl rfl (by decide) (Nat.le_of_ble_eq_true rfl) (by decide) [⟨0, 9, 12, 21⟩] ⟨0, 9, 15, 58⟩ [] rfl (fun z hz => by rcases List.mem_cons.mp hz with rfl | hz; exact ⟨by decide, "java/lang/IndexOutOfBoundsException", (mU u_438), by decide, by decide⟩; cases hz) (by decide) (by decide) (mU u_475) (by decide) (fun q7 => ?_)
      refine j_astore_n C dL_minutesToAlarm_15 (by decide) [(3, .ref q7), (0, .ref (G.2.2 (o0))), (1, .int (a1)), (2, .ref (G.2.2 (o2)))] rfl ?_
      refine j_iconst C dL_minutesToAlarm_16 ((2 : Int32)) (by decide) ?_
      exact j_ireturn C dL_minutesToAlarm_17 (e_i h hg) (by decide) (by decide)
    have h := (if_neg c8).symm.trans h
    cases h
def sp_L_hire (n : Nat) (σ : Mem) (o0 : Nat) (a1 : Int32) (o2 : Nat) : Option (Int32 × Mem) := ((sp_X5_hire n σ o0 a1).bind fun q => match q with | (.inl r1, σ2) => (lm (wi σ2 o2 ((0 : Int32)).toNatClampNeg r1) fun σ5 => some ((0 : Int32), σ5)) | (.inr E, σ2) => (if E = "java/lang/IllegalArgumentException" then some ((1 : Int32), σ2) else (if E = "java/lang/IllegalStateException" then some ((2 : Int32), σ2) else none)))
abbrev rm_L_hire : Room := ({ frames := 13, cells := 2, slots := 12, locals := 264 } : Room)
abbrev wu_L_hire : List Cond := (Cond.codeWith yL_hire cL_hire 4 (some .int) [(0, 9, 12, 13), (0, 9, 15, 15)]) :: wsU
theorem hy_L_hire : hyOk yL_hire 3 := by decide +kernel
set_option maxRecDepth 20000 in
set_option maxHeartbeats 4000000 in
theorem c_L_hire (n : Nat) (G : Gt) (σ : Mem) (o0 : Nat) (a1 : Int32) (o2 : Nat) (ho0 : Ok o0 5) (ho2 : Ok o2 12) (r : Int32) (σ' : Mem) (h : sp_L_hire n σ o0 a1 o2 = some (r, σ')) : MM yL_hire wu_L_hire rm_L_hire [.ref (G.2.2 (o0)), .int (a1), .ref (G.2.2 (o2))] G σ (.inl (some (.int r))) σ' := by
  refine mm_ofW (cc := cL_hire) (maxL := 4) (ret := (some .int)) (by decide +kernel) rfl (Nat.le_of_ble_eq_true rfl) (fun x C X hg => ?_)
  have C : Cx x cL_hire 4 RL (some .int) (tableOf [(0, 9, 12, 13), (0, 9, 15, 15)]) wu_L_hire rm_L_hire G.1 (tysF G) := C
  unfold sp_L_hire at h
  show J x [(0, .ref (G.2.2 (o0))), (1, .int (a1)), (2, .ref (G.2.2 (o2)))] [] σ 0 0 0
  refine j_aload_n C dL_hire_0 2 rfl ?_
  refine j_iconst C dL_hire_1 ((0 : Int32)) (by decide) ?_
  refine j_aload_n C dL_hire_2 0 rfl ?_
  refine j_iload_n C dL_hire_3 1 rfl ?_
  obtain ⟨⟨r1, σ2⟩, h3, h⟩ := ob h
  try dsimp only at h
  rcases r1 with r1 | r1 <;> (try dsimp only at h)
  · refine j_callV C X (c_X5_hire n G σ o0 a1 ho0 _ _ h3) dL_hire_4 (gV u_476 u_478 u_479 u_211 u_477) rfl hy_X5_hire rfl ho0 rfl (ci := 9) rfl rfl rfl (by decide) (Nat.le_of_ble_eq_true rfl) (by decide) ?_
    refine j_i2l C dL_hire_7 ?_
    obtain ⟨σ5, e6, h⟩ := lm_e h
    refine j_last C X dL_hire_8 ho2 (v := r1) rfl vp01 e6 ?_
    refine j_goto C dL_hire_9 18 (by decide) ?_
    refine j_iconst C dL_hire_18 ((0 : Int32)) (by decide) ?_
    exact j_ireturn C dL_hire_19 (e_i h hg) (by decide) (by decide)
  · by_cases c10 : r1 = "java/lang/IllegalArgumentException"
    · subst c10
      have h := (if_pos rfl).symm.trans h
      refine j_catV C X (c_X5_hire n G σ o0 a1 ho0 _ _ h3) dL_hire_4 (gV u_476 u_478 u_479 u_211 u_477) rfl hy_X5_hire rfl ho0 rfl (ci := 9) rfl rfl rfl (by decide) (Nat.le_of_ble_eq_true rfl) (by decide) [] ⟨0, 9, 12, 13⟩ [⟨0, 9, 15, 15⟩] rfl (fun z hz => by cases hz) (by decide) (by decide) (mU u_432) (by decide) (fun q9 => ?_)
      refine j_astore_n C dL_hire_12 (by decide) [(3, .ref q9), (0, .ref (G.2.2 (o0))), (1, .int (a1)), (2, .ref (G.2.2 (o2)))] rfl ?_
      refine j_iconst C dL_hire_13 ((1 : Int32)) (by decide) ?_
      exact j_ireturn C dL_hire_14 (e_i h hg) (by decide) (by decide)
    have h := (if_neg c10).symm.trans h
    by_cases c8 : r1 = "java/lang/IllegalStateException"
    · subst c8
      have h := (if_pos rfl).symm.trans h
      refine j_catV C X (c_X5_hire n G σ o0 a1 ho0 _ _ h3) dL_hire_4 (gV u_476 u_478 u_479 u_211 u_477) rfl hy_X5_hire rfl ho0 rfl (ci := 9) rfl rfl rfl (by decide) (Nat.le_of_ble_eq_true rfl) (by decide) [⟨0, 9, 12, 13⟩] ⟨0, 9, 15, 15⟩ [] rfl (fun z hz => by rcases List.mem_cons.mp hz with rfl | hz; exact ⟨by decide, "java/lang/IllegalArgumentException", (mU u_432), by decide, by decide⟩; cases hz) (by decide) (by decide) (mU u_433) (by decide) (fun q7 => ?_)
      refine j_astore_n C dL_hire_15 (by decide) [(3, .ref q7), (0, .ref (G.2.2 (o0))), (1, .int (a1)), (2, .ref (G.2.2 (o2)))] rfl ?_
      refine j_iconst C dL_hire_16 ((2 : Int32)) (by decide) ?_
      exact j_ireturn C dL_hire_17 (e_i h hg) (by decide) (by decide)
    have h := (if_neg c8).symm.trans h
    cases h
def sp_L_peopleAt (n : Nat) (σ : Mem) (o0 : Nat) (a1 : Int32) (o2 : Nat) : Option (Int32 × Mem) := ((sp_X5_peopleAt n σ o0 a1).bind fun q => match q with | (.inl r1, σ2) => (lm (wi σ2 o2 ((0 : Int32)).toNatClampNeg r1) fun σ5 => some ((0 : Int32), σ5)) | (.inr E, σ2) => (if E = "java/lang/IndexOutOfBoundsException" then some ((1 : Int32), σ2) else none))
abbrev rm_L_peopleAt : Room := ({ frames := 12, cells := 1, slots := 6, locals := 242 } : Room)
abbrev wu_L_peopleAt : List Cond := (Cond.codeWith yL_peopleAt cL_peopleAt 4 (some .int) [(0, 9, 12, 21)]) :: wsU
theorem hy_L_peopleAt : hyOk yL_peopleAt 3 := by decide +kernel
set_option maxRecDepth 20000 in
set_option maxHeartbeats 4000000 in
theorem c_L_peopleAt (n : Nat) (G : Gt) (σ : Mem) (o0 : Nat) (a1 : Int32) (o2 : Nat) (ho0 : Ok o0 5) (ho2 : Ok o2 12) (r : Int32) (σ' : Mem) (h : sp_L_peopleAt n σ o0 a1 o2 = some (r, σ')) : MM yL_peopleAt wu_L_peopleAt rm_L_peopleAt [.ref (G.2.2 (o0)), .int (a1), .ref (G.2.2 (o2))] G σ (.inl (some (.int r))) σ' := by
  refine mm_ofW (cc := cL_peopleAt) (maxL := 4) (ret := (some .int)) (by decide +kernel) rfl (Nat.le_of_ble_eq_true rfl) (fun x C X hg => ?_)
  have C : Cx x cL_peopleAt 4 RL (some .int) (tableOf [(0, 9, 12, 21)]) wu_L_peopleAt rm_L_peopleAt G.1 (tysF G) := C
  unfold sp_L_peopleAt at h
  show J x [(0, .ref (G.2.2 (o0))), (1, .int (a1)), (2, .ref (G.2.2 (o2)))] [] σ 0 0 0
  refine j_aload_n C dL_peopleAt_0 2 rfl ?_
  refine j_iconst C dL_peopleAt_1 ((0 : Int32)) (by decide) ?_
  refine j_aload_n C dL_peopleAt_2 0 rfl ?_
  refine j_iload_n C dL_peopleAt_3 1 rfl ?_
  obtain ⟨⟨r1, σ2⟩, h3, h⟩ := ob h
  try dsimp only at h
  rcases r1 with r1 | r1 <;> (try dsimp only at h)
  · refine j_callV C X (c_X5_peopleAt n G σ o0 a1 ho0 _ _ h3) dL_peopleAt_4 (gV u_480 u_482 u_483 u_211 u_481) rfl hy_X5_peopleAt rfl ho0 rfl (ci := 9) rfl rfl rfl (by decide) (Nat.le_of_ble_eq_true rfl) (by decide) ?_
    refine j_i2l C dL_peopleAt_7 ?_
    obtain ⟨σ5, e6, h⟩ := lm_e h
    refine j_last C X dL_peopleAt_8 ho2 (v := r1) rfl vp01 e6 ?_
    refine j_goto C dL_peopleAt_9 15 (by decide) ?_
    refine j_iconst C dL_peopleAt_15 ((0 : Int32)) (by decide) ?_
    exact j_ireturn C dL_peopleAt_16 (e_i h hg) (by decide) (by decide)
  · by_cases c8 : r1 = "java/lang/IndexOutOfBoundsException"
    · subst c8
      have h := (if_pos rfl).symm.trans h
      refine j_catV C X (c_X5_peopleAt n G σ o0 a1 ho0 _ _ h3) dL_peopleAt_4 (gV u_480 u_482 u_483 u_211 u_481) rfl hy_X5_peopleAt rfl ho0 rfl (ci := 9) rfl rfl rfl (by decide) (Nat.le_of_ble_eq_true rfl) (by decide) [] ⟨0, 9, 12, 21⟩ [] rfl (fun z hz => by cases hz) (by decide) (by decide) (mU u_438) (by decide) (fun q7 => ?_)
      refine j_astore_n C dL_peopleAt_12 (by decide) [(3, .ref q7), (0, .ref (G.2.2 (o0))), (1, .int (a1)), (2, .ref (G.2.2 (o2)))] rfl ?_
      refine j_iconst C dL_peopleAt_13 ((1 : Int32)) (by decide) ?_
      exact j_ireturn C dL_peopleAt_14 (e_i h hg) (by decide) (by decide)
    have h := (if_neg c8).symm.trans h
    cases h
def sp_L_oreAt (n : Nat) (σ : Mem) (o0 : Nat) (a1 : Int32) (o2 : Nat) : Option (Int32 × Mem) := ((sp_X5_oreAt n σ o0 a1).bind fun q => match q with | (.inl r1, σ2) => (lm (wi σ2 o2 ((0 : Int32)).toNatClampNeg r1) fun σ5 => some ((0 : Int32), σ5)) | (.inr E, σ2) => (if E = "java/lang/IndexOutOfBoundsException" then some ((1 : Int32), σ2) else none))
abbrev rm_L_oreAt : Room := ({ frames := 12, cells := 1, slots := 6, locals := 242 } : Room)
abbrev wu_L_oreAt : List Cond := (Cond.codeWith yL_oreAt cL_oreAt 4 (some .int) [(0, 9, 12, 21)]) :: wsU
theorem hy_L_oreAt : hyOk yL_oreAt 3 := by decide +kernel
set_option maxRecDepth 20000 in
set_option maxHeartbeats 4000000 in
theorem c_L_oreAt (n : Nat) (G : Gt) (σ : Mem) (o0 : Nat) (a1 : Int32) (o2 : Nat) (ho0 : Ok o0 5) (ho2 : Ok o2 12) (r : Int32) (σ' : Mem) (h : sp_L_oreAt n σ o0 a1 o2 = some (r, σ')) : MM yL_oreAt wu_L_oreAt rm_L_oreAt [.ref (G.2.2 (o0)), .int (a1), .ref (G.2.2 (o2))] G σ (.inl (some (.int r))) σ' := by
  refine mm_ofW (cc := cL_oreAt) (maxL := 4) (ret := (some .int)) (by decide +kernel) rfl (Nat.le_of_ble_eq_true rfl) (fun x C X hg => ?_)
  have C : Cx x cL_oreAt 4 RL (some .int) (tableOf [(0, 9, 12, 21)]) wu_L_oreAt rm_L_oreAt G.1 (tysF G) := C
  unfold sp_L_oreAt at h
  show J x [(0, .ref (G.2.2 (o0))), (1, .int (a1)), (2, .ref (G.2.2 (o2)))] [] σ 0 0 0
  refine j_aload_n C dL_oreAt_0 2 rfl ?_
  refine j_iconst C dL_oreAt_1 ((0 : Int32)) (by decide) ?_
  refine j_aload_n C dL_oreAt_2 0 rfl ?_
  refine j_iload_n C dL_oreAt_3 1 rfl ?_
  obtain ⟨⟨r1, σ2⟩, h3, h⟩ := ob h
  try dsimp only at h
  rcases r1 with r1 | r1 <;> (try dsimp only at h)
  · refine j_callV C X (c_X5_oreAt n G σ o0 a1 ho0 _ _ h3) dL_oreAt_4 (gV u_484 u_486 u_487 u_211 u_485) rfl hy_X5_oreAt rfl ho0 rfl (ci := 9) rfl rfl rfl (by decide) (Nat.le_of_ble_eq_true rfl) (by decide) ?_
    refine j_i2l C dL_oreAt_7 ?_
    obtain ⟨σ5, e6, h⟩ := lm_e h
    refine j_last C X dL_oreAt_8 ho2 (v := r1) rfl vp01 e6 ?_
    refine j_goto C dL_oreAt_9 15 (by decide) ?_
    refine j_iconst C dL_oreAt_15 ((0 : Int32)) (by decide) ?_
    exact j_ireturn C dL_oreAt_16 (e_i h hg) (by decide) (by decide)
  · by_cases c8 : r1 = "java/lang/IndexOutOfBoundsException"
    · subst c8
      have h := (if_pos rfl).symm.trans h
      refine j_catV C X (c_X5_oreAt n G σ o0 a1 ho0 _ _ h3) dL_oreAt_4 (gV u_484 u_486 u_487 u_211 u_485) rfl hy_X5_oreAt rfl ho0 rfl (ci := 9) rfl rfl rfl (by decide) (Nat.le_of_ble_eq_true rfl) (by decide) [] ⟨0, 9, 12, 21⟩ [] rfl (fun z hz => by cases hz) (by decide) (by decide) (mU u_438) (by decide) (fun q7 => ?_)
      refine j_astore_n C dL_oreAt_12 (by decide) [(3, .ref q7), (0, .ref (G.2.2 (o0))), (1, .int (a1)), (2, .ref (G.2.2 (o2)))] rfl ?_
      refine j_iconst C dL_oreAt_13 ((1 : Int32)) (by decide) ?_
      exact j_ireturn C dL_oreAt_14 (e_i h hg) (by decide) (by decide)
    have h := (if_neg c8).symm.trans h
    cases h
def sp_L_blast (n : Nat) (σ : Mem) (o0 : Nat) (a1 : Int32) (a2 : Int32) (o3 : Nat) : Option (Int32 × Mem) := ((sp_X5_blast n σ o0 a1 a2).bind fun q => match q with | (.inl r1, σ2) => (lm (wi σ2 o3 ((0 : Int32)).toNatClampNeg r1) fun σ5 => some ((0 : Int32), σ5)) | (.inr E, σ2) => (if E = "java/lang/IndexOutOfBoundsException" then some ((1 : Int32), σ2) else (if E = "java/lang/IllegalArgumentException" then some ((2 : Int32), σ2) else (if E = "java/lang/IllegalStateException" then some ((3 : Int32), σ2) else (if E = "java/lang/UnsupportedOperationException" then some ((4 : Int32), σ2) else none)))))
abbrev rm_L_blast : Room := ({ frames := 13, cells := 3, slots := 18, locals := 265 } : Room)
abbrev wu_L_blast : List Cond := (Cond.codeWith yL_blast cL_blast 5 (some .int) [(0, 10, 13, 21), (0, 10, 17, 13), (0, 10, 21, 15), (0, 10, 25, 73)]) :: wsU
theorem hy_L_blast : hyOk yL_blast 4 := by decide +kernel
set_option maxRecDepth 20000 in
set_option maxHeartbeats 4000000 in
theorem c_L_blast (n : Nat) (G : Gt) (σ : Mem) (o0 : Nat) (a1 : Int32) (a2 : Int32) (o3 : Nat) (ho0 : Ok o0 5) (ho3 : Ok o3 12) (r : Int32) (σ' : Mem) (h : sp_L_blast n σ o0 a1 a2 o3 = some (r, σ')) : MM yL_blast wu_L_blast rm_L_blast [.ref (G.2.2 (o0)), .int (a1), .int (a2), .ref (G.2.2 (o3))] G σ (.inl (some (.int r))) σ' := by
  refine mm_ofW (cc := cL_blast) (maxL := 5) (ret := (some .int)) (by decide +kernel) rfl (Nat.le_of_ble_eq_true rfl) (fun x C X hg => ?_)
  have C : Cx x cL_blast 5 RL (some .int) (tableOf [(0, 10, 13, 21), (0, 10, 17, 13), (0, 10, 21, 15), (0, 10, 25, 73)]) wu_L_blast rm_L_blast G.1 (tysF G) := C
  unfold sp_L_blast at h
  show J x [(0, .ref (G.2.2 (o0))), (1, .int (a1)), (2, .int (a2)), (3, .ref (G.2.2 (o3)))] [] σ 0 0 0
  refine j_aload_n C dL_blast_0 3 rfl ?_
  refine j_iconst C dL_blast_1 ((0 : Int32)) (by decide) ?_
  refine j_aload_n C dL_blast_2 0 rfl ?_
  refine j_iload_n C dL_blast_3 1 rfl ?_
  refine j_iload_n C dL_blast_4 2 rfl ?_
  obtain ⟨⟨r1, σ2⟩, h3, h⟩ := ob h
  try dsimp only at h
  rcases r1 with r1 | r1 <;> (try dsimp only at h)
  · refine j_callV C X (c_X5_blast n G σ o0 a1 a2 ho0 _ _ h3) dL_blast_5 (gV u_488 u_490 u_491 u_211 u_489) rfl hy_X5_blast rfl ho0 rfl (ci := 9) rfl rfl rfl (by decide) (Nat.le_of_ble_eq_true rfl) (by decide) ?_
    refine j_i2l C dL_blast_8 ?_
    obtain ⟨σ5, e6, h⟩ := lm_e h
    refine j_last C X dL_blast_9 ho3 (v := r1) rfl vp01 e6 ?_
    refine j_goto C dL_blast_10 29 (by decide) ?_
    refine j_iconst C dL_blast_29 ((0 : Int32)) (by decide) ?_
    exact j_ireturn C dL_blast_30 (e_i h hg) (by decide) (by decide)
  · by_cases c14 : r1 = "java/lang/IndexOutOfBoundsException"
    · subst c14
      have h := (if_pos rfl).symm.trans h
      refine j_catV C X (c_X5_blast n G σ o0 a1 a2 ho0 _ _ h3) dL_blast_5 (gV u_488 u_490 u_491 u_211 u_489) rfl hy_X5_blast rfl ho0 rfl (ci := 9) rfl rfl rfl (by decide) (Nat.le_of_ble_eq_true rfl) (by decide) [] ⟨0, 10, 13, 21⟩ [⟨0, 10, 17, 13⟩, ⟨0, 10, 21, 15⟩, ⟨0, 10, 25, 73⟩] rfl (fun z hz => by cases hz) (by decide) (by decide) (mU u_438) (by decide) (fun q13 => ?_)
      refine j_astore C dL_blast_13 (by decide) [(4, .ref q13), (0, .ref (G.2.2 (o0))), (1, .int (a1)), (2, .int (a2)), (3, .ref (G.2.2 (o3)))] rfl ?_
      refine j_iconst C dL_blast_15 ((1 : Int32)) (by decide) ?_
      exact j_ireturn C dL_blast_16 (e_i h hg) (by decide) (by decide)
    have h := (if_neg c14).symm.trans h
    by_cases c12 : r1 = "java/lang/IllegalArgumentException"
    · subst c12
      have h := (if_pos rfl).symm.trans h
      refine j_catV C X (c_X5_blast n G σ o0 a1 a2 ho0 _ _ h3) dL_blast_5 (gV u_488 u_490 u_491 u_211 u_489) rfl hy_X5_blast rfl ho0 rfl (ci := 9) rfl rfl rfl (by decide) (Nat.le_of_ble_eq_true rfl) (by decide) [⟨0, 10, 13, 21⟩] ⟨0, 10, 17, 13⟩ [⟨0, 10, 21, 15⟩, ⟨0, 10, 25, 73⟩] rfl (fun z hz => by rcases List.mem_cons.mp hz with rfl | hz; exact ⟨by decide, "java/lang/IndexOutOfBoundsException", (mU u_438), by decide, by decide⟩; cases hz) (by decide) (by decide) (mU u_432) (by decide) (fun q11 => ?_)
      refine j_astore C dL_blast_17 (by decide) [(4, .ref q11), (0, .ref (G.2.2 (o0))), (1, .int (a1)), (2, .int (a2)), (3, .ref (G.2.2 (o3)))] rfl ?_
      refine j_iconst C dL_blast_19 ((2 : Int32)) (by decide) ?_
      exact j_ireturn C dL_blast_20 (e_i h hg) (by decide) (by decide)
    have h := (if_neg c12).symm.trans h
    by_cases c10 : r1 = "java/lang/IllegalStateException"
    · subst c10
      have h := (if_pos rfl).symm.trans h
      refine j_catV C X (c_X5_blast n G σ o0 a1 a2 ho0 _ _ h3) dL_blast_5 (gV u_488 u_490 u_491 u_211 u_489) rfl hy_X5_blast rfl ho0 rfl (ci := 9) rfl rfl rfl (by decide) (Nat.le_of_ble_eq_true rfl) (by decide) [⟨0, 10, 13, 21⟩, ⟨0, 10, 17, 13⟩] ⟨0, 10, 21, 15⟩ [⟨0, 10, 25, 73⟩] rfl (fun z hz => by rcases List.mem_cons.mp hz with rfl | hz; exact ⟨by decide, "java/lang/IndexOutOfBoundsException", (mU u_438), by decide, by decide⟩; rcases List.mem_cons.mp hz with rfl | hz; exact ⟨by decide, "java/lang/IllegalArgumentException", (mU u_432), by decide, by decide⟩; cases hz) (by decide) (by decide) (mU u_433) (by decide) (fun q9 => ?_)
      refine j_astore C dL_blast_21 (by decide) [(4, .ref q9), (0, .ref (G.2.2 (o0))), (1, .int (a1)), (2, .int (a2)), (3, .ref (G.2.2 (o3)))] rfl ?_
      refine j_iconst C dL_blast_23 ((3 : Int32)) (by decide) ?_
      exact j_ireturn C dL_blast_24 (e_i h hg) (by decide) (by decide)
    have h := (if_neg c10).symm.trans h
    by_cases c8 : r1 = "java/lang/UnsupportedOperationException"
    · subst c8
      have h := (if_pos rfl).symm.trans h
      refine j_catV C X (c_X5_blast n G σ o0 a1 a2 ho0 _ _ h3) dL_blast_5 (gV u_488 u_490 u_491 u_211 u_489) rfl hy_X5_blast rfl ho0 rfl (ci := 9) rfl rfl rfl (by decide) (Nat.le_of_ble_eq_true rfl) (by decide) [⟨0, 10, 13, 21⟩, ⟨0, 10, 17, 13⟩, ⟨0, 10, 21, 15⟩] ⟨0, 10, 25, 73⟩ [] rfl (fun z hz => by rcases List.mem_cons.mp hz with rfl | hz; exact ⟨by decide, "java/lang/IndexOutOfBoundsException", (mU u_438), by decide, by decide⟩; rcases List.mem_cons.mp hz with rfl | hz; exact ⟨by decide, "java/lang/IllegalArgumentException", (mU u_432), by decide, by decide⟩; rcases List.mem_cons.mp hz with rfl | hz; exact ⟨by decide, "java/lang/IllegalStateException", (mU u_433), by decide, by decide⟩; cases hz) (by decide) (by decide) (mU u_492) (by decide) (fun q7 => ?_)
      refine j_astore C dL_blast_25 (by decide) [(4, .ref q7), (0, .ref (G.2.2 (o0))), (1, .int (a1)), (2, .int (a2)), (3, .ref (G.2.2 (o3)))] rfl ?_
      refine j_iconst C dL_blast_27 ((4 : Int32)) (by decide) ?_
      exact j_ireturn C dL_blast_28 (e_i h hg) (by decide) (by decide)
    have h := (if_neg c8).symm.trans h
    cases h
def sp_L_isClosed (n : Nat) (σ : Mem) (o0 : Nat) (a1 : Int32) (o2 : Nat) : Option (Int32 × Mem) := ((sp_X5_isClosed n σ o0 a1).bind fun q => match q with | (.inl r1, σ2) => if r1 = 0 then (lm (wi σ2 o2 ((0 : Int32)).toNatClampNeg (0 : Int32)) fun σ6 => some ((0 : Int32), σ6)) else (lm (wi σ2 o2 ((0 : Int32)).toNatClampNeg (1 : Int32)) fun σ9 => some ((0 : Int32), σ9)) | (.inr E, σ2) => (if E = "java/lang/IndexOutOfBoundsException" then some ((1 : Int32), σ2) else none))
abbrev rm_L_isClosed : Room := ({ frames := 13, cells := 1, slots := 6, locals := 263 } : Room)
abbrev wu_L_isClosed : List Cond := (Cond.codeWith yL_isClosed cL_isClosed 4 (some .int) [(0, 16, 19, 21)]) :: wsU
theorem hy_L_isClosed : hyOk yL_isClosed 3 := by decide +kernel
set_option maxRecDepth 20000 in
set_option maxHeartbeats 4000000 in
theorem c_L_isClosed (n : Nat) (G : Gt) (σ : Mem) (o0 : Nat) (a1 : Int32) (o2 : Nat) (ho0 : Ok o0 5) (ho2 : Ok o2 12) (r : Int32) (σ' : Mem) (h : sp_L_isClosed n σ o0 a1 o2 = some (r, σ')) : MM yL_isClosed wu_L_isClosed rm_L_isClosed [.ref (G.2.2 (o0)), .int (a1), .ref (G.2.2 (o2))] G σ (.inl (some (.int r))) σ' := by
  refine mm_ofW (cc := cL_isClosed) (maxL := 4) (ret := (some .int)) (by decide +kernel) rfl (Nat.le_of_ble_eq_true rfl) (fun x C X hg => ?_)
  have C : Cx x cL_isClosed 4 RL (some .int) (tableOf [(0, 16, 19, 21)]) wu_L_isClosed rm_L_isClosed G.1 (tysF G) := C
  unfold sp_L_isClosed at h
  show J x [(0, .ref (G.2.2 (o0))), (1, .int (a1)), (2, .ref (G.2.2 (o2)))] [] σ 0 0 0
  refine j_aload_n C dL_isClosed_0 2 rfl ?_
  refine j_iconst C dL_isClosed_1 ((0 : Int32)) (by decide) ?_
  refine j_aload_n C dL_isClosed_2 0 rfl ?_
  refine j_iload_n C dL_isClosed_3 1 rfl ?_
  obtain ⟨⟨r1, σ2⟩, h3, h⟩ := ob h
  try dsimp only at h
  rcases r1 with r1 | r1 <;> (try dsimp only at h)
  · refine j_callV C X (c_X5_isClosed n G σ o0 a1 ho0 _ _ h3) dL_isClosed_4 (gV u_493 u_495 u_496 u_211 u_494) rfl hy_X5_isClosed rfl ho0 rfl (ci := 9) rfl rfl rfl (by decide) (Nat.le_of_ble_eq_true rfl) (by decide) ?_
    refine j_if_eq C dL_isClosed_7 14 (by decide) (fun c4 => ?_) (fun c4 => ?_)
    · have h := (if_pos c4).symm.trans h
      refine j_lconst C dL_isClosed_14 0 (by decide) ?_
      obtain ⟨σ6, e7, h⟩ := lm_e h
      refine j_last C X dL_isClosed_15 ho2 (v := (0 : Int32)) (by decide) vp01 e7 ?_
      refine j_goto C dL_isClosed_16 22 (by decide) ?_
      refine j_iconst C dL_isClosed_22 ((0 : Int32)) (by decide) ?_
      exact j_ireturn C dL_isClosed_23 (e_i h hg) (by decide) (by decide)
    · have h := (if_neg c4).symm.trans h
      refine j_lconst C dL_isClosed_10 1 (by decide) ?_
      refine j_goto C dL_isClosed_11 15 (by decide) ?_
      obtain ⟨σ9, e10, h⟩ := lm_e h
      refine j_last C X dL_isClosed_15 ho2 (v := (1 : Int32)) (by decide) vp01 e10 ?_
      refine j_goto C dL_isClosed_16 22 (by decide) ?_
      refine j_iconst C dL_isClosed_22 ((0 : Int32)) (by decide) ?_
      exact j_ireturn C dL_isClosed_23 (e_i h hg) (by decide) (by decide)
  · by_cases c12 : r1 = "java/lang/IndexOutOfBoundsException"
    · subst c12
      have h := (if_pos rfl).symm.trans h
      refine j_catV C X (c_X5_isClosed n G σ o0 a1 ho0 _ _ h3) dL_isClosed_4 (gV u_493 u_495 u_496 u_211 u_494) rfl hy_X5_isClosed rfl ho0 rfl (ci := 9) rfl rfl rfl (by decide) (Nat.le_of_ble_eq_true rfl) (by decide) [] ⟨0, 16, 19, 21⟩ [] rfl (fun z hz => by cases hz) (by decide) (by decide) (mU u_438) (by decide) (fun q11 => ?_)
      refine j_astore_n C dL_isClosed_19 (by decide) [(3, .ref q11), (0, .ref (G.2.2 (o0))), (1, .int (a1)), (2, .ref (G.2.2 (o2)))] rfl ?_
      refine j_iconst C dL_isClosed_20 ((1 : Int32)) (by decide) ?_
      exact j_ireturn C dL_isClosed_21 (e_i h hg) (by decide) (by decide)
    have h := (if_neg c12).symm.trans h
    cases h
def sp_L_setSpeed (n : Nat) (σ : Mem) (o0 : Nat) (a1 : Int32) (o2 : Nat) : Option (Int32 × Mem) := ((sp_X5_setSpeed n σ o0 a1).bind fun q => match q with | (.inl r1, σ2) => (lm (wi σ2 o2 ((0 : Int32)).toNatClampNeg r1) fun σ5 => some ((0 : Int32), σ5)) | (.inr E, σ2) => (if E = "java/lang/IllegalArgumentException" then some ((1 : Int32), σ2) else none))
abbrev rm_L_setSpeed : Room := ({ frames := 12, cells := 1, slots := 6, locals := 244 } : Room)
abbrev wu_L_setSpeed : List Cond := (Cond.codeWith yL_setSpeed cL_setSpeed 4 (some .int) [(0, 9, 12, 13)]) :: wsU
theorem hy_L_setSpeed : hyOk yL_setSpeed 3 := by decide +kernel
set_option maxRecDepth 20000 in
set_option maxHeartbeats 4000000 in
theorem c_L_setSpeed (n : Nat) (G : Gt) (σ : Mem) (o0 : Nat) (a1 : Int32) (o2 : Nat) (ho0 : Ok o0 5) (ho2 : Ok o2 12) (r : Int32) (σ' : Mem) (h : sp_L_setSpeed n σ o0 a1 o2 = some (r, σ')) : MM yL_setSpeed wu_L_setSpeed rm_L_setSpeed [.ref (G.2.2 (o0)), .int (a1), .ref (G.2.2 (o2))] G σ (.inl (some (.int r))) σ' := by
  refine mm_ofW (cc := cL_setSpeed) (maxL := 4) (ret := (some .int)) (by decide +kernel) rfl (Nat.le_of_ble_eq_true rfl) (fun x C X hg => ?_)
  have C : Cx x cL_setSpeed 4 RL (some .int) (tableOf [(0, 9, 12, 13)]) wu_L_setSpeed rm_L_setSpeed G.1 (tysF G) := C
  unfold sp_L_setSpeed at h
  show J x [(0, .ref (G.2.2 (o0))), (1, .int (a1)), (2, .ref (G.2.2 (o2)))] [] σ 0 0 0
  refine j_aload_n C dL_setSpeed_0 2 rfl ?_
  refine j_iconst C dL_setSpeed_1 ((0 : Int32)) (by decide) ?_
  refine j_aload_n C dL_setSpeed_2 0 rfl ?_
  refine j_iload_n C dL_setSpeed_3 1 rfl ?_
  obtain ⟨⟨r1, σ2⟩, h3, h⟩ := ob h
  try dsimp only at h
  rcases r1 with r1 | r1 <;> (try dsimp only at h)
  · refine j_callV C X (c_X5_setSpeed n G σ o0 a1 ho0 _ _ h3) dL_setSpeed_4 (gV u_497 u_499 u_500 u_211 u_498) rfl hy_X5_setSpeed rfl ho0 rfl (ci := 9) rfl rfl rfl (by decide) (Nat.le_of_ble_eq_true rfl) (by decide) ?_
    refine j_i2l C dL_setSpeed_7 ?_
    obtain ⟨σ5, e6, h⟩ := lm_e h
    refine j_last C X dL_setSpeed_8 ho2 (v := r1) rfl vp01 e6 ?_
    refine j_goto C dL_setSpeed_9 15 (by decide) ?_
    refine j_iconst C dL_setSpeed_15 ((0 : Int32)) (by decide) ?_
    exact j_ireturn C dL_setSpeed_16 (e_i h hg) (by decide) (by decide)
  · by_cases c8 : r1 = "java/lang/IllegalArgumentException"
    · subst c8
      have h := (if_pos rfl).symm.trans h
      refine j_catV C X (c_X5_setSpeed n G σ o0 a1 ho0 _ _ h3) dL_setSpeed_4 (gV u_497 u_499 u_500 u_211 u_498) rfl hy_X5_setSpeed rfl ho0 rfl (ci := 9) rfl rfl rfl (by decide) (Nat.le_of_ble_eq_true rfl) (by decide) [] ⟨0, 9, 12, 13⟩ [] rfl (fun z hz => by cases hz) (by decide) (by decide) (mU u_432) (by decide) (fun q7 => ?_)
      refine j_astore_n C dL_setSpeed_12 (by decide) [(3, .ref q7), (0, .ref (G.2.2 (o0))), (1, .int (a1)), (2, .ref (G.2.2 (o2)))] rfl ?_
      refine j_iconst C dL_setSpeed_13 ((1 : Int32)) (by decide) ?_
      exact j_ireturn C dL_setSpeed_14 (e_i h hg) (by decide) (by decide)
    have h := (if_neg c8).symm.trans h
    cases h
def sp_L_sendDown (n : Nat) (σ : Mem) (o0 : Nat) (a1 : Int32) (a2 : Int32) (o3 : Nat) : Option (Int32 × Mem) := ((sp_X5_sendDown n σ o0 a1 a2).bind fun q => match q with | (.inl r1, σ2) => (lm (wi σ2 o3 ((0 : Int32)).toNatClampNeg r1) fun σ5 => some ((0 : Int32), σ5)) | (.inr E, σ2) => (if E = "java/lang/IndexOutOfBoundsException" then some ((1 : Int32), σ2) else (if E = "java/lang/IllegalArgumentException" then some ((2 : Int32), σ2) else (if E = "java/lang/UnsupportedOperationException" then some ((3 : Int32), σ2) else (if E = "java/lang/IllegalStateException" then some ((4 : Int32), σ2) else none)))))
abbrev rm_L_sendDown : Room := ({ frames := 14, cells := 3, slots := 18, locals := 295 } : Room)
abbrev wu_L_sendDown : List Cond := (Cond.codeWith yL_sendDown cL_sendDown 5 (some .int) [(0, 10, 13, 21), (0, 10, 17, 13), (0, 10, 21, 73), (0, 10, 25, 15)]) :: wsU
theorem hy_L_sendDown : hyOk yL_sendDown 4 := by decide +kernel
set_option maxRecDepth 20000 in
set_option maxHeartbeats 4000000 in
theorem c_L_sendDown (n : Nat) (G : Gt) (σ : Mem) (o0 : Nat) (a1 : Int32) (a2 : Int32) (o3 : Nat) (ho0 : Ok o0 5) (ho3 : Ok o3 12) (r : Int32) (σ' : Mem) (h : sp_L_sendDown n σ o0 a1 a2 o3 = some (r, σ')) : MM yL_sendDown wu_L_sendDown rm_L_sendDown [.ref (G.2.2 (o0)), .int (a1), .int (a2), .ref (G.2.2 (o3))] G σ (.inl (some (.int r))) σ' := by
  refine mm_ofW (cc := cL_sendDown) (maxL := 5) (ret := (some .int)) (by decide +kernel) rfl (Nat.le_of_ble_eq_true rfl) (fun x C X hg => ?_)
  have C : Cx x cL_sendDown 5 RL (some .int) (tableOf [(0, 10, 13, 21), (0, 10, 17, 13), (0, 10, 21, 73), (0, 10, 25, 15)]) wu_L_sendDown rm_L_sendDown G.1 (tysF G) := C
  unfold sp_L_sendDown at h
  show J x [(0, .ref (G.2.2 (o0))), (1, .int (a1)), (2, .int (a2)), (3, .ref (G.2.2 (o3)))] [] σ 0 0 0
  refine j_aload_n C dL_sendDown_0 3 rfl ?_
  refine j_iconst C dL_sendDown_1 ((0 : Int32)) (by decide) ?_
  refine j_aload_n C dL_sendDown_2 0 rfl ?_
  refine j_iload_n C dL_sendDown_3 1 rfl ?_
  refine j_iload_n C dL_sendDown_4 2 rfl ?_
  obtain ⟨⟨r1, σ2⟩, h3, h⟩ := ob h
  try dsimp only at h
  rcases r1 with r1 | r1 <;> (try dsimp only at h)
  · refine j_callV C X (c_X5_sendDown n G σ o0 a1 a2 ho0 _ _ h3) dL_sendDown_5 (gV u_501 u_503 u_504 u_211 u_502) rfl hy_X5_sendDown rfl ho0 rfl (ci := 9) rfl rfl rfl (by decide) (Nat.le_of_ble_eq_true rfl) (by decide) ?_
    refine j_i2l C dL_sendDown_8 ?_
    obtain ⟨σ5, e6, h⟩ := lm_e h
    refine j_last C X dL_sendDown_9 ho3 (v := r1) rfl vp01 e6 ?_
    refine j_goto C dL_sendDown_10 29 (by decide) ?_
    refine j_iconst C dL_sendDown_29 ((0 : Int32)) (by decide) ?_
    exact j_ireturn C dL_sendDown_30 (e_i h hg) (by decide) (by decide)
  · by_cases c14 : r1 = "java/lang/IndexOutOfBoundsException"
    · subst c14
      have h := (if_pos rfl).symm.trans h
      refine j_catV C X (c_X5_sendDown n G σ o0 a1 a2 ho0 _ _ h3) dL_sendDown_5 (gV u_501 u_503 u_504 u_211 u_502) rfl hy_X5_sendDown rfl ho0 rfl (ci := 9) rfl rfl rfl (by decide) (Nat.le_of_ble_eq_true rfl) (by decide) [] ⟨0, 10, 13, 21⟩ [⟨0, 10, 17, 13⟩, ⟨0, 10, 21, 73⟩, ⟨0, 10, 25, 15⟩] rfl (fun z hz => by cases hz) (by decide) (by decide) (mU u_438) (by decide) (fun q13 => ?_)
      refine j_astore C dL_sendDown_13 (by decide) [(4, .ref q13), (0, .ref (G.2.2 (o0))), (1, .int (a1)), (2, .int (a2)), (3, .ref (G.2.2 (o3)))] rfl ?_
      refine j_iconst C dL_sendDown_15 ((1 : Int32)) (by decide) ?_
      exact j_ireturn C dL_sendDown_16 (e_i h hg) (by decide) (by decide)
    have h := (if_neg c14).symm.trans h
    by_cases c12 : r1 = "java/lang/IllegalArgumentException"
    · subst c12
      have h := (if_pos rfl).symm.trans h
      refine j_catV C X (c_X5_sendDown n G σ o0 a1 a2 ho0 _ _ h3) dL_sendDown_5 (gV u_501 u_503 u_504 u_211 u_502) rfl hy_X5_sendDown rfl ho0 rfl (ci := 9) rfl rfl rfl (by decide) (Nat.le_of_ble_eq_true rfl) (by decide) [⟨0, 10, 13, 21⟩] ⟨0, 10, 17, 13⟩ [⟨0, 10, 21, 73⟩, ⟨0, 10, 25, 15⟩] rfl (fun z hz => by rcases List.mem_cons.mp hz with rfl | hz; exact ⟨by decide, "java/lang/IndexOutOfBoundsException", (mU u_438), by decide, by decide⟩; cases hz) (by decide) (by decide) (mU u_432) (by decide) (fun q11 => ?_)
      refine j_astore C dL_sendDown_17 (by decide) [(4, .ref q11), (0, .ref (G.2.2 (o0))), (1, .int (a1)), (2, .int (a2)), (3, .ref (G.2.2 (o3)))] rfl ?_
      refine j_iconst C dL_sendDown_19 ((2 : Int32)) (by decide) ?_
      exact j_ireturn C dL_sendDown_20 (e_i h hg) (by decide) (by decide)
    have h := (if_neg c12).symm.trans h
    by_cases c10 : r1 = "java/lang/UnsupportedOperationException"
    · subst c10
      have h := (if_pos rfl).symm.trans h
      refine j_catV C X (c_X5_sendDown n G σ o0 a1 a2 ho0 _ _ h3) dL_sendDown_5 (gV u_501 u_503 u_504 u_211 u_502) rfl hy_X5_sendDown rfl ho0 rfl (ci := 9) rfl rfl rfl (by decide) (Nat.le_of_ble_eq_true rfl) (by decide) [⟨0, 10, 13, 21⟩, ⟨0, 10, 17, 13⟩] ⟨0, 10, 21, 73⟩ [⟨0, 10, 25, 15⟩] rfl (fun z hz => by rcases List.mem_cons.mp hz with rfl | hz; exact ⟨by decide, "java/lang/IndexOutOfBoundsException", (mU u_438), by decide, by decide⟩; rcases List.mem_cons.mp hz with rfl | hz; exact ⟨by decide, "java/lang/IllegalArgumentException", (mU u_432), by decide, by decide⟩; cases hz) (by decide) (by decide) (mU u_492) (by decide) (fun q9 => ?_)
      refine j_astore C dL_sendDown_21 (by decide) [(4, .ref q9), (0, .ref (G.2.2 (o0))), (1, .int (a1)), (2, .int (a2)), (3, .ref (G.2.2 (o3)))] rfl ?_
      refine j_iconst C dL_sendDown_23 ((3 : Int32)) (by decide) ?_
      exact j_ireturn C dL_sendDown_24 (e_i h hg) (by decide) (by decide)
    have h := (if_neg c10).symm.trans h
    by_cases c8 : r1 = "java/lang/IllegalStateException"
    · subst c8
      have h := (if_pos rfl).symm.trans h
      refine j_catV C X (c_X5_sendDown n G σ o0 a1 a2 ho0 _ _ h3) dL_sendDown_5 (gV u_501 u_503 u_504 u_211 u_502) rfl hy_X5_sendDown rfl ho0 rfl (ci := 9) rfl rfl rfl (by decide) (Nat.le_of_ble_eq_true rfl) (by decide) [⟨0, 10, 13, 21⟩, ⟨0, 10, 17, 13⟩, ⟨0, 10, 21, 73⟩] ⟨0, 10, 25, 15⟩ [] rfl (fun z hz => by rcases List.mem_cons.mp hz with rfl | hz; exact ⟨by decide, "java/lang/IndexOutOfBoundsException", (mU u_438), by decide, by decide⟩; rcases List.mem_cons.mp hz with rfl | hz; exact ⟨by decide, "java/lang/IllegalArgumentException", (mU u_432), by decide, by decide⟩; rcases List.mem_cons.mp hz with rfl | hz; exact ⟨by decide, "java/lang/UnsupportedOperationException", (mU u_492), by decide, by decide⟩; cases hz) (by decide) (by decide) (mU u_433) (by decide) (fun q7 => ?_)
      refine j_astore C dL_sendDown_25 (by decide) [(4, .ref q7), (0, .ref (G.2.2 (o0))), (1, .int (a1)), (2, .int (a2)), (3, .ref (G.2.2 (o3)))] rfl ?_
      refine j_iconst C dL_sendDown_27 ((4 : Int32)) (by decide) ?_
      exact j_ireturn C dL_sendDown_28 (e_i h hg) (by decide) (by decide)
    have h := (if_neg c8).symm.trans h
    cases h
def sp_L_callUp (n : Nat) (σ : Mem) (o0 : Nat) (a1 : Int32) (a2 : Int32) (o3 : Nat) : Option (Int32 × Mem) := ((sp_X5_callUp n σ o0 a1 a2).bind fun q => match q with | (.inl r1, σ2) => (lm (wi σ2 o3 ((0 : Int32)).toNatClampNeg r1) fun σ5 => some ((0 : Int32), σ5)) | (.inr E, σ2) => (if E = "java/lang/IndexOutOfBoundsException" then some ((1 : Int32), σ2) else (if E = "java/lang/IllegalArgumentException" then some ((2 : Int32), σ2) else (if E = "java/lang/IllegalStateException" then some ((3 : Int32), σ2) else none))))
abbrev rm_L_callUp : Room := ({ frames := 14, cells := 3, slots := 18, locals := 294 } : Room)
abbrev wu_L_callUp : List Cond := (Cond.codeWith yL_callUp cL_callUp 5 (some .int) [(0, 10, 13, 21), (0, 10, 17, 13), (0, 10, 21, 15)]) :: wsU
theorem hy_L_callUp : hyOk yL_callUp 4 := by decide +kernel
set_option maxRecDepth 20000 in
set_option maxHeartbeats 4000000 in
theorem c_L_callUp (n : Nat) (G : Gt) (σ : Mem) (o0 : Nat) (a1 : Int32) (a2 : Int32) (o3 : Nat) (ho0 : Ok o0 5) (ho3 : Ok o3 12) (r : Int32) (σ' : Mem) (h : sp_L_callUp n σ o0 a1 a2 o3 = some (r, σ')) : MM yL_callUp wu_L_callUp rm_L_callUp [.ref (G.2.2 (o0)), .int (a1), .int (a2), .ref (G.2.2 (o3))] G σ (.inl (some (.int r))) σ' := by
  refine mm_ofW (cc := cL_callUp) (maxL := 5) (ret := (some .int)) (by decide +kernel) rfl (Nat.le_of_ble_eq_true rfl) (fun x C X hg => ?_)
  have C : Cx x cL_callUp 5 RL (some .int) (tableOf [(0, 10, 13, 21), (0, 10, 17, 13), (0, 10, 21, 15)]) wu_L_callUp rm_L_callUp G.1 (tysF G) := C
  unfold sp_L_callUp at h
  show J x [(0, .ref (G.2.2 (o0))), (1, .int (a1)), (2, .int (a2)), (3, .ref (G.2.2 (o3)))] [] σ 0 0 0
  refine j_aload_n C dL_callUp_0 3 rfl ?_
  refine j_iconst C dL_callUp_1 ((0 : Int32)) (by decide) ?_
  refine j_aload_n C dL_callUp_2 0 rfl ?_
  refine j_iload_n C dL_callUp_3 1 rfl ?_
  refine j_iload_n C dL_callUp_4 2 rfl ?_
  obtain ⟨⟨r1, σ2⟩, h3, h⟩ := ob h
  try dsimp only at h
  rcases r1 with r1 | r1 <;> (try dsimp only at h)
  · refine j_callV C X (c_X5_callUp n G σ o0 a1 a2 ho0 _ _ h3) dL_callUp_5 (gV u_505 u_507 u_508 u_211 u_506) rfl hy_X5_callUp rfl ho0 rfl (ci := 9) rfl rfl rfl (by decide) (Nat.le_of_ble_eq_true rfl) (by decide) ?_
    refine j_i2l C dL_callUp_8 ?_
    obtain ⟨σ5, e6, h⟩ := lm_e h
    refine j_last C X dL_callUp_9 ho3 (v := r1) rfl vp01 e6 ?_
    refine j_goto C dL_callUp_10 25 (by decide) ?_
    refine j_iconst C dL_callUp_25 ((0 : Int32)) (by decide) ?_
    exact j_ireturn C dL_callUp_26 (e_i h hg) (by decide) (by decide)
  · by_cases c12 : r1 = "java/lang/IndexOutOfBoundsException"
    · subst c12
      have h := (if_pos rfl).symm.trans h
      refine j_catV C X (c_X5_callUp n G σ o0 a1 a2 ho0 _ _ h3) dL_callUp_5 (gV u_505 u_507 u_508 u_211 u_506) rfl hy_X5_callUp rfl ho0 rfl (ci := 9) rfl rfl rfl (by decide) (Nat.le_of_ble_eq_true rfl) (by decide) [] ⟨0, 10, 13, 21⟩ [⟨0, 10, 17, 13⟩, ⟨0, 10, 21, 15⟩] rfl (fun z hz => by cases hz) (by decide) (by decide) (mU u_438) (by decide) (fun q11 => ?_)
      refine j_astore C dL_callUp_13 (by decide) [(4, .ref q11), (0, .ref (G.2.2 (o0))), (1, .int (a1)), (2, .int (a2)), (3, .ref (G.2.2 (o3)))] rfl ?_
      refine j_iconst C dL_callUp_15 ((1 : Int32)) (by decide) ?_
      exact j_ireturn C dL_callUp_16 (e_i h hg) (by decide) (by decide)
    have h := (if_neg c12).symm.trans h
    by_cases c10 : r1 = "java/lang/IllegalArgumentException"
    · subst c10
      have h := (if_pos rfl).symm.trans h
      refine j_catV C X (c_X5_callUp n G σ o0 a1 a2 ho0 _ _ h3) dL_callUp_5 (gV u_505 u_507 u_508 u_211 u_506) rfl hy_X5_callUp rfl ho0 rfl (ci := 9) rfl rfl rfl (by decide) (Nat.le_of_ble_eq_true rfl) (by decide) [⟨0, 10, 13, 21⟩] ⟨0, 10, 17, 13⟩ [⟨0, 10, 21, 15⟩] rfl (fun z hz => by rcases List.mem_cons.mp hz with rfl | hz; exact ⟨by decide, "java/lang/IndexOutOfBoundsException", (mU u_438), by decide, by decide⟩; cases hz) (by decide) (by decide) (mU u_432) (by decide) (fun q9 => ?_)
      refine j_astore C dL_callUp_17 (by decide) [(4, .ref q9), (0, .ref (G.2.2 (o0))), (1, .int (a1)), (2, .int (a2)), (3, .ref (G.2.2 (o3)))] rfl ?_
      refine j_iconst C dL_callUp_19 ((2 : Int32)) (by decide) ?_
      exact j_ireturn C dL_callUp_20 (e_i h hg) (by decide) (by decide)
    have h := (if_neg c10).symm.trans h
    by_cases c8 : r1 = "java/lang/IllegalStateException"
    · subst c8
      have h := (if_pos rfl).symm.trans h
      refine j_catV C X (c_X5_callUp n G σ o0 a1 a2 ho0 _ _ h3) dL_callUp_5 (gV u_505 u_507 u_508 u_211 u_506) rfl hy_X5_callUp rfl ho0 rfl (ci := 9) rfl rfl rfl (by decide) (Nat.le_of_ble_eq_true rfl) (by decide) [⟨0, 10, 13, 21⟩, ⟨0, 10, 17, 13⟩] ⟨0, 10, 21, 15⟩ [] rfl (fun z hz => by rcases List.mem_cons.mp hz with rfl | hz; exact ⟨by decide, "java/lang/IndexOutOfBoundsException", (mU u_438), by decide, by decide⟩; rcases List.mem_cons.mp hz with rfl | hz; exact ⟨by decide, "java/lang/IllegalArgumentException", (mU u_432), by decide, by decide⟩; cases hz) (by decide) (by decide) (mU u_433) (by decide) (fun q7 => ?_)
      refine j_astore C dL_callUp_21 (by decide) [(4, .ref q7), (0, .ref (G.2.2 (o0))), (1, .int (a1)), (2, .int (a2)), (3, .ref (G.2.2 (o3)))] rfl ?_
      refine j_iconst C dL_callUp_23 ((3 : Int32)) (by decide) ?_
      exact j_ireturn C dL_callUp_24 (e_i h hg) (by decide) (by decide)
    have h := (if_neg c8).symm.trans h
    cases h
def sp_L_hoistOre (n : Nat) (σ : Mem) (o0 : Nat) (a1 : Int32) (o2 : Nat) : Option (Int32 × Mem) := ((sp_X5_hoistOre n σ o0 a1).bind fun q => match q with | (.inl r1, σ2) => (lm (wi σ2 o2 ((0 : Int32)).toNatClampNeg r1) fun σ5 => some ((0 : Int32), σ5)) | (.inr E, σ2) => (if E = "java/lang/IndexOutOfBoundsException" then some ((1 : Int32), σ2) else (if E = "java/lang/IllegalStateException" then some ((2 : Int32), σ2) else none)))
abbrev rm_L_hoistOre : Room := ({ frames := 14, cells := 2, slots := 12, locals := 293 } : Room)
abbrev wu_L_hoistOre : List Cond := (Cond.codeWith yL_hoistOre cL_hoistOre 4 (some .int) [(0, 9, 12, 21), (0, 9, 15, 15)]) :: wsU
theorem hy_L_hoistOre : hyOk yL_hoistOre 3 := by decide +kernel
set_option maxRecDepth 20000 in
set_option maxHeartbeats 4000000 in
theorem c_L_hoistOre (n : Nat) (G : Gt) (σ : Mem) (o0 : Nat) (a1 : Int32) (o2 : Nat) (ho0 : Ok o0 5) (ho2 : Ok o2 12) (r : Int32) (σ' : Mem) (h : sp_L_hoistOre n σ o0 a1 o2 = some (r, σ')) : MM yL_hoistOre wu_L_hoistOre rm_L_hoistOre [.ref (G.2.2 (o0)), .int (a1), .ref (G.2.2 (o2))] G σ (.inl (some (.int r))) σ' := by
  refine mm_ofW (cc := cL_hoistOre) (maxL := 4) (ret := (some .int)) (by decide +kernel) rfl (Nat.le_of_ble_eq_true rfl) (fun x C X hg => ?_)
  have C : Cx x cL_hoistOre 4 RL (some .int) (tableOf [(0, 9, 12, 21), (0, 9, 15, 15)]) wu_L_hoistOre rm_L_hoistOre G.1 (tysF G) := C
  unfold sp_L_hoistOre at h
  show J x [(0, .ref (G.2.2 (o0))), (1, .int (a1)), (2, .ref (G.2.2 (o2)))] [] σ 0 0 0
  refine j_aload_n C dL_hoistOre_0 2 rfl ?_
  refine j_iconst C dL_hoistOre_1 ((0 : Int32)) (by decide) ?_
  refine j_aload_n C dL_hoistOre_2 0 rfl ?_
  refine j_iload_n C dL_hoistOre_3 1 rfl ?_
  obtain ⟨⟨r1, σ2⟩, h3, h⟩ := ob h
  try dsimp only at h
  rcases r1 with r1 | r1 <;> (try dsimp only at h)
  · refine j_callV C X (c_X5_hoistOre n G σ o0 a1 ho0 _ _ h3) dL_hoistOre_4 (gV u_509 u_511 u_512 u_211 u_510) rfl hy_X5_hoistOre rfl ho0 rfl (ci := 9) rfl rfl rfl (by decide) (Nat.le_of_ble_eq_true rfl) (by decide) ?_
    refine j_i2l C dL_hoistOre_7 ?_
    obtain ⟨σ5, e6, h⟩ := lm_e h
    refine j_last C X dL_hoistOre_8 ho2 (v := r1) rfl vp01 e6 ?_
    refine j_goto C dL_hoistOre_9 18 (by decide) ?_
    refine j_iconst C dL_hoistOre_18 ((0 : Int32)) (by decide) ?_
    exact j_ireturn C dL_hoistOre_19 (e_i h hg) (by decide) (by decide)
  · by_cases c10 : r1 = "java/lang/IndexOutOfBoundsException"
    · subst c10
      have h := (if_pos rfl).symm.trans h
      refine j_catV C X (c_X5_hoistOre n G σ o0 a1 ho0 _ _ h3) dL_hoistOre_4 (gV u_509 u_511 u_512 u_211 u_510) rfl hy_X5_hoistOre rfl ho0 rfl (ci := 9) rfl rfl rfl (by decide) (Nat.le_of_ble_eq_true rfl) (by decide) [] ⟨0, 9, 12, 21⟩ [⟨0, 9, 15, 15⟩] rfl (fun z hz => by cases hz) (by decide) (by decide) (mU u_438) (by decide) (fun q9 => ?_)
      refine j_astore_n C dL_hoistOre_12 (by decide) [(3, .ref q9), (0, .ref (G.2.2 (o0))), (1, .int (a1)), (2, .ref (G.2.2 (o2)))] rfl ?_
      refine j_iconst C dL_hoistOre_13 ((1 : Int32)) (by decide) ?_
      exact j_ireturn C dL_hoistOre_14 (e_i h hg) (by decide) (by decide)
    have h := (if_neg c10).symm.trans h
    by_cases c8 : r1 = "java/lang/IllegalStateException"
    · subst c8
      have h := (if_pos rfl).symm.trans h
      refine j_catV C X (c_X5_hoistOre n G σ o0 a1 ho0 _ _ h3) dL_hoistOre_4 (gV u_509 u_511 u_512 u_211 u_510) rfl hy_X5_hoistOre rfl ho0 rfl (ci := 9) rfl rfl rfl (by decide) (Nat.le_of_ble_eq_true rfl) (by decide) [⟨0, 9, 12, 21⟩] ⟨0, 9, 15, 15⟩ [] rfl (fun z hz => by rcases List.mem_cons.mp hz with rfl | hz; exact ⟨by decide, "java/lang/IndexOutOfBoundsException", (mU u_438), by decide, by decide⟩; cases hz) (by decide) (by decide) (mU u_433) (by decide) (fun q7 => ?_)
      refine j_astore_n C dL_hoistOre_15 (by decide) [(3, .ref q7), (0, .ref (G.2.2 (o0))), (1, .int (a1)), (2, .ref (G.2.2 (o2)))] rfl ?_
      refine j_iconst C dL_hoistOre_16 ((2 : Int32)) (by decide) ?_
      exact j_ireturn C dL_hoistOre_17 (e_i h hg) (by decide) (by decide)
    have h := (if_neg c8).symm.trans h
    cases h
def sp_L_cancel (n : Nat) (σ : Mem) (o0 : Nat) (a1 : Int32) (o2 : Nat) : Option (Int32 × Mem) := ((sp_X5_cancel n σ o0 a1).bind fun q => match q with | (.inl r1, σ2) => (lm (wi σ2 o2 ((0 : Int32)).toNatClampNeg r1) fun σ5 => some ((0 : Int32), σ5)) | (.inr E, σ2) => (if E = "java/util/NoSuchElementException" then some ((1 : Int32), σ2) else none))
abbrev rm_L_cancel : Room := ({ frames := 14, cells := 1, slots := 6, locals := 288 } : Room)
abbrev wu_L_cancel : List Cond := (Cond.codeWith yL_cancel cL_cancel 4 (some .int) [(0, 9, 12, 58)]) :: wsU
theorem hy_L_cancel : hyOk yL_cancel 3 := by decide +kernel
set_option maxRecDepth 20000 in
set_option maxHeartbeats 4000000 in
theorem c_L_cancel (n : Nat) (G : Gt) (σ : Mem) (o0 : Nat) (a1 : Int32) (o2 : Nat) (ho0 : Ok o0 5) (ho2 : Ok o2 12) (r : Int32) (σ' : Mem) (h : sp_L_cancel n σ o0 a1 o2 = some (r, σ')) : MM yL_cancel wu_L_cancel rm_L_cancel [.ref (G.2.2 (o0)), .int (a1), .ref (G.2.2 (o2))] G σ (.inl (some (.int r))) σ' := by
  refine mm_ofW (cc := cL_cancel) (maxL := 4) (ret := (some .int)) (by decide +kernel) rfl (Nat.le_of_ble_eq_true rfl) (fun x C X hg => ?_)
  have C : Cx x cL_cancel 4 RL (some .int) (tableOf [(0, 9, 12, 58)]) wu_L_cancel rm_L_cancel G.1 (tysF G) := C
  unfold sp_L_cancel at h
  show J x [(0, .ref (G.2.2 (o0))), (1, .int (a1)), (2, .ref (G.2.2 (o2)))] [] σ 0 0 0
  refine j_aload_n C dL_cancel_0 2 rfl ?_
  refine j_iconst C dL_cancel_1 ((0 : Int32)) (by decide) ?_
  refine j_aload_n C dL_cancel_2 0 rfl ?_
  refine j_iload_n C dL_cancel_3 1 rfl ?_
  obtain ⟨⟨r1, σ2⟩, h3, h⟩ := ob h
  try dsimp only at h
  rcases r1 with r1 | r1 <;> (try dsimp only at h)
  · refine j_callV C X (c_X5_cancel n G σ o0 a1 ho0 _ _ h3) dL_cancel_4 (gV u_513 u_515 u_516 u_211 u_514) rfl hy_X5_cancel rfl ho0 rfl (ci := 9) rfl rfl rfl (by decide) (Nat.le_of_ble_eq_true rfl) (by decide) ?_
    refine j_i2l C dL_cancel_7 ?_
    obtain ⟨σ5, e6, h⟩ := lm_e h
    refine j_last C X dL_cancel_8 ho2 (v := r1) rfl vp01 e6 ?_
    refine j_goto C dL_cancel_9 15 (by decide) ?_
    refine j_iconst C dL_cancel_15 ((0 : Int32)) (by decide) ?_
    exact j_ireturn C dL_cancel_16 (e_i h hg) (by decide) (by decide)
  · by_cases c8 : r1 = "java/util/NoSuchElementException"
    · subst c8
      have h := (if_pos rfl).symm.trans h
      refine j_catV C X (c_X5_cancel n G σ o0 a1 ho0 _ _ h3) dL_cancel_4 (gV u_513 u_515 u_516 u_211 u_514) rfl hy_X5_cancel rfl ho0 rfl (ci := 9) rfl rfl rfl (by decide) (Nat.le_of_ble_eq_true rfl) (by decide) [] ⟨0, 9, 12, 58⟩ [] rfl (fun z hz => by cases hz) (by decide) (by decide) (mU u_475) (by decide) (fun q7 => ?_)
      refine j_astore_n C dL_cancel_12 (by decide) [(3, .ref q7), (0, .ref (G.2.2 (o0))), (1, .int (a1)), (2, .ref (G.2.2 (o2)))] rfl ?_
      refine j_iconst C dL_cancel_13 ((1 : Int32)) (by decide) ?_
      exact j_ireturn C dL_cancel_14 (e_i h hg) (by decide) (by decide)
    have h := (if_neg c8).symm.trans h
    cases h
def sp_L_waitingAt (n : Nat) (σ : Mem) (o0 : Nat) (a1 : Int32) (o2 : Nat) : Option (Int32 × Mem) := ((sp_X5_waitingAt n σ o0 a1).bind fun q => match q with | (.inl r1, σ2) => (lm (wi σ2 o2 ((0 : Int32)).toNatClampNeg r1) fun σ5 => some ((0 : Int32), σ5)) | (.inr E, σ2) => (if E = "java/lang/IndexOutOfBoundsException" then some ((1 : Int32), σ2) else none))
abbrev rm_L_waitingAt : Room := ({ frames := 12, cells := 1, slots := 6, locals := 242 } : Room)
abbrev wu_L_waitingAt : List Cond := (Cond.codeWith yL_waitingAt cL_waitingAt 4 (some .int) [(0, 9, 12, 21)]) :: wsU
theorem hy_L_waitingAt : hyOk yL_waitingAt 3 := by decide +kernel
set_option maxRecDepth 20000 in
set_option maxHeartbeats 4000000 in
theorem c_L_waitingAt (n : Nat) (G : Gt) (σ : Mem) (o0 : Nat) (a1 : Int32) (o2 : Nat) (ho0 : Ok o0 5) (ho2 : Ok o2 12) (r : Int32) (σ' : Mem) (h : sp_L_waitingAt n σ o0 a1 o2 = some (r, σ')) : MM yL_waitingAt wu_L_waitingAt rm_L_waitingAt [.ref (G.2.2 (o0)), .int (a1), .ref (G.2.2 (o2))] G σ (.inl (some (.int r))) σ' := by
  refine mm_ofW (cc := cL_waitingAt) (maxL := 4) (ret := (some .int)) (by decide +kernel) rfl (Nat.le_of_ble_eq_true rfl) (fun x C X hg => ?_)
  have C : Cx x cL_waitingAt 4 RL (some .int) (tableOf [(0, 9, 12, 21)]) wu_L_waitingAt rm_L_waitingAt G.1 (tysF G) := C
  unfold sp_L_waitingAt at h
  show J x [(0, .ref (G.2.2 (o0))), (1, .int (a1)), (2, .ref (G.2.2 (o2)))] [] σ 0 0 0
  refine j_aload_n C dL_waitingAt_0 2 rfl ?_
  refine j_iconst C dL_waitingAt_1 ((0 : Int32)) (by decide) ?_
  refine j_aload_n C dL_waitingAt_2 0 rfl ?_
  refine j_iload_n C dL_waitingAt_3 1 rfl ?_
  obtain ⟨⟨r1, σ2⟩, h3, h⟩ := ob h
  try dsimp only at h
  rcases r1 with r1 | r1 <;> (try dsimp only at h)
  · refine j_callV C X (c_X5_waitingAt n G σ o0 a1 ho0 _ _ h3) dL_waitingAt_4 (gV u_517 u_519 u_520 u_211 u_518) rfl hy_X5_waitingAt rfl ho0 rfl (ci := 9) rfl rfl rfl (by decide) (Nat.le_of_ble_eq_true rfl) (by decide) ?_
    refine j_i2l C dL_waitingAt_7 ?_
    obtain ⟨σ5, e6, h⟩ := lm_e h
    refine j_last C X dL_waitingAt_8 ho2 (v := r1) rfl vp01 e6 ?_
    refine j_goto C dL_waitingAt_9 15 (by decide) ?_
    refine j_iconst C dL_waitingAt_15 ((0 : Int32)) (by decide) ?_
    exact j_ireturn C dL_waitingAt_16 (e_i h hg) (by decide) (by decide)
  · by_cases c8 : r1 = "java/lang/IndexOutOfBoundsException"
    · subst c8
      have h := (if_pos rfl).symm.trans h
      refine j_catV C X (c_X5_waitingAt n G σ o0 a1 ho0 _ _ h3) dL_waitingAt_4 (gV u_517 u_519 u_520 u_211 u_518) rfl hy_X5_waitingAt rfl ho0 rfl (ci := 9) rfl rfl rfl (by decide) (Nat.le_of_ble_eq_true rfl) (by decide) [] ⟨0, 9, 12, 21⟩ [] rfl (fun z hz => by cases hz) (by decide) (by decide) (mU u_438) (by decide) (fun q7 => ?_)
      refine j_astore_n C dL_waitingAt_12 (by decide) [(3, .ref q7), (0, .ref (G.2.2 (o0))), (1, .int (a1)), (2, .ref (G.2.2 (o2)))] rfl ?_
      refine j_iconst C dL_waitingAt_13 ((1 : Int32)) (by decide) ?_
      exact j_ireturn C dL_waitingAt_14 (e_i h hg) (by decide) (by decide)
    have h := (if_neg c8).symm.trans h
    cases h
def sp_L_tripLevel (n : Nat) (σ : Mem) (o0 : Nat) (o1 : Nat) : Option (Int32 × Mem) := ((sp_X5_tripLevel n σ o0).bind fun q => match q with | (.inl r1, σ2) => (lm (wi σ2 o1 ((0 : Int32)).toNatClampNeg r1) fun σ5 => some ((0 : Int32), σ5)) | (.inr E, σ2) => (if E = "java/util/NoSuchElementException" then some ((1 : Int32), σ2) else none))
abbrev rm_L_tripLevel : Room := ({ frames := 13, cells := 1, slots := 6, locals := 260 } : Room)
abbrev wu_L_tripLevel : List Cond := (Cond.codeWith yL_tripLevel cL_tripLevel 3 (some .int) [(0, 8, 11, 58)]) :: wsU
theorem hy_L_tripLevel : hyOk yL_tripLevel 2 := by decide +kernel
set_option maxRecDepth 20000 in
set_option maxHeartbeats 4000000 in
theorem c_L_tripLevel (n : Nat) (G : Gt) (σ : Mem) (o0 : Nat) (o1 : Nat) (ho0 : Ok o0 5) (ho1 : Ok o1 12) (r : Int32) (σ' : Mem) (h : sp_L_tripLevel n σ o0 o1 = some (r, σ')) : MM yL_tripLevel wu_L_tripLevel rm_L_tripLevel [.ref (G.2.2 (o0)), .ref (G.2.2 (o1))] G σ (.inl (some (.int r))) σ' := by
  refine mm_ofW (cc := cL_tripLevel) (maxL := 3) (ret := (some .int)) (by decide +kernel) rfl (Nat.le_of_ble_eq_true rfl) (fun x C X hg => ?_)
  have C : Cx x cL_tripLevel 3 RL (some .int) (tableOf [(0, 8, 11, 58)]) wu_L_tripLevel rm_L_tripLevel G.1 (tysF G) := C
  unfold sp_L_tripLevel at h
  show J x [(0, .ref (G.2.2 (o0))), (1, .ref (G.2.2 (o1)))] [] σ 0 0 0
  refine j_aload_n C dL_tripLevel_0 1 rfl ?_
  refine j_iconst C dL_tripLevel_1 ((0 : Int32)) (by decide) ?_
  refine j_aload_n C dL_tripLevel_2 0 rfl ?_
  obtain ⟨⟨r1, σ2⟩, h3, h⟩ := ob h
  try dsimp only at h
  rcases r1 with r1 | r1 <;> (try dsimp only at h)
  · refine j_callV C X (c_X5_tripLevel n G σ o0 ho0 _ _ h3) dL_tripLevel_3 (gV u_521 u_523 u_524 u_211 u_522) rfl hy_X5_tripLevel rfl ho0 rfl (ci := 9) rfl rfl rfl (by decide) (Nat.le_of_ble_eq_true rfl) (by decide) ?_
    refine j_i2l C dL_tripLevel_6 ?_
    obtain ⟨σ5, e6, h⟩ := lm_e h
    refine j_last C X dL_tripLevel_7 ho1 (v := r1) rfl vp01 e6 ?_
    refine j_goto C dL_tripLevel_8 14 (by decide) ?_
    refine j_iconst C dL_tripLevel_14 ((0 : Int32)) (by decide) ?_
    exact j_ireturn C dL_tripLevel_15 (e_i h hg) (by decide) (by decide)
  · by_cases c8 : r1 = "java/util/NoSuchElementException"
    · subst c8
      have h := (if_pos rfl).symm.trans h
      refine j_catV C X (c_X5_tripLevel n G σ o0 ho0 _ _ h3) dL_tripLevel_3 (gV u_521 u_523 u_524 u_211 u_522) rfl hy_X5_tripLevel rfl ho0 rfl (ci := 9) rfl rfl rfl (by decide) (Nat.le_of_ble_eq_true rfl) (by decide) [] ⟨0, 8, 11, 58⟩ [] rfl (fun z hz => by cases hz) (by decide) (by decide) (mU u_475) (by decide) (fun q7 => ?_)
      refine j_astore_n C dL_tripLevel_11 (by decide) [(2, .ref q7), (0, .ref (G.2.2 (o0))), (1, .ref (G.2.2 (o1)))] rfl ?_
      refine j_iconst C dL_tripLevel_12 ((1 : Int32)) (by decide) ?_
      exact j_ireturn C dL_tripLevel_13 (e_i h hg) (by decide) (by decide)
    have h := (if_neg c8).symm.trans h
    cases h
def sp_L_tripLoad (n : Nat) (σ : Mem) (o0 : Nat) (o1 : Nat) : Option (Int32 × Mem) := ((sp_X5_tripLoad n σ o0).bind fun q => match q with | (.inl r1, σ2) => (lm (wi σ2 o1 ((0 : Int32)).toNatClampNeg r1) fun σ5 => some ((0 : Int32), σ5)) | (.inr E, σ2) => (if E = "java/util/NoSuchElementException" then some ((1 : Int32), σ2) else none))
abbrev rm_L_tripLoad : Room := ({ frames := 13, cells := 1, slots := 6, locals := 260 } : Room)
abbrev wu_L_tripLoad : List Cond := (Cond.codeWith yL_tripLoad cL_tripLoad 3 (some .int) [(0, 8, 11, 58)]) :: wsU
theorem hy_L_tripLoad : hyOk yL_tripLoad 2 := by decide +kernel
set_option maxRecDepth 20000 in
set_option maxHeartbeats 4000000 in
theorem c_L_tripLoad (n : Nat) (G : Gt) (σ : Mem) (o0 : Nat) (o1 : Nat) (ho0 : Ok o0 5) (ho1 : Ok o1 12) (r : Int32) (σ' : Mem) (h : sp_L_tripLoad n σ o0 o1 = some (r, σ')) : MM yL_tripLoad wu_L_tripLoad rm_L_tripLoad [.ref (G.2.2 (o0)), .ref (G.2.2 (o1))] G σ (.inl (some (.int r))) σ' := by
  refine mm_ofW (cc := cL_tripLoad) (maxL := 3) (ret := (some .int)) (by decide +kernel) rfl (Nat.le_of_ble_eq_true rfl) (fun x C X hg => ?_)
  have C : Cx x cL_tripLoad 3 RL (some .int) (tableOf [(0, 8, 11, 58)]) wu_L_tripLoad rm_L_tripLoad G.1 (tysF G) := C
  unfold sp_L_tripLoad at h
  show J x [(0, .ref (G.2.2 (o0))), (1, .ref (G.2.2 (o1)))] [] σ 0 0 0
  refine j_aload_n C dL_tripLoad_0 1 rfl ?_
  refine j_iconst C dL_tripLoad_1 ((0 : Int32)) (by decide) ?_
  refine j_aload_n C dL_tripLoad_2 0 rfl ?_
  obtain ⟨⟨r1, σ2⟩, h3, h⟩ := ob h
  try dsimp only at h
  rcases r1 with r1 | r1 <;> (try dsimp only at h)
  · refine j_callV C X (c_X5_tripLoad n G σ o0 ho0 _ _ h3) dL_tripLoad_3 (gV u_525 u_527 u_528 u_211 u_526) rfl hy_X5_tripLoad rfl ho0 rfl (ci := 9) rfl rfl rfl (by decide) (Nat.le_of_ble_eq_true rfl) (by decide) ?_
    refine j_i2l C dL_tripLoad_6 ?_
    obtain ⟨σ5, e6, h⟩ := lm_e h
    refine j_last C X dL_tripLoad_7 ho1 (v := r1) rfl vp01 e6 ?_
    refine j_goto C dL_tripLoad_8 14 (by decide) ?_
    refine j_iconst C dL_tripLoad_14 ((0 : Int32)) (by decide) ?_
    exact j_ireturn C dL_tripLoad_15 (e_i h hg) (by decide) (by decide)
  · by_cases c8 : r1 = "java/util/NoSuchElementException"
    · subst c8
      have h := (if_pos rfl).symm.trans h
      refine j_catV C X (c_X5_tripLoad n G σ o0 ho0 _ _ h3) dL_tripLoad_3 (gV u_525 u_527 u_528 u_211 u_526) rfl hy_X5_tripLoad rfl ho0 rfl (ci := 9) rfl rfl rfl (by decide) (Nat.le_of_ble_eq_true rfl) (by decide) [] ⟨0, 8, 11, 58⟩ [] rfl (fun z hz => by cases hz) (by decide) (by decide) (mU u_475) (by decide) (fun q7 => ?_)
      refine j_astore_n C dL_tripLoad_11 (by decide) [(2, .ref q7), (0, .ref (G.2.2 (o0))), (1, .ref (G.2.2 (o1)))] rfl ?_
      refine j_iconst C dL_tripLoad_12 ((1 : Int32)) (by decide) ?_
      exact j_ireturn C dL_tripLoad_13 (e_i h hg) (by decide) (by decide)
    have h := (if_neg c8).symm.trans h
    cases h
def sp_L_tripRest (n : Nat) (σ : Mem) (o0 : Nat) (o1 : Nat) : Option (Int32 × Mem) := ((sp_X5_tripRest n σ o0).bind fun q => match q with | (.inl r1, σ2) => (lm (wi σ2 o1 ((0 : Int32)).toNatClampNeg r1) fun σ5 => some ((0 : Int32), σ5)) | (.inr E, σ2) => (if E = "java/util/NoSuchElementException" then some ((1 : Int32), σ2) else none))
abbrev rm_L_tripRest : Room := ({ frames := 13, cells := 1, slots := 6, locals := 260 } : Room)
abbrev wu_L_tripRest : List Cond := (Cond.codeWith yL_tripRest cL_tripRest 3 (some .int) [(0, 8, 11, 58)]) :: wsU
theorem hy_L_tripRest : hyOk yL_tripRest 2 := by decide +kernel
set_option maxRecDepth 20000 in
set_option maxHeartbeats 4000000 in
theorem c_L_tripRest (n : Nat) (G : Gt) (σ : Mem) (o0 : Nat) (o1 : Nat) (ho0 : Ok o0 5) (ho1 : Ok o1 12) (r : Int32) (σ' : Mem) (h : sp_L_tripRest n σ o0 o1 = some (r, σ')) : MM yL_tripRest wu_L_tripRest rm_L_tripRest [.ref (G.2.2 (o0)), .ref (G.2.2 (o1))] G σ (.inl (some (.int r))) σ' := by
  refine mm_ofW (cc := cL_tripRest) (maxL := 3) (ret := (some .int)) (by decide +kernel) rfl (Nat.le_of_ble_eq_true rfl) (fun x C X hg => ?_)
  have C : Cx x cL_tripRest 3 RL (some .int) (tableOf [(0, 8, 11, 58)]) wu_L_tripRest rm_L_tripRest G.1 (tysF G) := C
  unfold sp_L_tripRest at h
  show J x [(0, .ref (G.2.2 (o0))), (1, .ref (G.2.2 (o1)))] [] σ 0 0 0
  refine j_aload_n C dL_tripRest_0 1 rfl ?_
  refine j_iconst C dL_tripRest_1 ((0 : Int32)) (by decide) ?_
  refine j_aload_n C dL_tripRest_2 0 rfl ?_
  obtain ⟨⟨r1, σ2⟩, h3, h⟩ := ob h
  try dsimp only at h
  rcases r1 with r1 | r1 <;> (try dsimp only at h)
  · refine j_callV C X (c_X5_tripRest n G σ o0 ho0 _ _ h3) dL_tripRest_3 (gV u_529 u_531 u_532 u_211 u_530) rfl hy_X5_tripRest rfl ho0 rfl (ci := 9) rfl rfl rfl (by decide) (Nat.le_of_ble_eq_true rfl) (by decide) ?_
    refine j_i2l C dL_tripRest_6 ?_
    obtain ⟨σ5, e6, h⟩ := lm_e h
    refine j_last C X dL_tripRest_7 ho1 (v := r1) rfl vp01 e6 ?_
    refine j_goto C dL_tripRest_8 14 (by decide) ?_
    refine j_iconst C dL_tripRest_14 ((0 : Int32)) (by decide) ?_
    exact j_ireturn C dL_tripRest_15 (e_i h hg) (by decide) (by decide)
  · by_cases c8 : r1 = "java/util/NoSuchElementException"
    · subst c8
      have h := (if_pos rfl).symm.trans h
      refine j_catV C X (c_X5_tripRest n G σ o0 ho0 _ _ h3) dL_tripRest_3 (gV u_529 u_531 u_532 u_211 u_530) rfl hy_X5_tripRest rfl ho0 rfl (ci := 9) rfl rfl rfl (by decide) (Nat.le_of_ble_eq_true rfl) (by decide) [] ⟨0, 8, 11, 58⟩ [] rfl (fun z hz => by cases hz) (by decide) (by decide) (mU u_475) (by decide) (fun q7 => ?_)
      refine j_astore_n C dL_tripRest_11 (by decide) [(2, .ref q7), (0, .ref (G.2.2 (o0))), (1, .ref (G.2.2 (o1)))] rfl ?_
      refine j_iconst C dL_tripRest_12 ((1 : Int32)) (by decide) ?_
      exact j_ireturn C dL_tripRest_13 (e_i h hg) (by decide) (by decide)
    have h := (if_neg c8).symm.trans h
    cases h
def sp_L_waitFor (n : Nat) (σ : Mem) (o0 : Nat) (a1 : Int32) (o2 : Nat) : Option (Int32 × Mem) := ((sp_X5_waitFor n σ o0 a1).bind fun q => match q with | (.inl r1, σ2) => (lm (wi σ2 o2 ((0 : Int32)).toNatClampNeg r1) fun σ5 => some ((0 : Int32), σ5)) | (.inr E, σ2) => (if E = "java/util/NoSuchElementException" then some ((1 : Int32), σ2) else (if E = "java/lang/UnsupportedOperationException" then some ((2 : Int32), σ2) else none)))
abbrev rm_L_waitFor : Room := ({ frames := 17, cells := 1, slots := 6, locals := 356 } : Room)
abbrev wu_L_waitFor : List Cond := (Cond.codeWith yL_waitFor cL_waitFor 4 (some .int) [(0, 9, 12, 58), (0, 9, 15, 73)]) :: wsU
theorem hy_L_waitFor : hyOk yL_waitFor 3 := by decide +kernel
set_option maxRecDepth 20000 in
set_option maxHeartbeats 4000000 in
theorem c_L_waitFor (n : Nat) (G : Gt) (σ : Mem) (o0 : Nat) (a1 : Int32) (o2 : Nat) (ho0 : Ok o0 5) (ho2 : Ok o2 12) (r : Int32) (σ' : Mem) (h : sp_L_waitFor n σ o0 a1 o2 = some (r, σ')) : MM yL_waitFor wu_L_waitFor rm_L_waitFor [.ref (G.2.2 (o0)), .int (a1), .ref (G.2.2 (o2))] G σ (.inl (some (.int r))) σ' := by
  refine mm_ofW (cc := cL_waitFor) (maxL := 4) (ret := (some .int)) (by decide +kernel) rfl (Nat.le_of_ble_eq_true rfl) (fun x C X hg => ?_)
  have C : Cx x cL_waitFor 4 RL (some .int) (tableOf [(0, 9, 12, 58), (0, 9, 15, 73)]) wu_L_waitFor rm_L_waitFor G.1 (tysF G) := C
  unfold sp_L_waitFor at h
  show J x [(0, .ref (G.2.2 (o0))), (1, .int (a1)), (2, .ref (G.2.2 (o2)))] [] σ 0 0 0
  refine j_aload_n C dL_waitFor_0 2 rfl ?_
  refine j_iconst C dL_waitFor_1 ((0 : Int32)) (by decide) ?_
  refine j_aload_n C dL_waitFor_2 0 rfl ?_
  refine j_iload_n C dL_waitFor_3 1 rfl ?_
  obtain ⟨⟨r1, σ2⟩, h3, h⟩ := ob h
  try dsimp only at h
  rcases r1 with r1 | r1 <;> (try dsimp only at h)
  · refine j_callV C X (c_X5_waitFor n G σ o0 a1 ho0 _ _ h3) dL_waitFor_4 (gV u_533 u_535 u_536 u_211 u_534) rfl hy_X5_waitFor rfl ho0 rfl (ci := 9) rfl rfl rfl (by decide) (Nat.le_of_ble_eq_true rfl) (by decide) ?_
    refine j_i2l C dL_waitFor_7 ?_
    obtain ⟨σ5, e6, h⟩ := lm_e h
    refine j_last C X dL_waitFor_8 ho2 (v := r1) rfl vp01 e6 ?_
    refine j_goto C dL_waitFor_9 18 (by decide) ?_
    refine j_iconst C dL_waitFor_18 ((0 : Int32)) (by decide) ?_
    exact j_ireturn C dL_waitFor_19 (e_i h hg) (by decide) (by decide)
  · by_cases c10 : r1 = "java/util/NoSuchElementException"
    · subst c10
      have h := (if_pos rfl).symm.trans h
      refine j_catV C X (c_X5_waitFor n G σ o0 a1 ho0 _ _ h3) dL_waitFor_4 (gV u_533 u_535 u_536 u_211 u_534) rfl hy_X5_waitFor rfl ho0 rfl (ci := 9) rfl rfl rfl (by decide) (Nat.le_of_ble_eq_true rfl) (by decide) [] ⟨0, 9, 12, 58⟩ [⟨0, 9, 15, 73⟩] rfl (fun z hz => by cases hz) (by decide) (by decide) (mU u_475) (by decide) (fun q9 => ?_)
      refine j_astore_n C dL_waitFor_12 (by decide) [(3, .ref q9), (0, .ref (G.2.2 (o0))), (1, .int (a1)), (2, .ref (G.2.2 (o2)))] rfl ?_
      refine j_iconst C dL_waitFor_13 ((1 : Int32)) (by decide) ?_
      exact j_ireturn C dL_waitFor_14 (e_i h hg) (by decide) (by decide)
    have h := (if_neg c10).symm.trans h
    by_cases c8 : r1 = "java/lang/UnsupportedOperationException"
    · subst c8
      have h := (if_pos rfl).symm.trans h
      refine j_catV C X (c_X5_waitFor n G σ o0 a1 ho0 _ _ h3) dL_waitFor_4 (gV u_533 u_535 u_536 u_211 u_534) rfl hy_X5_waitFor rfl ho0 rfl (ci := 9) rfl rfl rfl (by decide) (Nat.le_of_ble_eq_true rfl) (by decide) [⟨0, 9, 12, 58⟩] ⟨0, 9, 15, 73⟩ [] rfl (fun z hz => by rcases List.mem_cons.mp hz with rfl | hz; exact ⟨by decide, "java/util/NoSuchElementException", (mU u_475), by decide, by decide⟩; cases hz) (by decide) (by decide) (mU u_492) (by decide) (fun q7 => ?_)
      refine j_astore_n C dL_waitFor_15 (by decide) [(3, .ref q7), (0, .ref (G.2.2 (o0))), (1, .int (a1)), (2, .ref (G.2.2 (o2)))] rfl ?_
      refine j_iconst C dL_waitFor_16 ((2 : Int32)) (by decide) ?_
      exact j_ireturn C dL_waitFor_17 (e_i h hg) (by decide) (by decide)
    have h := (if_neg c8).symm.trans h
    cases h
def sp_L_pass (n : Nat) (σ : Mem) (o0 : Nat) (a1 : Int32) (o2 : Nat) : Option (Int32 × Mem) := ((sp_X5_pass n σ o0 a1).bind fun q => match q with | (.inl r1, σ2) => (lm (wi σ2 o2 ((0 : Int32)).toNatClampNeg r1) fun σ5 => some ((0 : Int32), σ5)) | (.inr E, σ2) => (if E = "java/lang/IllegalArgumentException" then some ((1 : Int32), σ2) else (if E = "java/lang/IllegalStateException" then some ((2 : Int32), σ2) else none)))
abbrev rm_L_pass : Room := ({ frames := 16, cells := 2, slots := 12, locals := 334 } : Room)
abbrev wu_L_pass : List Cond := (Cond.codeWith yL_pass cL_pass 4 (some .int) [(0, 9, 12, 13), (0, 9, 15, 15)]) :: wsU
theorem hy_L_pass : hyOk yL_pass 3 := by decide +kernel
set_option maxRecDepth 20000 in
set_option maxHeartbeats 4000000 in
theorem c_L_pass (n : Nat) (G : Gt) (σ : Mem) (o0 : Nat) (a1 : Int32) (o2 : Nat) (ho0 : Ok o0 5) (ho2 : Ok o2 12) (r : Int32) (σ' : Mem) (h : sp_L_pass n σ o0 a1 o2 = some (r, σ')) : MM yL_pass wu_L_pass rm_L_pass [.ref (G.2.2 (o0)), .int (a1), .ref (G.2.2 (o2))] G σ (.inl (some (.int r))) σ' := by
  refine mm_ofW (cc := cL_pass) (maxL := 4) (ret := (some .int)) (by decide +kernel) rfl (Nat.le_of_ble_eq_true rfl) (fun x C X hg => ?_)
  have C : Cx x cL_pass 4 RL (some .int) (tableOf [(0, 9, 12, 13), (0, 9, 15, 15)]) wu_L_pass rm_L_pass G.1 (tysF G) := C
  unfold sp_L_pass at h
  show J x [(0, .ref (G.2.2 (o0))), (1, .int (a1)), (2, .ref (G.2.2 (o2)))] [] σ 0 0 0
  refine j_aload_n C dL_pass_0 2 rfl ?_
  refine j_iconst C dL_pass_1 ((0 : Int32)) (by decide) ?_
  refine j_aload_n C dL_pass_2 0 rfl ?_
  refine j_iload_n C dL_pass_3 1 rfl ?_
  obtain ⟨⟨r1, σ2⟩, h3, h⟩ := ob h
  try dsimp only at h
  rcases r1 with r1 | r1 <;> (try dsimp only at h)
  · refine j_callV C X (c_X5_pass n G σ o0 a1 ho0 _ _ h3) dL_pass_4 (gV u_537 u_539 u_540 u_211 u_538) rfl hy_X5_pass rfl ho0 rfl (ci := 9) rfl rfl rfl (by decide) (Nat.le_of_ble_eq_true rfl) (by decide) ?_
    refine j_i2l C dL_pass_7 ?_
    obtain ⟨σ5, e6, h⟩ := lm_e h
    refine j_last C X dL_pass_8 ho2 (v := r1) rfl vp01 e6 ?_
    refine j_goto C dL_pass_9 18 (by decide) ?_
    refine j_iconst C dL_pass_18 ((0 : Int32)) (by decide) ?_
    exact j_ireturn C dL_pass_19 (e_i h hg) (by decide) (by decide)
  · by_cases c10 : r1 = "java/lang/IllegalArgumentException"
    · subst c10
      have h := (if_pos rfl).symm.trans h
      refine j_catV C X (c_X5_pass n G σ o0 a1 ho0 _ _ h3) dL_pass_4 (gV u_537 u_539 u_540 u_211 u_538) rfl hy_X5_pass rfl ho0 rfl (ci := 9) rfl rfl rfl (by decide) (Nat.le_of_ble_eq_true rfl) (by decide) [] ⟨0, 9, 12, 13⟩ [⟨0, 9, 15, 15⟩] rfl (fun z hz => by cases hz) (by decide) (by decide) (mU u_432) (by decide) (fun q9 => ?_)
      refine j_astore_n C dL_pass_12 (by decide) [(3, .ref q9), (0, .ref (G.2.2 (o0))), (1, .int (a1)), (2, .ref (G.2.2 (o2)))] rfl ?_
      refine j_iconst C dL_pass_13 ((1 : Int32)) (by decide) ?_
      exact j_ireturn C dL_pass_14 (e_i h hg) (by decide) (by decide)
    have h := (if_neg c10).symm.trans h
    by_cases c8 : r1 = "java/lang/IllegalStateException"
    · subst c8
      have h := (if_pos rfl).symm.trans h
      refine j_catV C X (c_X5_pass n G σ o0 a1 ho0 _ _ h3) dL_pass_4 (gV u_537 u_539 u_540 u_211 u_538) rfl hy_X5_pass rfl ho0 rfl (ci := 9) rfl rfl rfl (by decide) (Nat.le_of_ble_eq_true rfl) (by decide) [⟨0, 9, 12, 13⟩] ⟨0, 9, 15, 15⟩ [] rfl (fun z hz => by rcases List.mem_cons.mp hz with rfl | hz; exact ⟨by decide, "java/lang/IllegalArgumentException", (mU u_432), by decide, by decide⟩; cases hz) (by decide) (by decide) (mU u_433) (by decide) (fun q7 => ?_)
      refine j_astore_n C dL_pass_15 (by decide) [(3, .ref q7), (0, .ref (G.2.2 (o0))), (1, .int (a1)), (2, .ref (G.2.2 (o2)))] rfl ?_
      refine j_iconst C dL_pass_16 ((2 : Int32)) (by decide) ?_
      exact j_ireturn C dL_pass_17 (e_i h hg) (by decide) (by decide)
    have h := (if_neg c8).symm.trans h
    cases h
def sp_L_meanShare (n : Nat) (σ : Mem) (o0 : Nat) (o1 : Nat) : Option (Int32 × Mem) := ((sp_X5_meanShare n σ o0).bind fun q => match q with | (.inl r1, σ2) => (lm (wi (wi σ2 o1 0 (r1.1)) o1 1 (r1.2)) fun σ4 => some ((0 : Int32), σ4)) | (.inr E, σ2) => (if E = "java/lang/ArithmeticException" then some ((1 : Int32), σ2) else none))
abbrev rm_L_meanShare : Room := ({ frames := 12, cells := 1, slots := 6, locals := 243 } : Room)
abbrev wu_L_meanShare : List Cond := (Cond.codeWith yL_meanShare cL_meanShare 3 (some .int) [(0, 7, 10, 53)]) :: wsU
theorem hy_L_meanShare : hyOk yL_meanShare 2 := by decide +kernel
set_option maxRecDepth 20000 in
set_option maxHeartbeats 4000000 in
theorem c_L_meanShare (n : Nat) (G : Gt) (σ : Mem) (o0 : Nat) (o1 : Nat) (ho0 : Ok o0 5) (ho1 : Ok o1 13) (r : Int32) (σ' : Mem) (h : sp_L_meanShare n σ o0 o1 = some (r, σ')) : MM yL_meanShare wu_L_meanShare rm_L_meanShare [.ref (G.2.2 (o0)), .ref (G.2.2 (o1))] G σ (.inl (some (.int r))) σ' := by
  refine mm_ofW (cc := cL_meanShare) (maxL := 3) (ret := (some .int)) (by decide +kernel) rfl (Nat.le_of_ble_eq_true rfl) (fun x C X hg => ?_)
  have C : Cx x cL_meanShare 3 RL (some .int) (tableOf [(0, 7, 10, 53)]) wu_L_meanShare rm_L_meanShare G.1 (tysF G) := C
  unfold sp_L_meanShare at h
  show J x [(0, .ref (G.2.2 (o0))), (1, .ref (G.2.2 (o1)))] [] σ 0 0 0
  refine j_aload_n C dL_meanShare_0 1 rfl ?_
  refine j_iconst C dL_meanShare_1 ((0 : Int32)) (by decide) ?_
  refine j_aload_n C dL_meanShare_2 0 rfl ?_
  obtain ⟨⟨r1, σ2⟩, h3, h⟩ := ob h
  try dsimp only at h
  rcases r1 with r1 | r1 <;> (try dsimp only at h)
  · refine j_callV C X (c_X5_meanShare n G σ o0 ho0 _ _ h3) dL_meanShare_3 (gV u_541 u_543 u_544 u_211 u_542) rfl hy_X5_meanShare rfl ho0 rfl (ci := 9) rfl rfl rfl (by decide) (Nat.le_of_ble_eq_true rfl) (by decide) ?_
    obtain ⟨σ4, e5, h⟩ := lm_e h
    refine j_dast C X dL_meanShare_6 ho1 e5 ?_
    refine j_goto C dL_meanShare_7 13 (by decide) ?_
    refine j_iconst C dL_meanShare_13 ((0 : Int32)) (by decide) ?_
    exact j_ireturn C dL_meanShare_14 (e_i h hg) (by decide) (by decide)
  · by_cases c7 : r1 = "java/lang/ArithmeticException"
    · subst c7
      have h := (if_pos rfl).symm.trans h
      refine j_catV C X (c_X5_meanShare n G σ o0 ho0 _ _ h3) dL_meanShare_3 (gV u_541 u_543 u_544 u_211 u_542) rfl hy_X5_meanShare rfl ho0 rfl (ci := 9) rfl rfl rfl (by decide) (Nat.le_of_ble_eq_true rfl) (by decide) [] ⟨0, 7, 10, 53⟩ [] rfl (fun z hz => by cases hz) (by decide) (by decide) (mU u_545) (by decide) (fun q6 => ?_)
      refine j_astore_n C dL_meanShare_10 (by decide) [(2, .ref q6), (0, .ref (G.2.2 (o0))), (1, .ref (G.2.2 (o1)))] rfl ?_
      refine j_iconst C dL_meanShare_11 ((1 : Int32)) (by decide) ?_
      exact j_ireturn C dL_meanShare_12 (e_i h hg) (by decide) (by decide)
    have h := (if_neg c7).symm.trans h
    cases h
