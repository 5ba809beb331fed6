def sp_L_some (n : Nat) (σ : Mem) (a0 : Int32) (a1 : Int32) : Option (Int32 × Mem) := if ¬ a1 = 0 then if 0 ≤ (a0 - a0 / a1 * a1) then some ((a0 - a0 / a1 * a1), σ) else some (((a0 - a0 / a1 * a1) + a1), σ) else none
abbrev rm_L_some : Room := ({ frames := 10, cells := 0, slots := 0, locals := 200 } : Room)
abbrev wu_L_some : List Cond := (Cond.code yL_some cL_some 3 (some .int)) :: wsU
theorem hy_L_some : hyOk yL_some 2 := by decide +kernel
set_option maxRecDepth 20000 in
set_option maxHeartbeats 4000000 in
theorem c_L_some (n : Nat) (G : Gt) (σ : Mem) (a0 : Int32) (a1 : Int32)  (r : Int32) (σ' : Mem) (h : sp_L_some n σ a0 a1 = some (r, σ')) : MM yL_some wu_L_some rm_L_some [.int (a0), .int (a1)] G σ (.inl (some (.int r))) σ' := by
  refine mm_of (cc := cL_some) (maxL := 3) (ret := (some .int)) (by decide +kernel) rfl (Nat.le_of_ble_eq_true rfl) (fun x C X hg => ?_)
  have C : Cx x cL_some 3 RL (some .int) [] wu_L_some rm_L_some G.1 (tysF G) := C
  unfold sp_L_some at h
  show J x [(0, .int (a0)), (1, .int (a1))] [] σ 0 0 0
  refine j_iload_n C dL_some_0 0 rfl ?_
  refine j_iload_n C dL_some_1 1 rfl ?_
  obtain ⟨g1, h⟩ := sg h
  refine j_irem C dL_some_2 g1 ?_
  refine j_istore_n C dL_some_3 (by decide) [(2, .int ((a0 - a0 / a1 * a1))), (0, .int (a0)), (1, .int (a1))] rfl ?_
  refine j_iload_n C dL_some_4 0 rfl ?_
  refine j_if_ge C dL_some_5 14 (by decide) (fun c2 => ?_) (fun c2 => ?_)
  · have h := (if_pos c2).symm.trans h
    refine j_iload_n C dL_some_14 0 rfl ?_
    exact j_ireturn C dL_some_15 (e_i h hg) (by decide) (by decide)
  · have h := (if_neg c2).symm.trans h
    refine j_iload_n C dL_some_8 0 rfl ?_
    refine j_iload_n C dL_some_9 2 rfl ?_
    refine j_iadd C dL_some_10 ?_
    refine j_goto C dL_some_11 15 (by decide) ?_
    exact j_ireturn C dL_some_15 (e_i h hg) (by decide) (by decide)
def sp_L_level (n : Nat) (σ : Mem) (o0 : Nat) (a1 : Int32) (a2 : Int32) (a3 : Int32) (a4 : Int32) : Option (Int32 × Mem) := ((sp_X5_addLevel n σ o0 a1 a2 a3 a4).bind fun q => match q with | (.inl r1, σ2) => some (r1, σ2) | (.inr E, σ2) => (if E = "java/lang/IllegalArgumentException" then some ((-1001 : Int32), σ2) else (if E = "java/lang/IllegalStateException" then some ((-1002 : Int32), σ2) else none)))
abbrev rm_L_level : Room := ({ frames := 14, cells := 5, slots := 30, locals := 291 } : Room)
abbrev wu_L_level : List Cond := (Cond.codeWith yL_level cL_level 6 (some .int) [(0, 9, 10, 13), (0, 9, 16, 15)]) :: wsU
theorem hy_L_level : hyOk yL_level 5 := by decide +kernel
set_option maxRecDepth 20000 in
set_option maxHeartbeats 4000000 in
theorem c_L_level (n : Nat) (G : Gt) (σ : Mem) (o0 : Nat) (a1 : Int32) (a2 : Int32) (a3 : Int32) (a4 : Int32) (ho0 : Ok o0 5) (r : Int32) (σ' : Mem) (h : sp_L_level n σ o0 a1 a2 a3 a4 = some (r, σ')) : MM yL_level wu_L_level rm_L_level [.ref (G.2.2 (o0)), .int (a1), .int (a2), .int (a3), .int (a4)] G σ (.inl (some (.int r))) σ' := by
  refine mm_ofW (cc := cL_level) (maxL := 6) (ret := (some .int)) (by decide +kernel) rfl (Nat.le_of_ble_eq_true rfl) (fun x C X hg => ?_)
  have C : Cx x cL_level 6 RL (some .int) (tableOf [(0, 9, 10, 13), (0, 9, 16, 15)]) wu_L_level rm_L_level G.1 (tysF G) := C
  unfold sp_L_level at h
  show J x [(0, .ref (G.2.2 (o0))), (1, .int (a1)), (2, .int (a2)), (3, .int (a3)), (4, .int (a4))] [] σ 0 0 0
  refine j_aload_n C dL_level_0 0 rfl ?_
  refine j_iload_n C dL_level_1 1 rfl ?_
  refine j_iload_n C dL_level_2 2 rfl ?_
  refine j_iload_n C dL_level_3 3 rfl ?_
  refine j_iload C dL_level_4 4 rfl ?_
  obtain ⟨⟨r1, σ2⟩, h3, h⟩ := ob h
  try dsimp only at h
  rcases r1 with r1 | r1 <;> (try dsimp only at h)
  · refine j_callV C X (c_X5_addLevel n G σ o0 a1 a2 a3 a4 ho0 _ _ h3) dL_level_6 (gV u_312 u_314 u_315 u_211 u_313) rfl hy_X5_addLevel rfl ho0 rfl (ci := 9) rfl rfl rfl (by decide) (Nat.le_of_ble_eq_true rfl) (by decide) ?_
    exact j_ireturn C dL_level_9 (e_i h hg) (by decide) (by decide)
  · by_cases c7 : r1 = "java/lang/IllegalArgumentException"
    · subst c7
      have h := (if_pos rfl).symm.trans h
      refine j_catV C X (c_X5_addLevel n G σ o0 a1 a2 a3 a4 ho0 _ _ h3) dL_level_6 (gV u_312 u_314 u_315 u_211 u_313) rfl hy_X5_addLevel rfl ho0 rfl (ci := 9) rfl rfl rfl (by decide) (Nat.le_of_ble_eq_true rfl) (by decide) [] ⟨0, 9, 10, 13⟩ [⟨0, 9, 16, 15⟩] rfl (fun z hz => by cases hz) (by decide) (by decide) (mU u_316) (by decide) (fun q6 => ?_)
      refine j_astore C dL_level_10 (by decide) [(5, .ref q6), (0, .ref (G.2.2 (o0))), (1, .int (a1)), (2, .int (a2)), (3, .int (a3)), (4, .int (a4))] rfl ?_
      refine j_sipush C dL_level_12 ((-1001 : Int32)) (by decide) ?_
      exact j_ireturn C dL_level_15 (e_i h hg) (by decide) (by decide)
    have h := (if_neg c7).symm.trans h
    by_cases c5 : r1 = "java/lang/IllegalStateException"
    · subst c5
      have h := (if_pos rfl).symm.trans h
      refine j_catV C X (c_X5_addLevel n G σ o0 a1 a2 a3 a4 ho0 _ _ h3) dL_level_6 (gV u_312 u_314 u_315 u_211 u_313) rfl hy_X5_addLevel rfl ho0 rfl (ci := 9) rfl rfl rfl (by decide) (Nat.le_of_ble_eq_true rfl) (by decide) [⟨0, 9, 10, 13⟩] ⟨0, 9, 16, 15⟩ [] rfl (fun z hz => by rcases List.mem_cons.mp hz with rfl | hz; exact Or.inr ⟨by decide, "java/lang/IllegalArgumentException", (mU u_316), by decide, by decide⟩; cases hz) (by decide) (by decide) (mU u_317) (by decide) (fun q4 => ?_)
      refine j_astore C dL_level_16 (by decide) [(5, .ref q4), (0, .ref (G.2.2 (o0))), (1, .int (a1)), (2, .int (a2)), (3, .int (a3)), (4, .int (a4))] rfl ?_
      refine j_sipush C dL_level_18 ((-1002 : Int32)) (by decide) ?_
      exact j_ireturn C dL_level_21 (e_i h hg) (by decide) (by decide)
    have h := (if_neg c5).symm.trans h
    cases h
def sp_L_sets (n : Nat) (σ : Mem) (o0 : Nat) (a1 : Int32) (a2 : Int32) : Option (Int32 × Mem) := if a1 = (102 : Int32) then ((sp_X5_setFan n σ o0 a2).bind fun q => match q with | (.inl r13, σ14) => some (r13, σ14) | (.inr E, σ14) => (if E = "java/lang/IllegalArgumentException" then some ((-1001 : Int32), σ14) else none)) else if a1 = (108 : Int32) then ((sp_X5_setLimit n σ o0 a2).bind fun q => match q with | (.inl r8, σ9) => some (r8, σ9) | (.inr E, σ9) => (if E = "java/lang/IllegalArgumentException" then some ((-1001 : Int32), σ9) else none)) else ((sp_X5_setSpeed n σ o0 a2).bind fun q => match q with | (.inl r3, σ4) => some (r3, σ4) | (.inr E, σ4) => (if E = "java/lang/IllegalArgumentException" then some ((-1001 : Int32), σ4) else none))
abbrev rm_L_sets : Room := ({ frames := 14, cells := 1, slots := 6, locals := 289 } : Room)
abbrev wu_L_sets : List Cond := (Cond.codeWith yL_sets cL_sets 4 (some .int) [(0, 33, 34, 13)]) :: wsU
theorem hy_L_sets : hyOk yL_sets 3 := by decide +kernel
set_option maxRecDepth 20000 in
set_option maxHeartbeats 4000000 in
theorem c_L_sets (n : Nat) (G : Gt) (σ : Mem) (o0 : Nat) (a1 : Int32) (a2 : Int32) (ho0 : Ok o0 5) (r : Int32) (σ' : Mem) (h : sp_L_sets n σ o0 a1 a2 = some (r, σ')) : MM yL_sets wu_L_sets rm_L_sets [.ref (G.2.2 (o0)), .int (a1), .int (a2)] G σ (.inl (some (.int r))) σ' := by
  refine mm_ofW (cc := cL_sets) (maxL := 4) (ret := (some .int)) (by decide +kernel) rfl (Nat.le_of_ble_eq_true rfl) (fun x C X hg => ?_)
  have C : Cx x cL_sets 4 RL (some .int) (tableOf [(0, 33, 34, 13)]) wu_L_sets rm_L_sets G.1 (tysF G) := C
  unfold sp_L_sets at h
  show J x [(0, .ref (G.2.2 (o0))), (1, .int (a1)), (2, .int (a2))] [] σ 0 0 0
  refine j_iload_n C dL_sets_0 1 rfl ?_
  refine j_bipush C dL_sets_1 ((102 : Int32)) (by decide) ?_
  refine j_icmp_ne C dL_sets_3 14 (by decide) (fun c1 => ?_) (fun c1 => ?_)
  · have h := (if_neg c1).symm.trans h
    refine j_iload_n C dL_sets_14 1 rfl ?_
    refine j_bipush C dL_sets_15 ((108 : Int32)) (by decide) ?_
    refine j_icmp_ne C dL_sets_17 28 (by decide) (fun c2 => ?_) (fun c2 => ?_)
    · have h := (if_neg c2).symm.trans h
      refine j_aload_n C dL_sets_28 0 rfl ?_
      refine j_iload_n C dL_sets_29 2 rfl ?_
      obtain ⟨⟨r3, σ4⟩, h5, h⟩ := ob h
      try dsimp only at h
      rcases r3 with r3 | r3 <;> (try dsimp only at h)
      · refine j_callV C X (c_X5_setSpeed n G σ o0 a2 ho0 _ _ h5) dL_sets_30 (gV u_318 u_320 u_321 u_211 u_319) rfl hy_X5_setSpeed rfl ho0 rfl (ci := 9) rfl rfl rfl (by decide) (Nat.le_of_ble_eq_true rfl) (by decide) ?_
        exact j_ireturn C dL_sets_33 (e_i h hg) (by decide) (by decide)
      · by_cases c7 : r3 = "java/lang/IllegalArgumentException"
        · subst c7
          have h := (if_pos rfl).symm.trans h
          refine j_catV C X (c_X5_setSpeed n G σ o0 a2 ho0 _ _ h5) dL_sets_30 (gV u_318 u_320 u_321 u_211 u_319) rfl hy_X5_setSpeed rfl ho0 rfl (ci := 9) rfl rfl rfl (by decide) (Nat.le_of_ble_eq_true rfl) (by decide) [] ⟨0, 33, 34, 13⟩ [] rfl (fun z hz => by cases hz) (by decide) (by decide) (mU u_316) (by decide) (fun q6 => ?_)
          refine j_astore_n C dL_sets_34 (by decide) [(3, .ref q6), (0, .ref (G.2.2 (o0))), (1, .int (a1)), (2, .int (a2))] rfl ?_
          refine j_sipush C dL_sets_35 ((-1001 : Int32)) (by decide) ?_
          exact j_ireturn C dL_sets_38 (e_i h hg) (by decide) (by decide)
        have h := (if_neg c7).symm.trans h
        cases h
    · have h := (if_pos c2).symm.trans h
      refine j_aload_n C dL_sets_20 0 rfl ?_
      refine j_iload_n C dL_sets_21 2 rfl ?_
      obtain ⟨⟨r8, σ9⟩, h10, h⟩ := ob h
      try dsimp only at h
      rcases r8 with r8 | r8 <;> (try dsimp only at h)
      · refine j_callV C X (c_X5_setLimit n G σ o0 a2 ho0 _ _ h10) dL_sets_22 (gV u_322 u_324 u_325 u_211 u_323) rfl hy_X5_setLimit rfl ho0 rfl (ci := 9) rfl rfl rfl (by decide) (Nat.le_of_ble_eq_true rfl) (by decide) ?_
        refine j_goto C dL_sets_25 33 (by decide) ?_
        exact j_ireturn C dL_sets_33 (e_i h hg) (by decide) (by decide)
      · by_cases c12 : r8 = "java/lang/IllegalArgumentException"
        · subst c12
          have h := (if_pos rfl).symm.trans h
          refine j_catV C X (c_X5_setLimit n G σ o0 a2 ho0 _ _ h10) dL_sets_22 (gV u_322 u_324 u_325 u_211 u_323) rfl hy_X5_setLimit rfl ho0 rfl (ci := 9) rfl rfl rfl (by decide) (Nat.le_of_ble_eq_true rfl) (by decide) [] ⟨0, 33, 34, 13⟩ [] rfl (fun z hz => by cases hz) (by decide) (by decide) (mU u_316) (by decide) (fun q11 => ?_)
          refine j_astore_n C dL_sets_34 (by decide) [(3, .ref q11), (0, .ref (G.2.2 (o0))), (1, .int (a1)), (2, .int (a2))] rfl ?_
          refine j_sipush C dL_sets_35 ((-1001 : Int32)) (by decide) ?_
          exact j_ireturn C dL_sets_38 (e_i h hg) (by decide) (by decide)
        have h := (if_neg c12).symm.trans h
        cases h
  · have h := (if_pos c1).symm.trans h
    refine j_aload_n C dL_sets_6 0 rfl ?_
    refine j_iload_n C dL_sets_7 2 rfl ?_
    obtain ⟨⟨r13, σ14⟩, h15, h⟩ := ob h
    try dsimp only at h
    rcases r13 with r13 | r13 <;> (try dsimp only at h)
    · refine j_callV C X (c_X5_setFan n G σ o0 a2 ho0 _ _ h15) dL_sets_8 (gV u_326 u_328 u_329 u_211 u_327) rfl hy_X5_setFan rfl ho0 rfl (ci := 9) rfl rfl rfl (by decide) (Nat.le_of_ble_eq_true rfl) (by decide) ?_
      refine j_goto C dL_sets_11 33 (by decide) ?_
      exact j_ireturn C dL_sets_33 (e_i h hg) (by decide) (by decide)
    · by_cases c17 : r13 = "java/lang/IllegalArgumentException"
      · subst c17
        have h := (if_pos rfl).symm.trans h
        refine j_catV C X (c_X5_setFan n G σ o0 a2 ho0 _ _ h15) dL_sets_8 (gV u_326 u_328 u_329 u_211 u_327) rfl hy_X5_setFan rfl ho0 rfl (ci := 9) rfl rfl rfl (by decide) (Nat.le_of_ble_eq_true rfl) (by decide) [] ⟨0, 33, 34, 13⟩ [] rfl (fun z hz => by cases hz) (by decide) (by decide) (mU u_316) (by decide) (fun q16 => ?_)
        refine j_astore_n C dL_sets_34 (by decide) [(3, .ref q16), (0, .ref (G.2.2 (o0))), (1, .int (a1)), (2, .int (a2))] rfl ?_
        refine j_sipush C dL_sets_35 ((-1001 : Int32)) (by decide) ?_
        exact j_ireturn C dL_sets_38 (e_i h hg) (by decide) (by decide)
      have h := (if_neg c17).symm.trans h
      cases h
def sp_L_door (n : Nat) (σ : Mem) (o0 : Nat) (a1 : Int32) (a2 : Int32) : Option (Int32 × Mem) := ((sp_X5_setDoor n σ o0 a1 a2).bind fun q => match q with | (.inl r1, σ2) => if r1 = 0 then some ((0 : Int32), σ2) else some ((1 : Int32), σ2) | (.inr E, σ2) => (if E = "java/lang/IndexOutOfBoundsException" then some ((-1001 : Int32), σ2) else none))
abbrev rm_L_door : Room := ({ frames := 14, cells := 1, slots := 6, locals := 291 } : Room)
abbrev wu_L_door : List Cond := (Cond.codeWith yL_door cL_door 4 (some .int) [(0, 14, 15, 31)]) :: wsU
theorem hy_L_door : hyOk yL_door 3 := by decide +kernel
set_option maxRecDepth 20000 in
set_option maxHeartbeats 4000000 in
theorem c_L_door (n : Nat) (G : Gt) (σ : Mem) (o0 : Nat) (a1 : Int32) (a2 : Int32) (ho0 : Ok o0 5) (r : Int32) (σ' : Mem) (h : sp_L_door n σ o0 a1 a2 = some (r, σ')) : MM yL_door wu_L_door rm_L_door [.ref (G.2.2 (o0)), .int (a1), .int (a2)] G σ (.inl (some (.int r))) σ' := by
  refine mm_ofW (cc := cL_door) (maxL := 4) (ret := (some .int)) (by decide +kernel) rfl (Nat.le_of_ble_eq_true rfl) (fun x C X hg => ?_)
  have C : Cx x cL_door 4 RL (some .int) (tableOf [(0, 14, 15, 31)]) wu_L_door rm_L_door G.1 (tysF G) := C
  unfold sp_L_door at h
  show J x [(0, .ref (G.2.2 (o0))), (1, .int (a1)), (2, .int (a2))] [] σ 0 0 0
  refine j_aload_n C dL_door_0 0 rfl ?_
  refine j_iload_n C dL_door_1 1 rfl ?_
  refine j_iload_n C dL_door_2 2 rfl ?_
  obtain ⟨⟨r1, σ2⟩, h3, h⟩ := ob h
  try dsimp only at h
  rcases r1 with r1 | r1 <;> (try dsimp only at h)
  · refine j_callV C X (c_X5_setDoor n G σ o0 a1 a2 ho0 _ _ h3) dL_door_3 (gV u_330 u_332 u_333 u_211 u_331) rfl hy_X5_setDoor rfl ho0 rfl (ci := 9) rfl rfl rfl (by decide) (Nat.le_of_ble_eq_true rfl) (by decide) ?_
    refine j_if_eq C dL_door_6 13 (by decide) (fun c4 => ?_) (fun c4 => ?_)
    · have h := (if_pos c4).symm.trans h
      refine j_iconst C dL_door_13 ((0 : Int32)) (by decide) ?_
      exact j_ireturn C dL_door_14 (e_i h hg) (by decide) (by decide)
    · have h := (if_neg c4).symm.trans h
      refine j_iconst C dL_door_9 ((1 : Int32)) (by decide) ?_
      refine j_goto C dL_door_10 14 (by decide) ?_
      exact j_ireturn C dL_door_14 (e_i h hg) (by decide) (by decide)
  · by_cases c6 : r1 = "java/lang/IndexOutOfBoundsException"
    · subst c6
      have h := (if_pos rfl).symm.trans h
      refine j_catV C X (c_X5_setDoor n G σ o0 a1 a2 ho0 _ _ h3) dL_door_3 (gV u_330 u_332 u_333 u_211 u_331) rfl hy_X5_setDoor rfl ho0 rfl (ci := 9) rfl rfl rfl (by decide) (Nat.le_of_ble_eq_true rfl) (by decide) [] ⟨0, 14, 15, 31⟩ [] rfl (fun z hz => by cases hz) (by decide) (by decide) (mU u_334) (by decide) (fun q5 => ?_)
      refine j_astore_n C dL_door_15 (by decide) [(3, .ref q5), (0, .ref (G.2.2 (o0))), (1, .int (a1)), (2, .int (a2))] rfl ?_
      refine j_sipush C dL_door_16 ((-1001 : Int32)) (by decide) ?_
      exact j_ireturn C dL_door_19 (e_i h hg) (by decide) (by decide)
    have h := (if_neg c6).symm.trans h
    cases h
def sp_L_pass (n : Nat) (σ : Mem) (o0 : Nat) (a1 : Int32) : Option (Int32 × Mem) := ((sp_X5_pass n σ o0 a1).bind fun q => match q with | (.inl r1, σ2) => some (r1, σ2) | (.inr E, σ2) => (if E = "java/lang/IllegalArgumentException" then some ((-1001 : Int32), σ2) else (if E = "java/lang/IllegalStateException" then some ((-1002 : Int32), σ2) else none)))
abbrev rm_L_pass : Room := ({ frames := 16, cells := 2, slots := 12, locals := 334 } : Room)
abbrev wu_L_pass : List Cond := (Cond.codeWith yL_pass cL_pass 3 (some .int) [(0, 5, 6, 13), (0, 5, 11, 15)]) :: wsU
theorem hy_L_pass : hyOk yL_pass 2 := by decide +kernel
set_option maxRecDepth 20000 in
set_option maxHeartbeats 4000000 in
theorem c_L_pass (n : Nat) (G : Gt) (σ : Mem) (o0 : Nat) (a1 : Int32) (ho0 : Ok o0 5) (r : Int32) (σ' : Mem) (h : sp_L_pass n σ o0 a1 = some (r, σ')) : MM yL_pass wu_L_pass rm_L_pass [.ref (G.2.2 (o0)), .int (a1)] G σ (.inl (some (.int r))) σ' := by
  refine mm_ofW (cc := cL_pass) (maxL := 3) (ret := (some .int)) (by decide +kernel) rfl (Nat.le_of_ble_eq_true rfl) (fun x C X hg => ?_)
  have C : Cx x cL_pass 3 RL (some .int) (tableOf [(0, 5, 6, 13), (0, 5, 11, 15)]) wu_L_pass rm_L_pass G.1 (tysF G) := C
  unfold sp_L_pass at h
  show J x [(0, .ref (G.2.2 (o0))), (1, .int (a1))] [] σ 0 0 0
  refine j_aload_n C dL_pass_0 0 rfl ?_
  refine j_iload_n C dL_pass_1 1 rfl ?_
  obtain ⟨⟨r1, σ2⟩, h3, h⟩ := ob h
  try dsimp only at h
  rcases r1 with r1 | r1 <;> (try dsimp only at h)
  · refine j_callV C X (c_X5_pass n G σ o0 a1 ho0 _ _ h3) dL_pass_2 (gV u_335 u_337 u_338 u_211 u_336) rfl hy_X5_pass rfl ho0 rfl (ci := 9) rfl rfl rfl (by decide) (Nat.le_of_ble_eq_true rfl) (by decide) ?_
    exact j_ireturn C dL_pass_5 (e_i h hg) (by decide) (by decide)
  · by_cases c7 : r1 = "java/lang/IllegalArgumentException"
    · subst c7
      have h := (if_pos rfl).symm.trans h
      refine j_catV C X (c_X5_pass n G σ o0 a1 ho0 _ _ h3) dL_pass_2 (gV u_335 u_337 u_338 u_211 u_336) rfl hy_X5_pass rfl ho0 rfl (ci := 9) rfl rfl rfl (by decide) (Nat.le_of_ble_eq_true rfl) (by decide) [] ⟨0, 5, 6, 13⟩ [⟨0, 5, 11, 15⟩] rfl (fun z hz => by cases hz) (by decide) (by decide) (mU u_316) (by decide) (fun q6 => ?_)
      refine j_astore_n C dL_pass_6 (by decide) [(2, .ref q6), (0, .ref (G.2.2 (o0))), (1, .int (a1))] rfl ?_
      refine j_sipush C dL_pass_7 ((-1001 : Int32)) (by decide) ?_
      exact j_ireturn C dL_pass_10 (e_i h hg) (by decide) (by decide)
    have h := (if_neg c7).symm.trans h
    by_cases c5 : r1 = "java/lang/IllegalStateException"
    · subst c5
      have h := (if_pos rfl).symm.trans h
      refine j_catV C X (c_X5_pass n G σ o0 a1 ho0 _ _ h3) dL_pass_2 (gV u_335 u_337 u_338 u_211 u_336) rfl hy_X5_pass rfl ho0 rfl (ci := 9) rfl rfl rfl (by decide) (Nat.le_of_ble_eq_true rfl) (by decide) [⟨0, 5, 6, 13⟩] ⟨0, 5, 11, 15⟩ [] rfl (fun z hz => by rcases List.mem_cons.mp hz with rfl | hz; exact Or.inr ⟨by decide, "java/lang/IllegalArgumentException", (mU u_316), by decide, by decide⟩; cases hz) (by decide) (by decide) (mU u_317) (by decide) (fun q4 => ?_)
      refine j_astore_n C dL_pass_11 (by decide) [(2, .ref q4), (0, .ref (G.2.2 (o0))), (1, .int (a1))] rfl ?_
      refine j_sipush C dL_pass_12 ((-1002 : Int32)) (by decide) ?_
      exact j_ireturn C dL_pass_15 (e_i h hg) (by decide) (by decide)
    have h := (if_neg c5).symm.trans h
    cases h
def sp_L_of (n : Nat) (σ : Mem) (o0 : Nat) (a1 : Int32) (a2 : Int32) : Option (Int32 × Mem) := if a2 = 0 then (((sp_X5_depthOf n σ o0 a1).bind fun q => match q with | (.inl r2, σ3) => some (r2, σ3) | (.inr E, σ3) => (if E = "java/lang/IndexOutOfBoundsException" then some ((-1001 : Int32), σ3) else (if E = "java/util/NoSuchElementException" then some ((-1002 : Int32), σ3) else none)))) else if a2 = 1 then (((sp_X5_airOf n σ o0 a1).bind fun q => match q with | (.inl r10, σ11) => some (r10, σ11) | (.inr E, σ11) => (if E = "java/lang/IndexOutOfBoundsException" then some ((-1001 : Int32), σ11) else (if E = "java/util/NoSuchElementException" then some ((-1002 : Int32), σ11) else none)))) else if a2 = 2 then (((sp_X5_airByPaths n σ o0 a1).bind fun q => match q with | (.inl r18, σ19) => some (r18, σ19) | (.inr E, σ19) => (if E = "java/lang/IndexOutOfBoundsException" then some ((-1001 : Int32), σ19) else (if E = "java/util/NoSuchElementException" then some ((-1002 : Int32), σ19) else none)))) else if a2 = 3 then (((sp_X5_gasOf n σ o0 a1).bind fun q => match q with | (.inl r26, σ27) => some (r26, σ27) | (.inr E, σ27) => (if E = "java/lang/IndexOutOfBoundsException" then some ((-1001 : Int32), σ27) else (if E = "java/util/NoSuchElementException" then some ((-1002 : Int32), σ27) else none)))) else if a2 = 4 then (((sp_X5_gasShare n σ o0 a1).bind fun q => match q with | (.inl r34, σ35) => some (r34, σ35) | (.inr E, σ35) => (if E = "java/lang/IndexOutOfBoundsException" then some ((-1001 : Int32), σ35) else (if E = "java/util/NoSuchElementException" then some ((-1002 : Int32), σ35) else none)))) else if a2 = 5 then (((sp_X5_isAlarm n σ o0 a1).bind fun q => match q with | (.inl r42, σ43) => if r42 = 0 then some ((0 : Int32), σ43) else some ((1 : Int32), σ43) | (.inr E, σ43) => (if E = "java/lang/IndexOutOfBoundsException" then some ((-1001 : Int32), σ43) else (if E = "java/util/NoSuchElementException" then some ((-1002 : Int32), σ43) else none)))) else if a2 = 6 then (((sp_X5_minutesToAlarm n σ o0 a1).bind fun q => match q with | (.inl r51, σ52) => some (r51, σ52) | (.inr E, σ52) => (if E = "java/lang/IndexOutOfBoundsException" then some ((-1001 : Int32), σ52) else (if E = "java/util/NoSuchElementException" then some ((-1002 : Int32), σ52) else none)))) else if a2 = 7 then (((sp_X5_peopleAt n σ o0 a1).bind fun q => match q with | (.inl r59, σ60) => some (r59, σ60) | (.inr E, σ60) => (if E = "java/lang/IndexOutOfBoundsException" then some ((-1001 : Int32), σ60) else (if E = "java/util/NoSuchElementException" then some ((-1002 : Int32), σ60) else none)))) else if a2 = 8 then (((sp_X5_oreAt n σ o0 a1).bind fun q => match q with | (.inl r67, σ68) => some (r67, σ68) | (.inr E, σ68) => (if E = "java/lang/IndexOutOfBoundsException" then some ((-1001 : Int32), σ68) else (if E = "java/util/NoSuchElementException" then some ((-1002 : Int32), σ68) else none)))) else (((sp_X5_isClosed n σ o0 a1).bind fun q => match q with | (.inl r74, σ75) => if r74 = 0 then some ((0 : Int32), σ75) else some ((1 : Int32), σ75) | (.inr E, σ75) => (if E = "java/lang/IndexOutOfBoundsException" then some ((-1001 : Int32), σ75) else (if E = "java/util/NoSuchElementException" then some ((-1002 : Int32), σ75) else none))))
abbrev rm_L_of : Room := ({ frames := 14, cells := 2, slots := 12, locals := 292 } : Room)
abbrev wu_L_of : List Cond := (Cond.codeWith yL_of cL_of 4 (some .int) [(0, 57, 128, 31), (58, 63, 128, 31), (64, 69, 128, 31), (70, 75, 128, 31), (76, 81, 128, 31), (82, 95, 128, 31), (96, 101, 128, 31), (102, 107, 128, 31), (108, 113, 128, 31), (114, 127, 128, 31), (0, 57, 133, 67), (58, 63, 133, 67), (64, 69, 133, 67), (70, 75, 133, 67), (76, 81, 133, 67), (82, 95, 133, 67), (96, 101, 133, 67), (102, 107, 133, 67), (108, 113, 133, 67), (114, 127, 133, 67)]) :: wsU
theorem hy_L_of : hyOk yL_of 3 := by decide +kernel
set_option maxRecDepth 20000 in
set_option maxHeartbeats 4000000 in
theorem c_L_of (n : Nat) (G : Gt) (σ : Mem) (o0 : Nat) (a1 : Int32) (a2 : Int32) (ho0 : Ok o0 5) (r : Int32) (σ' : Mem) (h : sp_L_of n σ o0 a1 a2 = some (r, σ')) : MM yL_of wu_L_of rm_L_of [.ref (G.2.2 (o0)), .int (a1), .int (a2)] G σ (.inl (some (.int r))) σ' := by
  refine mm_ofW (cc := cL_of) (maxL := 4) (ret := (some .int)) (by decide +kernel) rfl (Nat.le_of_ble_eq_true rfl) (fun x C X hg => ?_)
  have C : Cx x cL_of 4 RL (some .int) (tableOf [(0, 57, 128, 31), (58, 63, 128, 31), (64, 69, 128, 31), (70, 75, 128, 31), (76, 81, 128, 31), (82, 95, 128, 31), (96, 101, 128, 31), (102, 107, 128, 31), (108, 113, 128, 31), (114, 127, 128, 31), (0, 57, 133, 67), (58, 63, 133, 67), (64, 69, 133, 67), (70, 75, 133, 67), (76, 81, 133, 67), (82, 95, 133, 67), (96, 101, 133, 67), (102, 107, 133, 67), (108, 113, 133, 67), (114, 127, 133, 67)]) wu_L_of rm_L_of G.1 (tysF G) := C
  unfold sp_L_of at h
  show J x [(0, .ref (G.2.2 (o0))), (1, .int (a1)), (2, .int (a2))] [] σ 0 0 0
  refine j_iload_n C dL_of_0 2 rfl ?_
  by_cases c1 : a2 = 0
  · rw [if_pos c1] at h
    refine j_tableIn C dL_of_1 (off := 51) (tgt := 52) (by rw [c1]; decide) (by rw [c1]; decide) (by rw [c1]; rfl) (by decide) ?_
    refine j_aload_n C dL_of_52 0 rfl ?_
    refine j_iload_n C dL_of_53 1 rfl ?_
    obtain ⟨⟨r2, σ3⟩, h4, h⟩ := ob h
    try dsimp only at h
    rcases r2 with r2 | r2 <;> (try dsimp only at h)
    · refine j_callV C X (c_X5_depthOf n G σ o0 a1 ho0 _ _ h4) dL_of_54 (gV u_339 u_341 u_342 u_211 u_340) rfl hy_X5_depthOf rfl ho0 rfl (ci := 9) rfl rfl rfl (by decide) (Nat.le_of_ble_eq_true rfl) (by decide) ?_
      exact j_ireturn C dL_of_57 (e_i h hg) (by decide) (by decide)
    · by_cases c8 : r2 = "java/lang/IndexOutOfBoundsException"
      · subst c8
        have h := (if_pos rfl).symm.trans h
        refine j_catV C X (c_X5_depthOf n G σ o0 a1 ho0 _ _ h4) dL_of_54 (gV u_339 u_341 u_342 u_211 u_340) rfl hy_X5_depthOf rfl ho0 rfl (ci := 9) rfl rfl rfl (by decide) (Nat.le_of_ble_eq_true rfl) (by decide) [] ⟨0, 57, 128, 31⟩ [⟨58, 63, 128, 31⟩, ⟨64, 69, 128, 31⟩, ⟨70, 75, 128, 31⟩, ⟨76, 81, 128, 31⟩, ⟨82, 95, 128, 31⟩, ⟨96, 101, 128, 31⟩, ⟨102, 107, 128, 31⟩, ⟨108, 113, 128, 31⟩, ⟨114, 127, 128, 31⟩, ⟨0, 57, 133, 67⟩, ⟨58, 63, 133, 67⟩, ⟨64, 69, 133, 67⟩, ⟨70, 75, 133, 67⟩, ⟨76, 81, 133, 67⟩, ⟨82, 95, 133, 67⟩, ⟨96, 101, 133, 67⟩, ⟨102, 107, 133, 67⟩, ⟨108, 113, 133, 67⟩, ⟨114, 127, 133, 67⟩] rfl (fun z hz => by cases hz) (by decide) (by decide) (mU u_334) (by decide) (fun q7 => ?_)
        refine j_astore_n C dL_of_128 (by decide) [(3, .ref q7), (0, .ref (G.2.2 (o0))), (1, .int (a1)), (2, .int (a2))] rfl ?_
        refine j_sipush C dL_of_129 ((-1001 : Int32)) (by decide) ?_
        exact j_ireturn C dL_of_132 (e_i h hg) (by decide) (by decide)
      have h := (if_neg c8).symm.trans h
      by_cases c6 : r2 = "java/util/NoSuchElementException"
      · subst c6
        have h := (if_pos rfl).symm.trans h
        refine j_catV C X (c_X5_depthOf n G σ o0 a1 ho0 _ _ h4) dL_of_54 (gV u_339 u_341 u_342 u_211 u_340) rfl hy_X5_depthOf rfl ho0 rfl (ci := 9) rfl rfl rfl (by decide) (Nat.le_of_ble_eq_true rfl) (by decide) [⟨0, 57, 128, 31⟩, ⟨58, 63, 128, 31⟩, ⟨64, 69, 128, 31⟩, ⟨70, 75, 128, 31⟩, ⟨76, 81, 128, 31⟩, ⟨82, 95, 128, 31⟩, ⟨96, 101, 128, 31⟩, ⟨102, 107, 128, 31⟩, ⟨108, 113, 128, 31⟩, ⟨114, 127, 128, 31⟩] ⟨0, 57, 133, 67⟩ [⟨58, 63, 133, 67⟩, ⟨64, 69, 133, 67⟩, ⟨70, 75, 133, 67⟩, ⟨76, 81, 133, 67⟩, ⟨82, 95, 133, 67⟩, ⟨96, 101, 133, 67⟩, ⟨102, 107, 133, 67⟩, ⟨108, 113, 133, 67⟩, ⟨114, 127, 133, 67⟩] rfl (fun z hz => by rcases List.mem_cons.mp hz with rfl | hz; exact Or.inr ⟨by decide, "java/lang/IndexOutOfBoundsException", (mU u_334), by decide, by decide⟩; rcases List.mem_cons.mp hz with rfl | hz; exact Or.inl (by decide); rcases List.mem_cons.mp hz with rfl | hz; exact Or.inl (by decide); rcases List.mem_cons.mp hz with rfl | hz; exact Or.inl (by decide); rcases List.mem_cons.mp hz with rfl | hz; exact Or.inl (by decide); rcases List.mem_cons.mp hz with rfl | hz; exact Or.inl (by decide); rcases List.mem_cons.mp hz with rfl | hz; exact Or.inl (by decide); rcases List.mem_cons.mp hz with rfl | hz; exact Or.inl (by decide); rcases List.mem_cons.mp hz with rfl | hz; exact Or.inl (by decide); rcases List.mem_cons.mp hz with rfl | hz; exact Or.inl (by decide); cases hz) (by decide) (by decide) (mU u_343) (by decide) (fun q5 => ?_)
        refine j_astore_n C dL_of_133 (by decide) [(3, .ref q5), (0, .ref (G.2.2 (o0))), (1, .int (a1)), (2, .int (a2))] rfl ?_
        refine j_sipush C dL_of_134 ((-1002 : Int32)) (by decide) ?_
        exact j_ireturn C dL_of_137 (e_i h hg) (by decide) (by decide)
      have h := (if_neg c6).symm.trans h
      cases h
  rw [if_neg c1] at h
  by_cases c9 : a2 = 1
  · rw [if_pos c9] at h
    refine j_tableIn C dL_of_1 (off := 57) (tgt := 58) (by rw [c9]; decide) (by rw [c9]; decide) (by rw [c9]; rfl) (by decide) ?_
    refine j_aload_n C dL_of_58 0 rfl ?_
    refine j_iload_n C dL_of_59 1 rfl ?_
    obtain ⟨⟨r10, σ11⟩, h12, h⟩ := ob h
    try dsimp only at h
    rcases r10 with r10 | r10 <;> (try dsimp only at h)
    · refine j_callV C X (c_X5_airOf n G σ o0 a1 ho0 _ _ h12) dL_of_60 (gV u_344 u_346 u_347 u_211 u_345) rfl hy_X5_airOf rfl ho0 rfl (ci := 9) rfl rfl rfl (by decide) (Nat.le_of_ble_eq_true rfl) (by decide) ?_
      exact j_ireturn C dL_of_63 (e_i h hg) (by decide) (by decide)
    · by_cases c16 : r10 = "java/lang/IndexOutOfBoundsException"
      · subst c16
        have h := (if_pos rfl).symm.trans h
        refine j_catV C X (c_X5_airOf n G σ o0 a1 ho0 _ _ h12) dL_of_60 (gV u_344 u_346 u_347 u_211 u_345) rfl hy_X5_airOf rfl ho0 rfl (ci := 9) rfl rfl rfl (by decide) (Nat.le_of_ble_eq_true rfl) (by decide) [⟨0, 57, 128, 31⟩] ⟨58, 63, 128, 31⟩ [⟨64, 69, 128, 31⟩, ⟨70, 75, 128, 31⟩, ⟨76, 81, 128, 31⟩, ⟨82, 95, 128, 31⟩, ⟨96, 101, 128, 31⟩, ⟨102, 107, 128, 31⟩, ⟨108, 113, 128, 31⟩, ⟨114, 127, 128, 31⟩, ⟨0, 57, 133, 67⟩, ⟨58, 63, 133, 67⟩, ⟨64, 69, 133, 67⟩, ⟨70, 75, 133, 67⟩, ⟨76, 81, 133, 67⟩, ⟨82, 95, 133, 67⟩, ⟨96, 101, 133, 67⟩, ⟨102, 107, 133, 67⟩, ⟨108, 113, 133, 67⟩, ⟨114, 127, 133, 67⟩] rfl (fun z hz => by rcases List.mem_cons.mp hz with rfl | hz; exact Or.inl (by decide); cases hz) (by decide) (by decide) (mU u_334) (by decide) (fun q15 => ?_)
        refine j_astore_n C dL_of_128 (by decide) [(3, .ref q15), (0, .ref (G.2.2 (o0))), (1, .int (a1)), (2, .int (a2))] rfl ?_
        refine j_sipush C dL_of_129 ((-1001 : Int32)) (by decide) ?_
        exact j_ireturn C dL_of_132 (e_i h hg) (by decide) (by decide)
      have h := (if_neg c16).symm.trans h
      by_cases c14 : r10 = "java/util/NoSuchElementException"
      · subst c14
        have h := (if_pos rfl).symm.trans h
        refine j_catV C X (c_X5_airOf n G σ o0 a1 ho0 _ _ h12) dL_of_60 (gV u_344 u_346 u_347 u_211 u_345) rfl hy_X5_airOf rfl ho0 rfl (ci := 9) rfl rfl rfl (by decide) (Nat.le_of_ble_eq_true rfl) (by decide) [⟨0, 57, 128, 31⟩, ⟨58, 63, 128, 31⟩, ⟨64, 69, 128, 31⟩, ⟨70, 75, 128, 31⟩, ⟨76, 81, 128, 31⟩, ⟨82, 95, 128, 31⟩, ⟨96, 101, 128, 31⟩, ⟨102, 107, 128, 31⟩, ⟨108, 113, 128, 31⟩, ⟨114, 127, 128, 31⟩, ⟨0, 57, 133, 67⟩] ⟨58, 63, 133, 67⟩ [⟨64, 69, 133, 67⟩, ⟨70, 75, 133, 67⟩, ⟨76, 81, 133, 67⟩, ⟨82, 95, 133, 67⟩, ⟨96, 101, 133, 67⟩, ⟨102, 107, 133, 67⟩, ⟨108, 113, 133, 67⟩, ⟨114, 127, 133, 67⟩] rfl (fun z hz => by rcases List.mem_cons.mp hz with rfl | hz; exact Or.inl (by decide); rcases List.mem_cons.mp hz with rfl | hz; exact Or.inr ⟨by decide, "java/lang/IndexOutOfBoundsException", (mU u_334), by decide, by decide⟩; rcases List.mem_cons.mp hz with rfl | hz; exact Or.inl (by decide); rcases List.mem_cons.mp hz with rfl | hz; exact Or.inl (by decide); rcases List.mem_cons.mp hz with rfl | hz; exact Or.inl (by decide); rcases List.mem_cons.mp hz with rfl | hz; exact Or.inl (by decide); rcases List.mem_cons.mp hz with rfl | hz; exact Or.inl (by decide); rcases List.mem_cons.mp hz with rfl | hz; exact Or.inl (by decide); rcases List.mem_cons.mp hz with rfl | hz; exact Or.inl (by decide); rcases List.mem_cons.mp hz with rfl | hz; exact Or.inl (by decide); rcases List.mem_cons.mp hz with rfl | hz; exact Or.inl (by decide); cases hz) (by decide) (by decide) (mU u_343) (by decide) (fun q13 => ?_)
        refine j_astore_n C dL_of_133 (by decide) [(3, .ref q13), (0, .ref (G.2.2 (o0))), (1, .int (a1)), (2, .int (a2))] rfl ?_
        refine j_sipush C dL_of_134 ((-1002 : Int32)) (by decide) ?_
        exact j_ireturn C dL_of_137 (e_i h hg) (by decide) (by decide)
      have h := (if_neg c14).symm.trans h
      cases h
  rw [if_neg c9] at h
  by_cases c17 : a2 = 2
  · rw [if_pos c17] at h
    refine j_tableIn C dL_of_1 (off := 63) (tgt := 64) (by rw [c17]; decide) (by rw [c17]; decide) (by rw [c17]; rfl) (by decide) ?_
    refine j_aload_n C dL_of_64 0 rfl ?_
    refine j_iload_n C dL_of_65 1 rfl ?_
    obtain ⟨⟨r18, σ19⟩, h20, h⟩ := ob h
    try dsimp only at h
    rcases r18 with r18 | r18 <;> (try dsimp only at h)
    · refine j_callV C X (c_X5_airByPaths n G σ o0 a1 ho0 _ _ h20) dL_of_66 (gV u_348 u_350 u_351 u_211 u_349) rfl hy_X5_airByPaths rfl ho0 rfl (ci := 9) rfl rfl rfl (by decide) (Nat.le_of_ble_eq_true rfl) (by decide) ?_
      exact j_ireturn C dL_of_69 (e_i h hg) (by decide) (by decide)
    · by_cases c24 : r18 = "java/lang/IndexOutOfBoundsException"
      · subst c24
        have h := (if_pos rfl).symm.trans h
        refine j_catV C X (c_X5_airByPaths n G σ o0 a1 ho0 _ _ h20) dL_of_66 (gV u_348 u_350 u_351 u_211 u_349) rfl hy_X5_airByPaths rfl ho0 rfl (ci := 9) rfl rfl rfl (by decide) (Nat.le_of_ble_eq_true rfl) (by decide) [⟨0, 57, 128, 31⟩, ⟨58, 63, 128, 31⟩] ⟨64, 69, 128, 31⟩ [⟨70, 75, 128, 31⟩, ⟨76, 81, 128, 31⟩, ⟨82, 95, 128, 31⟩, ⟨96, 101, 128, 31⟩, ⟨102, 107, 128, 31⟩, ⟨108, 113, 128, 31⟩, ⟨114, 127, 128, 31⟩, ⟨0, 57, 133, 67⟩, ⟨58, 63, 133, 67⟩, ⟨64, 69, 133, 67⟩, ⟨70, 75, 133, 67⟩, ⟨76, 81, 133, 67⟩, ⟨82, 95, 133, 67⟩, ⟨96, 101, 133, 67⟩, ⟨102, 107, 133, 67⟩, ⟨108, 113, 133, 67⟩, ⟨114, 127, 133, 67⟩] rfl (fun z hz => by rcases List.mem_cons.mp hz with rfl | hz; exact Or.inl (by decide); rcases List.mem_cons.mp hz with rfl | hz; exact Or.inl (by decide); cases hz) (by decide) (by decide) (mU u_334) (by decide) (fun q23 => ?_)
        refine j_astore_n C dL_of_128 (by decide) [(3, .ref q23), (0, .ref (G.2.2 (o0))), (1, .int (a1)), (2, .int (a2))] rfl ?_
        refine j_sipush C dL_of_129 ((-1001 : Int32)) (by decide) ?_
        exact j_ireturn C dL_of_132 (e_i h hg) (by decide) (by decide)
      have h := (if_neg c24).symm.trans h
      by_cases c22 : r18 = "java/util/NoSuchElementException"
      · subst c22
        have h := (if_pos rfl).symm.trans h
        refine j_catV C X (c_X5_airByPaths n G σ o0 a1 ho0 _ _ h20) dL_of_66 (gV u_348 u_350 u_351 u_211 u_349) rfl hy_X5_airByPaths rfl ho0 rfl (ci := 9) rfl rfl rfl (by decide) (Nat.le_of_ble_eq_true rfl) (by decide) [⟨0, 57, 128, 31⟩, ⟨58, 63, 128, 31⟩, ⟨64, 69, 128, 31⟩, ⟨70, 75, 128, 31⟩, ⟨76, 81, 128, 31⟩, ⟨82, 95, 128, 31⟩, ⟨96, 101, 128, 31⟩, ⟨102, 107, 128, 31⟩, ⟨108, 113, 128, 31⟩, ⟨114, 127, 128, 31⟩, ⟨0, 57, 133, 67⟩, ⟨58, 63, 133, 67⟩] ⟨64, 69, 133, 67⟩ [⟨70, 75, 133, 67⟩, ⟨76, 81, 133, 67⟩, ⟨82, 95, 133, 67⟩, ⟨96, 101, 133, 67⟩, ⟨102, 107, 133, 67⟩, ⟨108, 113, 133, 67⟩, ⟨114, 127, 133, 67⟩] rfl (fun z hz => by rcases List.mem_cons.mp hz with rfl | hz; exact Or.inl (by decide); rcases List.mem_cons.mp hz with rfl | hz; exact Or.inl (by decide); rcases List.mem_cons.mp hz with rfl | hz; exact Or.inr ⟨by decide, "java/lang/IndexOutOfBoundsException", (mU u_334), by decide, by decide⟩; rcases List.mem_cons.mp hz with rfl | hz; exact Or.inl (by decide); rcases List.mem_cons.mp hz with rfl | hz; exact Or.inl (by decide); rcases List.mem_cons.mp hz with rfl | hz; exact Or.inl (by decide); rcases List.mem_cons.mp hz with rfl | hz; exact Or.inl (by decide); rcases List.mem_cons.mp hz with rfl | hz; exact Or.inl (by decide); rcases List.mem_cons.mp hz with rfl | hz; exact Or.inl (by decide); rcases List.mem_cons.mp hz with rfl | hz; exact Or.inl (by decide); rcases List.mem_cons.mp hz with rfl | hz; exact Or.inl (by decide); rcases List.mem_cons.mp hz with rfl | hz; exact Or.inl (by decide); cases hz) (by decide) (by decide) (mU u_343) (by decide) (fun q21 => ?_)
        refine j_astore_n C dL_of_133 (by decide) [(3, .ref q21), (0, .ref (G.2.2 (o0))), (1, .int (a1)), (2, .int (a2))] rfl ?_
        refine j_sipush C dL_of_134 ((-1002 : Int32)) (by decide) ?_
        exact j_ireturn C dL_of_137 (e_i h hg) (by decide) (by decide)
      have h := (if_neg c22).symm.trans h
      cases h
  rw [if_neg c17] at h
  by_cases c25 : a2 = 3
  · rw [if_pos c25] at h
    refine j_tableIn C dL_of_1 (off := 69) (tgt := 70) (by rw [c25]; decide) (by rw [c25]; decide) (by rw [c25]; rfl) (by decide) ?_
    refine j_aload_n C dL_of_70 0 rfl ?_
    refine j_iload_n C dL_of_71 1 rfl ?_
    obtain ⟨⟨r26, σ27⟩, h28, h⟩ := ob h
    try dsimp only at h
    rcases r26 with r26 | r26 <;> (try dsimp only at h)
    · refine j_callV C X (c_X5_gasOf n G σ o0 a1 ho0 _ _ h28) dL_of_72 (gV u_352 u_354 u_355 u_211 u_353) rfl hy_X5_gasOf rfl ho0 rfl (ci := 9) rfl rfl rfl (by decide) (Nat.le_of_ble_eq_true rfl) (by decide) ?_
      exact j_ireturn C dL_of_75 (e_i h hg) (by decide) (by decide)
    · by_cases c32 : r26 = "java/lang/IndexOutOfBoundsException"
      · subst c32
        have h := (if_pos rfl).symm.trans h
        refine j_catV C X (c_X5_gasOf n G σ o0 a1 ho0 _ _ h28) dL_of_72 (gV u_352 u_354 u_355 u_211 u_353) rfl hy_X5_gasOf rfl ho0 rfl (ci := 9) rfl rfl rfl (by decide) (Nat.le_of_ble_eq_true rfl) (by decide) [⟨0, 57, 128, 31⟩, ⟨58, 63, 128, 31⟩, ⟨64, 69, 128, 31⟩] ⟨70, 75, 128, 31⟩ [⟨76, 81, 128, 31⟩, ⟨82, 95, 128, 31⟩, ⟨96, 101, 128, 31⟩, ⟨102, 107, 128, 31⟩, ⟨108, 113, 128, 31⟩, ⟨114, 127, 128, 31⟩, ⟨0, 57, 133, 67⟩, ⟨58, 63, 133, 67⟩, ⟨64, 69, 133, 67⟩, ⟨70, 75, 133, 67⟩, ⟨76, 81, 133, 67⟩, ⟨82, 95, 133, 67⟩, ⟨96, 101, 133, 67⟩, ⟨102, 107, 133, 67⟩, ⟨108, 113, 133, 67⟩, ⟨114, 127, 133, 67⟩] rfl (fun z hz => by rcases List.mem_cons.mp hz with rfl | hz; exact Or.inl (by decide); rcases List.mem_cons.mp hz with rfl | hz; exact Or.inl (by decide); rcases List.mem_cons.mp hz with rfl | hz; exact Or.inl (by decide); cases hz) (by decide) (by decide) (mU u_334) (by decide) (fun q31 => ?_)
        refine j_astore_n C dL_of_128 (by decide) [(3, .ref q31), (0, .ref (G.2.2 (o0))), (1, .int (a1)), (2, .int (a2))] rfl ?_
        refine j_sipush C dL_of_129 ((-1001 : Int32)) (by decide) ?_
        exact j_ireturn C dL_of_132 (e_i h hg) (by decide) (by decide)
      have h := (if_neg c32).symm.trans h
      by_cases c30 : r26 = "java/util/NoSuchElementException"
      · subst c30
        have h := (if_pos rfl).symm.trans h
        refine j_catV C X (c_X5_gasOf n G σ o0 a1 ho0 _ _ h28) dL_of_72 (gV u_352 u_354 u_355 u_211 u_353) rfl hy_X5_gasOf rfl ho0 rfl (ci := 9) rfl rfl rfl (by decide) (Nat.le_of_ble_eq_true rfl) (by decide) [⟨0, 57, 128, 31⟩, ⟨58, 63, 128, 31⟩, ⟨64, 69, 128, 31⟩, ⟨70, 75, 128, 31⟩, ⟨76, 81, 128, 31⟩, ⟨82, 95, 128, 31⟩, ⟨96, 101, 128, 31⟩, ⟨102, 107, 128, 31⟩, ⟨108, 113, 128, 31⟩, ⟨114, 127, 128, 31⟩, ⟨0, 57, 133, 67⟩, ⟨58, 63, 133, 67⟩, ⟨64, 69, 133, 67⟩] ⟨70, 75, 133, 67⟩ [⟨76, 81, 133, 67⟩, ⟨82, 95, 133, 67⟩, ⟨96, 101, 133, 67⟩, ⟨102, 107, 133, 67⟩, ⟨108, 113, 133, 67⟩, ⟨114, 127, 133, 67⟩] rfl (fun z hz => by rcases List.mem_cons.mp hz with rfl | hz; exact Or.inl (by decide); rcases List.mem_cons.mp hz with rfl | hz; exact Or.inl (by decide); rcases List.mem_cons.mp hz with rfl | hz; exact Or.inl (by decide); rcases List.mem_cons.mp hz with rfl | hz; exact Or.inr ⟨by decide, "java/lang/IndexOutOfBoundsException", (mU u_334), by decide, by decide⟩; rcases List.mem_cons.mp hz with rfl | hz; exact Or.inl (by decide); rcases List.mem_cons.mp hz with rfl | hz; exact Or.inl (by decide); rcases List.mem_cons.mp hz with rfl | hz; exact Or.inl (by decide); rcases List.mem_cons.mp hz with rfl | hz; exact Or.inl (by decide); rcases List.mem_cons.mp hz with rfl | hz; exact Or.inl (by decide); rcases List.mem_cons.mp hz with rfl | hz; exact Or.inl (by decide); rcases List.mem_cons.mp hz with rfl | hz; exact Or.inl (by decide); rcases List.mem_cons.mp hz with rfl | hz; exact Or.inl (by decide); rcases List.mem_cons.mp hz with rfl | hz; exact Or.inl (by decide); cases hz) (by decide) (by decide) (mU u_343) (by decide) (fun q29 => ?_)
        refine j_astore_n C dL_of_133 (by decide) [(3, .ref q29), (0, .ref (G.2.2 (o0))), (1, .int (a1)), (2, .int (a2))] rfl ?_
        refine j_sipush C dL_of_134 ((-1002 : Int32)) (by decide) ?_
        exact j_ireturn C dL_of_137 (e_i h hg) (by decide) (by decide)
      have h := (if_neg c30).symm.trans h
      cases h
  rw [if_neg c25] at h
  by_cases c33 : a2 = 4
  · rw [if_pos c33] at h
    refine j_tableIn C dL_of_1 (off := 75) (tgt := 76) (by rw [c33]; decide) (by rw [c33]; decide) (by rw [c33]; rfl) (by decide) ?_
    refine j_aload_n C dL_of_76 0 rfl ?_
    refine j_iload_n C dL_of_77 1 rfl ?_
    obtain ⟨⟨r34, σ35⟩, h36, h⟩ := ob h
    try dsimp only at h
    rcases r34 with r34 | r34 <;> (try dsimp only at h)
    · refine j_callV C X (c_X5_gasShare n G σ o0 a1 ho0 _ _ h36) dL_of_78 (gV u_356 u_358 u_359 u_211 u_357) rfl hy_X5_gasShare rfl ho0 rfl (ci := 9) rfl rfl rfl (by decide) (Nat.le_of_ble_eq_true rfl) (by decide) ?_
      exact j_ireturn C dL_of_81 (e_i h hg) (by decide) (by decide)
    · by_cases c40 : r34 = "java/lang/IndexOutOfBoundsException"
      · subst c40
        have h := (if_pos rfl).symm.trans h
        refine j_catV C X (c_X5_gasShare n G σ o0 a1 ho0 _ _ h36) dL_of_78 (gV u_356 u_358 u_359 u_211 u_357) rfl hy_X5_gasShare rfl ho0 rfl (ci := 9) rfl rfl rfl (by decide) (Nat.le_of_ble_eq_true rfl) (by decide) [⟨0, 57, 128, 31⟩, ⟨58, 63, 128, 31⟩, ⟨64, 69, 128, 31⟩, ⟨70, 75, 128, 31⟩] ⟨76, 81, 128, 31⟩ [⟨82, 95, 128, 31⟩, ⟨96, 101, 128, 31⟩, ⟨102, 107, 128, 31⟩, ⟨108, 113, 128, 31⟩, ⟨114, 127, 128, 31⟩, ⟨0, 57, 133, 67⟩, ⟨58, 63, 133, 67⟩, ⟨64, 69, 133, 67⟩, ⟨70, 75, 133, 67⟩, ⟨76, 81, 133, 67⟩, ⟨82, 95, 133, 67⟩, ⟨96, 101, 133, 67⟩, ⟨102, 107, 133, 67⟩, ⟨108, 113, 133, 67⟩, ⟨114, 127, 133, 67⟩] rfl (fun z hz => by rcases List.mem_cons.mp hz with rfl | hz; exact Or.inl (by decide); rcases List.mem_cons.mp hz with rfl | hz; exact Or.inl (by decide); rcases List.mem_cons.mp hz with rfl | hz; exact Or.inl (by decide); rcases List.mem_cons.mp hz with rfl | hz; exact Or.inl (by decide); cases hz) (by decide) (by decide) (mU u_334) (by decide) (fun q39 => ?_)
        refine j_astore_n C dL_of_128 (by decide) [(3, .ref q39), (0, .ref (G.2.2 (o0))), (1, .int (a1)), (2, .int (a2))] rfl ?_
        refine j_sipush C dL_of_129 ((-1001 : Int32)) (by decide) ?_
        exact j_ireturn C dL_of_132 (e_i h hg) (by decide) (by decide)
      have h := (if_neg c40).symm.trans h
      by_cases c38 : r34 = "java/util/NoSuchElementException"
      · subst c38
        have h := (if_pos rfl).symm.trans h
        refine j_catV C X (c_X5_gasShare n G σ o0 a1 ho0 _ _ h36) dL_of_78 (gV u_356 u_358 u_359 u_211 u_357) rfl hy_X5_gasShare rfl ho0 rfl (ci := 9) rfl rfl rfl (by decide) (Nat.le_of_ble_eq_true rfl) (by decide) [⟨0, 57, 128, 31⟩, ⟨58, 63, 128, 31⟩, ⟨64, 69, 128, 31⟩, ⟨70, 75, 128, 31⟩, ⟨76, 81, 128, 31⟩, ⟨82, 95, 128, 31⟩, ⟨96, 101, 128, 31⟩, ⟨102, 107, 128, 31⟩, ⟨108, 113, 128, 31⟩, ⟨114, 127, 128, 31⟩, ⟨0, 57, 133, 67⟩, ⟨58, 63, 133, 67⟩, ⟨64, 69, 133, 67⟩, ⟨70, 75, 133, 67⟩] ⟨76, 81, 133, 67⟩ [⟨82, 95, 133, 67⟩, ⟨96, 101, 133, 67⟩, ⟨102, 107, 133, 67⟩, ⟨108, 113, 133, 67⟩, ⟨114, 127, 133, 67⟩] rfl (fun z hz => by rcases List.mem_cons.mp hz with rfl | hz; exact Or.inl (by decide); rcases List.mem_cons.mp hz with rfl | hz; exact Or.inl (by decide); rcases List.mem_cons.mp hz with rfl | hz; exact Or.inl (by decide); rcases List.mem_cons.mp hz with rfl | hz; exact Or.inl (by decide); rcases List.mem_cons.mp hz with rfl | hz; exact Or.inr ⟨by decide, "java/lang/IndexOutOfBoundsException", (mU u_334), by decide, by decide⟩; rcases List.mem_cons.mp hz with rfl | hz; exact Or.inl (by decide); rcases List.mem_cons.mp hz with rfl | hz; exact Or.inl (by decide); rcases List.mem_cons.mp hz with rfl | hz; exact Or.inl (by decide); rcases List.mem_cons.mp hz with rfl | hz; exact Or.inl (by decide); rcases List.mem_cons.mp hz with rfl | hz; exact Or.inl (by decide); rcases List.mem_cons.mp hz with rfl | hz; exact Or.inl (by decide); rcases List.mem_cons.mp hz with rfl | hz; exact Or.inl (by decide); rcases List.mem_cons.mp hz with rfl | hz; exact Or.inl (by decide); rcases List.mem_cons.mp hz with rfl | hz; exact Or.inl (by decide); cases hz) (by decide) (by decide) (mU u_343) (by decide) (fun q37 => ?_)
        refine j_astore_n C dL_of_133 (by decide) [(3, .ref q37), (0, .ref (G.2.2 (o0))), (1, .int (a1)), (2, .int (a2))] rfl ?_
        refine j_sipush C dL_of_134 ((-1002 : Int32)) (by decide) ?_
        exact j_ireturn C dL_of_137 (e_i h hg) (by decide) (by decide)
      have h := (if_neg c38).symm.trans h
      cases h
  rw [if_neg c33] at h
  by_cases c41 : a2 = 5
  · rw [if_pos c41] at h
    refine j_tableIn C dL_of_1 (off := 81) (tgt := 82) (by rw [c41]; decide) (by rw [c41]; decide) (by rw [c41]; rfl) (by decide) ?_
    refine j_aload_n C dL_of_82 0 rfl ?_
    refine j_iload_n C dL_of_83 1 rfl ?_
    obtain ⟨⟨r42, σ43⟩, h44, h⟩ := ob h
    try dsimp only at h
    rcases r42 with r42 | r42 <;> (try dsimp only at h)
    · refine j_callV C X (c_X5_isAlarm n G σ o0 a1 ho0 _ _ h44) dL_of_84 (gV u_360 u_362 u_363 u_211 u_361) rfl hy_X5_isAlarm rfl ho0 rfl (ci := 9) rfl rfl rfl (by decide) (Nat.le_of_ble_eq_true rfl) (by decide) ?_
      refine j_if_eq C dL_of_87 94 (by decide) (fun c45 => ?_) (fun c45 => ?_)
      · have h := (if_pos c45).symm.trans h
        refine j_iconst C dL_of_94 ((0 : Int32)) (by decide) ?_
        exact j_ireturn C dL_of_95 (e_i h hg) (by decide) (by decide)
      · have h := (if_neg c45).symm.trans h
        refine j_iconst C dL_of_90 ((1 : Int32)) (by decide) ?_
        refine j_goto C dL_of_91 95 (by decide) ?_
        exact j_ireturn C dL_of_95 (e_i h hg) (by decide) (by decide)
    · by_cases c49 : r42 = "java/lang/IndexOutOfBoundsException"
      · subst c49
        have h := (if_pos rfl).symm.trans h
        refine j_catV C X (c_X5_isAlarm n G σ o0 a1 ho0 _ _ h44) dL_of_84 (gV u_360 u_362 u_363 u_211 u_361) rfl hy_X5_isAlarm rfl ho0 rfl (ci := 9) rfl rfl rfl (by decide) (Nat.le_of_ble_eq_true rfl) (by decide) [⟨0, 57, 128, 31⟩, ⟨58, 63, 128, 31⟩, ⟨64, 69, 128, 31⟩, ⟨70, 75, 128, 31⟩, ⟨76, 81, 128, 31⟩] ⟨82, 95, 128, 31⟩ [⟨96, 101, 128, 31⟩, ⟨102, 107, 128, 31⟩, ⟨108, 113, 128, 31⟩, ⟨114, 127, 128, 31⟩, ⟨0, 57, 133, 67⟩, ⟨58, 63, 133, 67⟩, ⟨64, 69, 133, 67⟩, ⟨70, 75, 133, 67⟩, ⟨76, 81, 133, 67⟩, ⟨82, 95, 133, 67⟩, ⟨96, 101, 133, 67⟩, ⟨102, 107, 133, 67⟩, ⟨108, 113, 133, 67⟩, ⟨114, 127, 133, 67⟩] rfl (fun z hz => by rcases List.mem_cons.mp hz with rfl | hz; exact Or.inl (by decide); rcases List.mem_cons.mp hz with rfl | hz; exact Or.inl (by decide); rcases List.mem_cons.mp hz with rfl | hz; exact Or.inl (by decide); rcases List.mem_cons.mp hz with rfl | hz; exact Or.inl (by decide); rcases List.mem_cons.mp hz with rfl | hz; exact Or.inl (by decide); cases hz) (by decide) (by decide) (mU u_334) (by decide) (fun q48 => ?_)
        refine j_astore_n C dL_of_128 (by decide) [(3, .ref q48), (0, .ref (G.2.2 (o0))), (1, .int (a1)), (2, .int (a2))] rfl ?_
        refine j_sipush C dL_of_129 ((-1001 : Int32)) (by decide) ?_
        exact j_ireturn C dL_of_132 (e_i h hg) (by decide) (by decide)
      have h := (if_neg c49).symm.trans h
      by_cases c47 : r42 = "java/util/NoSuchElementException"
      · subst c47
        have h := (if_pos rfl).symm.trans h
        refine j_catV C X (c_X5_isAlarm n G σ o0 a1 ho0 _ _ h44) dL_of_84 (gV u_360 u_362 u_363 u_211 u_361) rfl hy_X5_isAlarm rfl ho0 rfl (ci := 9) rfl rfl rfl (by decide) (Nat.le_of_ble_eq_true rfl) (by decide) [⟨0, 57, 128, 31⟩, ⟨58, 63, 128, 31⟩, ⟨64, 69, 128, 31⟩, ⟨70, 75, 128, 31⟩, ⟨76, 81, 128, 31⟩, ⟨82, 95, 128, 31⟩, ⟨96, 101, 128, 31⟩, ⟨102, 107, 128, 31⟩, ⟨108, 113, 128, 31⟩, ⟨114, 127, 128, 31⟩, ⟨0, 57, 133, 67⟩, ⟨58, 63, 133, 67⟩, ⟨64, 69, 133, 67⟩, ⟨70, 75, 133, 67⟩, ⟨76, 81, 133, 67⟩] ⟨82, 95, 133, 67⟩ [⟨96, 101, 133, 67⟩, ⟨102, 107, 133, 67⟩, ⟨108, 113, 133, 67⟩, ⟨114, 127, 133, 67⟩] rfl (fun z hz => by rcases List.mem_cons.mp hz with rfl | hz; exact Or.inl (by decide); rcases List.mem_cons.mp hz with rfl | hz; exact Or.inl (by decide); rcases List.mem_cons.mp hz with rfl | hz; exact Or.inl (by decide); rcases List.mem_cons.mp hz with rfl | hz; exact Or.inl (by decide); rcases List.mem_cons.mp hz with rfl | hz; exact Or.inl (by decide); rcases List.mem_cons.mp hz with rfl | hz; exact Or.inr ⟨by decide, "java/lang/IndexOutOfBoundsException", (mU u_334), by decide, by decide⟩; rcases List.mem_cons.mp hz with rfl | hz; exact Or.inl (by decide); rcases List.mem_cons.mp hz with rfl | hz; exact Or.inl (by decide); rcases List.mem_cons.mp hz with rfl | hz; exact Or.inl (by decide); rcases List.mem_cons.mp hz with rfl | hz; exact Or.inl (by decide); rcases List.mem_cons.mp hz with rfl | hz; exact Or.inl (by decide); rcases List.mem_cons.mp hz with rfl | hz; exact Or.inl (by decide); rcases List.mem_cons.mp hz with rfl | hz; exact Or.inl (by decide); rcases List.mem_cons.mp hz with rfl | hz; exact Or.inl (by decide); rcases List.mem_cons.mp hz with rfl | hz; exact Or.inl (by decide); cases hz) (by decide) (by decide) (mU u_343) (by decide) (fun q46 => ?_)
        refine j_astore_n C dL_of_133 (by decide) [(3, .ref q46), (0, .ref (G.2.2 (o0))), (1, .int (a1)), (2, .int (a2))] rfl ?_
        refine j_sipush C dL_of_134 ((-1002 : Int32)) (by decide) ?_
        exact j_ireturn C dL_of_137 (e_i h hg) (by decide) (by decide)
      have h := (if_neg c47).symm.trans h
      cases h
  rw [if_neg c41] at h
  by_cases c50 : a2 = 6
  · rw [if_pos c50] at h
    refine j_tableIn C dL_of_1 (off := 95) (tgt := 96) (by rw [c50]; decide) (by rw [c50]; decide) (by rw [c50]; rfl) (by decide) ?_
    refine j_aload_n C dL_of_96 0 rfl ?_
    refine j_iload_n C dL_of_97 1 rfl ?_
    obtain ⟨⟨r51, σ52⟩, h53, h⟩ := ob h
    try dsimp only at h
    rcases r51 with r51 | r51 <;> (try dsimp only at h)
    · refine j_callV C X (c_X5_minutesToAlarm n G σ o0 a1 ho0 _ _ h53) dL_of_98 (gV u_364 u_366 u_367 u_211 u_365) rfl hy_X5_minutesToAlarm rfl ho0 rfl (ci := 9) rfl rfl rfl (by decide) (Nat.le_of_ble_eq_true rfl) (by decide) ?_
      exact j_ireturn C dL_of_101 (e_i h hg) (by decide) (by decide)
    · by_cases c57 : r51 = "java/lang/IndexOutOfBoundsException"
      · subst c57
        have h := (if_pos rfl).symm.trans h
        refine j_catV C X (c_X5_minutesToAlarm n G σ o0 a1 ho0 _ _ h53) dL_of_98 (gV u_364 u_366 u_367 u_211 u_365) rfl hy_X5_minutesToAlarm rfl ho0 rfl (ci := 9) rfl rfl rfl (by decide) (Nat.le_of_ble_eq_true rfl) (by decide) [⟨0, 57, 128, 31⟩, ⟨58, 63, 128, 31⟩, ⟨64, 69, 128, 31⟩, ⟨70, 75, 128, 31⟩, ⟨76, 81, 128, 31⟩, ⟨82, 95, 128, 31⟩] ⟨96, 101, 128, 31⟩ [⟨102, 107, 128, 31⟩, ⟨108, 113, 128, 31⟩, ⟨114, 127, 128, 31⟩, ⟨0, 57, 133, 67⟩, ⟨58, 63, 133, 67⟩, ⟨64, 69, 133, 67⟩, ⟨70, 75, 133, 67⟩, ⟨76, 81, 133, 67⟩, ⟨82, 95, 133, 67⟩, ⟨96, 101, 133, 67⟩, ⟨102, 107, 133, 67⟩, ⟨108, 113, 133, 67⟩, ⟨114, 127, 133, 67⟩] rfl (fun z hz => by rcases List.mem_cons.mp hz with rfl | hz; exact Or.inl (by decide); rcases List.mem_cons.mp hz with rfl | hz; exact Or.inl (by decide); rcases List.mem_cons.mp hz with rfl | hz; exact Or.inl (by decide); rcases List.mem_cons.mp hz with rfl | hz; exact Or.inl (by decide); rcases List.mem_cons.mp hz with rfl | hz; exact Or.inl (by decide); rcases List.mem_cons.mp hz with rfl | hz; exact Or.inl (by decide); cases hz) (by decide) (by decide) (mU u_334) (by decide) (fun q56 => ?_)
        refine j_astore_n C dL_of_128 (by decide) [(3, .ref q56), (0, .ref (G.2.2 (o0))), (1, .int (a1)), (2, .int (a2))] rfl ?_
        refine j_sipush C dL_of_129 ((-1001 : Int32)) (by decide) ?_
        exact j_ireturn C dL_of_132 (e_i h hg) (by decide) (by decide)
      have h := (if_neg c57).symm.trans h
      by_cases c55 : r51 = "java/util/NoSuchElementException"
      · subst c55
        have h := (if_pos rfl).symm.trans h
        refine j_catV C X (c_X5_minutesToAlarm n G σ o0 a1 ho0 _ _ h53) dL_of_98 (gV u_364 u_366 u_367 u_211 u_365) rfl hy_X5_minutesToAlarm rfl ho0 rfl (ci := 9) rfl rfl rfl (by decide) (Nat.le_of_ble_eq_true rfl) (by decide) [⟨0, 57, 128, 31⟩, ⟨58, 63, 128, 31⟩, ⟨64, 69, 128, 31⟩, ⟨70, 75, 128, 31⟩, ⟨76, 81, 128, 31⟩, ⟨82, 95, 128, 31⟩, ⟨96, 101, 128, 31⟩, ⟨102, 107, 128, 31⟩, ⟨108, 113, 128, 31⟩, ⟨114, 127, 128, 31⟩, ⟨0, 57, 133, 67⟩, ⟨58, 63, 133, 67⟩, ⟨64, 69, 133, 67⟩, ⟨70, 75, 133, 67⟩, ⟨76, 81, 133, 67⟩, ⟨82, 95, 133, 67⟩] ⟨96, 101, 133, 67⟩ [⟨102, 107, 133, 67⟩, ⟨108, 113, 133, 67⟩, ⟨114, 127, 133, 67⟩] rfl (fun z hz => by rcases List.mem_cons.mp hz with rfl | hz; exact Or.inl (by decide); rcases List.mem_cons.mp hz with rfl | hz; exact Or.inl (by decide); rcases List.mem_cons.mp hz with rfl | hz; exact Or.inl (by decide); rcases List.mem_cons.mp hz with rfl | hz; exact Or.inl (by decide); rcases List.mem_cons.mp hz with rfl | hz; exact Or.inl (by decide); rcases List.mem_cons.mp hz with rfl | hz; exact Or.inl (by decide); rcases List.mem_cons.mp hz with rfl | hz; exact Or.inr ⟨by decide, "java/lang/IndexOutOfBoundsException", (mU u_334), by decide, by decide⟩; rcases List.mem_cons.mp hz with rfl | hz; exact Or.inl (by decide); rcases List.mem_cons.mp hz with rfl | hz; exact Or.inl (by decide); rcases List.mem_cons.mp hz with rfl | hz; exact Or.inl (by decide); rcases List.mem_cons.mp hz with rfl | hz; exact Or.inl (by decide); rcases List.mem_cons.mp hz with rfl | hz; exact Or.inl (by decide); rcases List.mem_cons.mp hz with rfl | hz; exact Or.inl (by decide); rcases List.mem_cons.mp hz with rfl | hz; exact Or.inl (by decide); rcases List.mem_cons.mp hz with rfl | hz; exact Or.inl (by decide); rcases List.mem_cons.mp hz with rfl | hz; exact Or.inl (by decide); cases hz) (by decide) (by decide) (mU u_343) (by decide) (fun q54 => ?_)
        refine j_astore_n C dL_of_133 (by decide) [(3, .ref q54), (0, .ref (G.2.2 (o0))), (1, .int (a1)), (2, .int (a2))] rfl ?_
        refine j_sipush C dL_of_134 ((-1002 : Int32)) (by decide) ?_
        exact j_ireturn C dL_of_137 (e_i h hg) (by decide) (by decide)
      have h := (if_neg c55).symm.trans h
      cases h
  rw [if_neg c50] at h
  by_cases c58 : a2 = 7
  · rw [if_pos c58] at h
    refine j_tableIn C dL_of_1 (off := 101) (tgt := 102) (by rw [c58]; decide) (by rw [c58]; decide) (by rw [c58]; rfl) (by decide) ?_
    refine j_aload_n C dL_of_102 0 rfl ?_
    refine j_iload_n C dL_of_103 1 rfl ?_
    obtain ⟨⟨r59, σ60⟩, h61, h⟩ := ob h
    try dsimp only at h
    rcases r59 with r59 | r59 <;> (try dsimp only at h)
    · refine j_callV C X (c_X5_peopleAt n G σ o0 a1 ho0 _ _ h61) dL_of_104 (gV u_368 u_370 u_371 u_211 u_369) rfl hy_X5_peopleAt rfl ho0 rfl (ci := 9) rfl rfl rfl (by decide) (Nat.le_of_ble_eq_true rfl) (by decide) ?_
      exact j_ireturn C dL_of_107 (e_i h hg) (by decide) (by decide)
    · by_cases c65 : r59 = "java/lang/IndexOutOfBoundsException"
      · subst c65
        have h := (if_pos rfl).symm.trans h
        refine j_catV C X (c_X5_peopleAt n G σ o0 a1 ho0 _ _ h61) dL_of_104 (gV u_368 u_370 u_371 u_211 u_369) rfl hy_X5_peopleAt rfl ho0 rfl (ci := 9) rfl rfl rfl (by decide) (Nat.le_of_ble_eq_true rfl) (by decide) [⟨0, 57, 128, 31⟩, ⟨58, 63, 128, 31⟩, ⟨64, 69, 128, 31⟩, ⟨70, 75, 128, 31⟩, ⟨76, 81, 128, 31⟩, ⟨82, 95, 128, 31⟩, ⟨96, 101, 128, 31⟩] ⟨102, 107, 128, 31⟩ [⟨108, 113, 128, 31⟩, ⟨114, 127, 128, 31⟩, ⟨0, 57, 133, 67⟩, ⟨58, 63, 133, 67⟩, ⟨64, 69, 133, 67⟩, ⟨70, 75, 133, 67⟩, ⟨76, 81, 133, 67⟩, ⟨82, 95, 133, 67⟩, ⟨96, 101, 133, 67⟩, ⟨102, 107, 133, 67⟩, ⟨108, 113, 133, 67⟩, ⟨114, 127, 133, 67⟩] rfl (fun z hz => by rcases List.mem_cons.mp hz with rfl | hz; exact Or.inl (by decide); rcases List.mem_cons.mp hz with rfl | hz; exact Or.inl (by decide); rcases List.mem_cons.mp hz with rfl | hz; exact Or.inl (by decide); rcases List.mem_cons.mp hz with rfl | hz; exact Or.inl (by decide); rcases List.mem_cons.mp hz with rfl | hz; exact Or.inl (by decide); rcases List.mem_cons.mp hz with rfl | hz; exact Or.inl (by decide); rcases List.mem_cons.mp hz with rfl | hz; exact Or.inl (by decide); cases hz) (by decide) (by decide) (mU u_334) (by decide) (fun q64 => ?_)
        refine j_astore_n C dL_of_128 (by decide) [(3, .ref q64), (0, .ref (G.2.2 (o0))), (1, .int (a1)), (2, .int (a2))] rfl ?_
        refine j_sipush C dL_of_129 ((-1001 : Int32)) (by decide) ?_
        exact j_ireturn C dL_of_132 (e_i h hg) (by decide) (by decide)
      have h := (if_neg c65).symm.trans h
      by_cases c63 : r59 = "java/util/NoSuchElementException"
      · subst c63
        have h := (if_pos rfl).symm.trans h
        refine j_catV C X (c_X5_peopleAt n G σ o0 a1 ho0 _ _ h61) dL_of_104 (gV u_368 u_370 u_371 u_211 u_369) rfl hy_X5_peopleAt rfl ho0 rfl (ci := 9) rfl rfl rfl (by decide) (Nat.le_of_ble_eq_true rfl) (by decide) [⟨0, 57, 128, 31⟩, ⟨58, 63, 128, 31⟩, ⟨64, 69, 128, 31⟩, ⟨70, 75, 128, 31⟩, ⟨76, 81, 128, 31⟩, ⟨82, 95, 128, 31⟩, ⟨96, 101, 128, 31⟩, ⟨102, 107, 128, 31⟩, ⟨108, 113, 128, 31⟩, ⟨114, 127, 128, 31⟩, ⟨0, 57, 133, 67⟩, ⟨58, 63, 133, 67⟩, ⟨64, 69, 133, 67⟩, ⟨70, 75, 133, 67⟩, ⟨76, 81, 133, 67⟩, ⟨82, 95, 133, 67⟩, ⟨96, 101, 133, 67⟩] ⟨102, 107, 133, 67⟩ [⟨108, 113, 133, 67⟩, ⟨114, 127, 133, 67⟩] rfl (fun z hz => by rcases List.mem_cons.mp hz with rfl | hz; exact Or.inl (by decide); rcases List.mem_cons.mp hz with rfl | hz; exact Or.inl (by decide); rcases List.mem_cons.mp hz with rfl | hz; exact Or.inl (by decide); rcases List.mem_cons.mp hz with rfl | hz; exact Or.inl (by decide); rcases List.mem_cons.mp hz with rfl | hz; exact Or.inl (by decide); rcases List.mem_cons.mp hz with rfl | hz; exact Or.inl (by decide); rcases List.mem_cons.mp hz with rfl | hz; exact Or.inl (by decide); rcases List.mem_cons.mp hz with rfl | hz; exact Or.inr ⟨by decide, "java/lang/IndexOutOfBoundsException", (mU u_334), by decide, by decide⟩; rcases List.mem_cons.mp hz with rfl | hz; exact Or.inl (by decide); rcases List.mem_cons.mp hz with rfl | hz; exact Or.inl (by decide); rcases List.mem_cons.mp hz with rfl | hz; exact Or.inl (by decide); rcases List.mem_cons.mp hz with rfl | hz; exact Or.inl (by decide); rcases List.mem_cons.mp hz with rfl | hz; exact Or.inl (by decide); rcases List.mem_cons.mp hz with rfl | hz; exact Or.inl (by decide); rcases List.mem_cons.mp hz with rfl | hz; exact Or.inl (by decide); rcases List.mem_cons.mp hz with rfl | hz; exact Or.inl (by decide); rcases List.mem_cons.mp hz with rfl | hz; exact Or.inl (by decide); cases hz) (by decide) (by decide) (mU u_343) (by decide) (fun q62 => ?_)
        refine j_astore_n C dL_of_133 (by decide) [(3, .ref q62), (0, .ref (G.2.2 (o0))), (1, .int (a1)), (2, .int (a2))] rfl ?_
        refine j_sipush C dL_of_134 ((-1002 : Int32)) (by decide) ?_
        exact j_ireturn C dL_of_137 (e_i h hg) (by decide) (by decide)
      have h := (if_neg c63).symm.trans h
      cases h
  rw [if_neg c58] at h
  by_cases c66 : a2 = 8
  · rw [if_pos c66] at h
    refine j_tableIn C dL_of_1 (off := 107) (tgt := 108) (by rw [c66]; decide) (by rw [c66]; decide) (by rw [c66]; rfl) (by decide) ?_
    refine j_aload_n C dL_of_108 0 rfl ?_
    refine j_iload_n C dL_of_109 1 rfl ?_
    obtain ⟨⟨r67, σ68⟩, h69, h⟩ := ob h
    try dsimp only at h
    rcases r67 with r67 | r67 <;> (try dsimp only at h)
    · refine j_callV C X (c_X5_oreAt n G σ o0 a1 ho0 _ _ h69) dL_of_110 (gV u_372 u_374 u_375 u_211 u_373) rfl hy_X5_oreAt rfl ho0 rfl (ci := 9) rfl rfl rfl (by decide) (Nat.le_of_ble_eq_true rfl) (by decide) ?_
      exact j_ireturn C dL_of_113 (e_i h hg) (by decide) (by decide)
    · by_cases c73 : r67 = "java/lang/IndexOutOfBoundsException"
      · subst c73
        have h := (if_pos rfl).symm.trans h
        refine j_catV C X (c_X5_oreAt n G σ o0 a1 ho0 _ _ h69) dL_of_110 (gV u_372 u_374 u_375 u_211 u_373) rfl hy_X5_oreAt rfl ho0 rfl (ci := 9) rfl rfl rfl (by decide) (Nat.le_of_ble_eq_true rfl) (by decide) [⟨0, 57, 128, 31⟩, ⟨58, 63, 128, 31⟩, ⟨64, 69, 128, 31⟩, ⟨70, 75, 128, 31⟩, ⟨76, 81, 128, 31⟩, ⟨82, 95, 128, 31⟩, ⟨96, 101, 128, 31⟩, ⟨102, 107, 128, 31⟩] ⟨108, 113, 128, 31⟩ [⟨114, 127, 128, 31⟩, ⟨0, 57, 133, 67⟩, ⟨58, 63, 133, 67⟩, ⟨64, 69, 133, 67⟩, ⟨70, 75, 133, 67⟩, ⟨76, 81, 133, 67⟩, ⟨82, 95, 133, 67⟩, ⟨96, 101, 133, 67⟩, ⟨102, 107, 133, 67⟩, ⟨108, 113, 133, 67⟩, ⟨114, 127, 133, 67⟩] rfl (fun z hz => by rcases List.mem_cons.mp hz with rfl | hz; exact Or.inl (by decide); rcases List.mem_cons.mp hz with rfl | hz; exact Or.inl (by decide); rcases List.mem_cons.mp hz with rfl | hz; exact Or.inl (by decide); rcases List.mem_cons.mp hz with rfl | hz; exact Or.inl (by decide); rcases List.mem_cons.mp hz with rfl | hz; exact Or.inl (by decide); rcases List.mem_cons.mp hz with rfl | hz; exact Or.inl (by decide); rcases List.mem_cons.mp hz with rfl | hz; exact Or.inl (by decide); rcases List.mem_cons.mp hz with rfl | hz; exact Or.inl (by decide); cases hz) (by decide) (by decide) (mU u_334) (by decide) (fun q72 => ?_)
        refine j_astore_n C dL_of_128 (by decide) [(3, .ref q72), (0, .ref (G.2.2 (o0))), (1, .int (a1)), (2, .int (a2))] rfl ?_
        refine j_sipush C dL_of_129 ((-1001 : Int32)) (by decide) ?_
        exact j_ireturn C dL_of_132 (e_i h hg) (by decide) (by decide)
      have h := (if_neg c73).symm.trans h
      by_cases c71 : r67 = "java/util/NoSuchElementException"
      · subst c71
        have h := (if_pos rfl).symm.trans h
        refine j_catV C X (c_X5_oreAt n G σ o0 a1 ho0 _ _ h69) dL_of_110 (gV u_372 u_374 u_375 u_211 u_373) rfl hy_X5_oreAt rfl ho0 rfl (ci := 9) rfl rfl rfl (by decide) (Nat.le_of_ble_eq_true rfl) (by decide) [⟨0, 57, 128, 31⟩, ⟨58, 63, 128, 31⟩, ⟨64, 69, 128, 31⟩, ⟨70, 75, 128, 31⟩, ⟨76, 81, 128, 31⟩, ⟨82, 95, 128, 31⟩, ⟨96, 101, 128, 31⟩, ⟨102, 107, 128, 31⟩, ⟨108, 113, 128, 31⟩, ⟨114, 127, 128, 31⟩, ⟨0, 57, 133, 67⟩, ⟨58, 63, 133, 67⟩, ⟨64, 69, 133, 67⟩, ⟨70, 75, 133, 67⟩, ⟨76, 81, 133, 67⟩, ⟨82, 95, 133, 67⟩, ⟨96, 101, 133, 67⟩, ⟨102, 107, 133, 67⟩] ⟨108, 113, 133, 67⟩ [⟨114, 127, 133, 67⟩] rfl (fun z hz => by rcases List.mem_cons.mp hz with rfl | hz; exact Or.inl (by decide); rcases List.mem_cons.mp hz with rfl | hz; exact Or.inl (by decide); rcases List.mem_cons.mp hz with rfl | hz; exact Or.inl (by decide); rcases List.mem_cons.mp hz with rfl | hz; exact Or.inl (by decide); rcases List.mem_cons.mp hz with rfl | hz; exact Or.inl (by decide); rcases List.mem_cons.mp hz with rfl | hz; exact Or.inl (by decide); rcases List.mem_cons.mp hz with rfl | hz; exact Or.inl (by decide); rcases List.mem_cons.mp hz with rfl | hz; exact Or.inl (by decide); rcases List.mem_cons.mp hz with rfl | hz; exact Or.inr ⟨by decide, "java/lang/IndexOutOfBoundsException", (mU u_334), by decide, by decide⟩; rcases List.mem_cons.mp hz with rfl | hz; exact Or.inl (by decide); rcases List.mem_cons.mp hz with rfl | hz; exact Or.inl (by decide); rcases List.mem_cons.mp hz with rfl | hz; exact Or.inl (by decide); rcases List.mem_cons.mp hz with rfl | hz; exact Or.inl (by decide); rcases List.mem_cons.mp hz with rfl | hz; exact Or.inl (by decide); rcases List.mem_cons.mp hz with rfl | hz; exact Or.inl (by decide); rcases List.mem_cons.mp hz with rfl | hz; exact Or.inl (by decide); rcases List.mem_cons.mp hz with rfl | hz; exact Or.inl (by decide); rcases List.mem_cons.mp hz with rfl | hz; exact Or.inl (by decide); cases hz) (by decide) (by decide) (mU u_343) (by decide) (fun q70 => ?_)
        refine j_astore_n C dL_of_133 (by decide) [(3, .ref q70), (0, .ref (G.2.2 (o0))), (1, .int (a1)), (2, .int (a2))] rfl ?_
        refine j_sipush C dL_of_134 ((-1002 : Int32)) (by decide) ?_
        exact j_ireturn C dL_of_137 (e_i h hg) (by decide) (by decide)
      have h := (if_neg c71).symm.trans h
      cases h
  rw [if_neg c66] at h
  refine j_tableOut C dL_of_1 (tgt := 114) (ts_out8 c1 c9 c17 c25 c33 c41 c50 c58 c66) (by decide) ?_
  refine j_aload_n C dL_of_114 0 rfl ?_
  refine j_iload_n C dL_of_115 1 rfl ?_
  obtain ⟨⟨r74, σ75⟩, h76, h⟩ := ob h
  try dsimp only at h
  rcases r74 with r74 | r74 <;> (try dsimp only at h)
  · refine j_callV C X (c_X5_isClosed n G σ o0 a1 ho0 _ _ h76) dL_of_116 (gV u_376 u_378 u_379 u_211 u_377) rfl hy_X5_isClosed rfl ho0 rfl (ci := 9) rfl rfl rfl (by decide) (Nat.le_of_ble_eq_true rfl) (by decide) ?_
    refine j_if_eq C dL_of_119 126 (by decide) (fun c77 => ?_) (fun c77 => ?_)
    · have h := (if_pos c77).symm.trans h
      refine j_iconst C dL_of_126 ((0 : Int32)) (by decide) ?_
      exact j_ireturn C dL_of_127 (e_i h hg) (by decide) (by decide)
    · have h := (if_neg c77).symm.trans h
      refine j_iconst C dL_of_122 ((1 : Int32)) (by decide) ?_
      refine j_goto C dL_of_123 127 (by decide) ?_
      exact j_ireturn C dL_of_127 (e_i h hg) (by decide) (by decide)
  · by_cases c81 : r74 = "java/lang/IndexOutOfBoundsException"
    · subst c81
      have h := (if_pos rfl).symm.trans h
      refine j_catV C X (c_X5_isClosed n G σ o0 a1 ho0 _ _ h76) dL_of_116 (gV u_376 u_378 u_379 u_211 u_377) rfl hy_X5_isClosed rfl ho0 rfl (ci := 9) rfl rfl rfl (by decide) (Nat.le_of_ble_eq_true rfl) (by decide) [⟨0, 57, 128, 31⟩, ⟨58, 63, 128, 31⟩, ⟨64, 69, 128, 31⟩, ⟨70, 75, 128, 31⟩, ⟨76, 81, 128, 31⟩, ⟨82, 95, 128, 31⟩, ⟨96, 101, 128, 31⟩, ⟨102, 107, 128, 31⟩, ⟨108, 113, 128, 31⟩] ⟨114, 127, 128, 31⟩ [⟨0, 57, 133, 67⟩, ⟨58, 63, 133, 67⟩, ⟨64, 69, 133, 67⟩, ⟨70, 75, 133, 67⟩, ⟨76, 81, 133, 67⟩, ⟨82, 95, 133, 67⟩, ⟨96, 101, 133, 67⟩, ⟨102, 107, 133, 67⟩, ⟨108, 113, 133, 67⟩, ⟨114, 127, 133, 67⟩] rfl (fun z hz => by rcases List.mem_cons.mp hz with rfl | hz; exact Or.inl (by decide); rcases List.mem_cons.mp hz with rfl | hz; exact Or.inl (by decide); rcases List.mem_cons.mp hz with rfl | hz; exact Or.inl (by decide); rcases List.mem_cons.mp hz with rfl | hz; exact Or.inl (by decide); rcases List.mem_cons.mp hz with rfl | hz; exact Or.inl (by decide); rcases List.mem_cons.mp hz with rfl | hz; exact Or.inl (by decide); rcases List.mem_cons.mp hz with rfl | hz; exact Or.inl (by decide); rcases List.mem_cons.mp hz with rfl | hz; exact Or.inl (by decide); rcases List.mem_cons.mp hz with rfl | hz; exact Or.inl (by decide); cases hz) (by decide) (by decide) (mU u_334) (by decide) (fun q80 => ?_)
      refine j_astore_n C dL_of_128 (by decide) [(3, .ref q80), (0, .ref (G.2.2 (o0))), (1, .int (a1)), (2, .int (a2))] rfl ?_
      refine j_sipush C dL_of_129 ((-1001 : Int32)) (by decide) ?_
      exact j_ireturn C dL_of_132 (e_i h hg) (by decide) (by decide)
    have h := (if_neg c81).symm.trans h
    by_cases c79 : r74 = "java/util/NoSuchElementException"
    · subst c79
      have h := (if_pos rfl).symm.trans h
      refine j_catV C X (c_X5_isClosed n G σ o0 a1 ho0 _ _ h76) dL_of_116 (gV u_376 u_378 u_379 u_211 u_377) rfl hy_X5_isClosed rfl ho0 rfl (ci := 9) rfl rfl rfl (by decide) (Nat.le_of_ble_eq_true rfl) (by decide) [⟨0, 57, 128, 31⟩, ⟨58, 63, 128, 31⟩, ⟨64, 69, 128, 31⟩, ⟨70, 75, 128, 31⟩, ⟨76, 81, 128, 31⟩, ⟨82, 95, 128, 31⟩, ⟨96, 101, 128, 31⟩, ⟨102, 107, 128, 31⟩, ⟨108, 113, 128, 31⟩, ⟨114, 127, 128, 31⟩, ⟨0, 57, 133, 67⟩, ⟨58, 63, 133, 67⟩, ⟨64, 69, 133, 67⟩, ⟨70, 75, 133, 67⟩, ⟨76, 81, 133, 67⟩, ⟨82, 95, 133, 67⟩, ⟨96, 101, 133, 67⟩, ⟨102, 107, 133, 67⟩, ⟨108, 113, 133, 67⟩] ⟨114, 127, 133, 67⟩ [] rfl (fun z hz => by rcases List.mem_cons.mp hz with rfl | hz; exact Or.inl (by decide); rcases List.mem_cons.mp hz with rfl | hz; exact Or.inl (by decide); rcases List.mem_cons.mp hz with rfl | hz; exact Or.inl (by decide); rcases List.mem_cons.mp hz with rfl | hz; exact Or.inl (by decide); rcases List.mem_cons.mp hz with rfl | hz; exact Or.inl (by decide); rcases List.mem_cons.mp hz with rfl | hz; exact Or.inl (by decide); rcases List.mem_cons.mp hz with rfl | hz; exact Or.inl (by decide); rcases List.mem_cons.mp hz with rfl | hz; exact Or.inl (by decide); rcases List.mem_cons.mp hz with rfl | hz; exact Or.inl (by decide); rcases List.mem_cons.mp hz with rfl | hz; exact Or.inr ⟨by decide, "java/lang/IndexOutOfBoundsException", (mU u_334), by decide, by decide⟩; rcases List.mem_cons.mp hz with rfl | hz; exact Or.inl (by decide); rcases List.mem_cons.mp hz with rfl | hz; exact Or.inl (by decide); rcases List.mem_cons.mp hz with rfl | hz; exact Or.inl (by decide); rcases List.mem_cons.mp hz with rfl | hz; exact Or.inl (by decide); rcases List.mem_cons.mp hz with rfl | hz; exact Or.inl (by decide); rcases List.mem_cons.mp hz with rfl | hz; exact Or.inl (by decide); rcases List.mem_cons.mp hz with rfl | hz; exact Or.inl (by decide); rcases List.mem_cons.mp hz with rfl | hz; exact Or.inl (by decide); rcases List.mem_cons.mp hz with rfl | hz; exact Or.inl (by decide); cases hz) (by decide) (by decide) (mU u_343) (by decide) (fun q78 => ?_)
      refine j_astore_n C dL_of_133 (by decide) [(3, .ref q78), (0, .ref (G.2.2 (o0))), (1, .int (a1)), (2, .int (a2))] rfl ?_
      refine j_sipush C dL_of_134 ((-1002 : Int32)) (by decide) ?_
      exact j_ireturn C dL_of_137 (e_i h hg) (by decide) (by decide)
    have h := (if_neg c79).symm.trans h
    cases h
def sp_L_mean (n : Nat) (σ : Mem) (o0 : Nat) : Option ((Int32 × Int32) × Mem) := ((sp_X5_meanShare n σ o0).bind fun q => match q with | (.inl r1, σ2) => some ((r1.1, r1.2), σ2) | (.inr E, σ2) => (if E = "java/lang/ArithmeticException" then some (((-1 : Int32), (1 : Int32)), σ2) else none))
abbrev rm_L_mean : Room := ({ frames := 12, cells := 1, slots := 6, locals := 243 } : Room)
abbrev wu_L_mean : List Cond := (Cond.codeWith yL_mean cL_mean 2 (some .double) [(0, 4, 5, 73)]) :: wsU
theorem hy_L_mean : hyOk yL_mean 1 := by decide +kernel
set_option maxRecDepth 20000 in
set_option maxHeartbeats 4000000 in
theorem c_L_mean (n : Nat) (G : Gt) (σ : Mem) (o0 : Nat) (ho0 : Ok o0 5) (r : Int32 × Int32) (σ' : Mem) (h : sp_L_mean n σ o0 = some (r, σ')) : MM yL_mean wu_L_mean rm_L_mean [.ref (G.2.2 (o0))] G σ (.inl (some (.double (dq r.1 r.2)))) σ' := by
  refine mm_ofW (cc := cL_mean) (maxL := 2) (ret := (some .double)) (by decide +kernel) rfl (Nat.le_of_ble_eq_true rfl) (fun x C X hg => ?_)
  have C : Cx x cL_mean 2 RL (some .double) (tableOf [(0, 4, 5, 73)]) wu_L_mean rm_L_mean G.1 (tysF G) := C
  unfold sp_L_mean at h
  show J x [(0, .ref (G.2.2 (o0)))] [] σ 0 0 0
  refine j_aload_n C dL_mean_0 0 rfl ?_
  obtain ⟨⟨r1, σ2⟩, h3, h⟩ := ob h
  try dsimp only at h
  rcases r1 with r1 | r1 <;> (try dsimp only at h)
  · refine j_callV C X (c_X5_meanShare n G σ o0 ho0 _ _ h3) dL_mean_1 (gV u_380 u_382 u_383 u_211 u_381) rfl hy_X5_meanShare rfl ho0 rfl (ci := 9) rfl rfl rfl (by decide) (Nat.le_of_ble_eq_true rfl) (by decide) ?_
    exact j_dreturn C dL_mean_4 (e_d h hg) (by decide) (by decide)
  · by_cases c5 : r1 = "java/lang/ArithmeticException"
    · subst c5
      have h := (if_pos rfl).symm.trans h
      refine j_catV C X (c_X5_meanShare n G σ o0 ho0 _ _ h3) dL_mean_1 (gV u_380 u_382 u_383 u_211 u_381) rfl hy_X5_meanShare rfl ho0 rfl (ci := 9) rfl rfl rfl (by decide) (Nat.le_of_ble_eq_true rfl) (by decide) [] ⟨0, 4, 5, 73⟩ [] rfl (fun z hz => by cases hz) (by decide) (by decide) (mU u_385) (by decide) (fun q4 => ?_)
      refine j_astore_n C dL_mean_5 (by decide) [(1, .ref q4), (0, .ref (G.2.2 (o0)))] rfl ?_
      refine j_ldc2d C dL_mean_6 (mU u_384) dqm1 ?_
      exact j_dreturn C dL_mean_9 (e_d h hg) (by decide) (by decide)
    have h := (if_neg c5).symm.trans h
    cases h
def sp_L_hire (n : Nat) (σ : Mem) (o0 : Nat) (a1 : Int32) : Option (Int32 × Mem) := ((sp_X5_hire n σ o0 a1).bind fun q => match q with | (.inl r1, σ2) => some (r1, σ2) | (.inr E, σ2) => (if E = "java/lang/IllegalArgumentException" then some ((-1001 : Int32), σ2) else (if E = "java/lang/IllegalStateException" then some ((-1002 : Int32), σ2) else none)))
abbrev rm_L_hire : Room := ({ frames := 13, cells := 2, slots := 12, locals := 264 } : Room)
abbrev wu_L_hire : List Cond := (Cond.codeWith yL_hire cL_hire 3 (some .int) [(0, 5, 6, 13), (0, 5, 11, 15)]) :: wsU
theorem hy_L_hire : hyOk yL_hire 2 := by decide +kernel
set_option maxRecDepth 20000 in
set_option maxHeartbeats 4000000 in
theorem c_L_hire (n : Nat) (G : Gt) (σ : Mem) (o0 : Nat) (a1 : Int32) (ho0 : Ok o0 5) (r : Int32) (σ' : Mem) (h : sp_L_hire n σ o0 a1 = some (r, σ')) : MM yL_hire wu_L_hire rm_L_hire [.ref (G.2.2 (o0)), .int (a1)] G σ (.inl (some (.int r))) σ' := by
  refine mm_ofW (cc := cL_hire) (maxL := 3) (ret := (some .int)) (by decide +kernel) rfl (Nat.le_of_ble_eq_true rfl) (fun x C X hg => ?_)
  have C : Cx x cL_hire 3 RL (some .int) (tableOf [(0, 5, 6, 13), (0, 5, 11, 15)]) wu_L_hire rm_L_hire G.1 (tysF G) := C
  unfold sp_L_hire at h
  show J x [(0, .ref (G.2.2 (o0))), (1, .int (a1))] [] σ 0 0 0
  refine j_aload_n C dL_hire_0 0 rfl ?_
  refine j_iload_n C dL_hire_1 1 rfl ?_
  obtain ⟨⟨r1, σ2⟩, h3, h⟩ := ob h
  try dsimp only at h
  rcases r1 with r1 | r1 <;> (try dsimp only at h)
  · refine j_callV C X (c_X5_hire n G σ o0 a1 ho0 _ _ h3) dL_hire_2 (gV u_386 u_388 u_389 u_211 u_387) rfl hy_X5_hire rfl ho0 rfl (ci := 9) rfl rfl rfl (by decide) (Nat.le_of_ble_eq_true rfl) (by decide) ?_
    exact j_ireturn C dL_hire_5 (e_i h hg) (by decide) (by decide)
  · by_cases c7 : r1 = "java/lang/IllegalArgumentException"
    · subst c7
      have h := (if_pos rfl).symm.trans h
      refine j_catV C X (c_X5_hire n G σ o0 a1 ho0 _ _ h3) dL_hire_2 (gV u_386 u_388 u_389 u_211 u_387) rfl hy_X5_hire rfl ho0 rfl (ci := 9) rfl rfl rfl (by decide) (Nat.le_of_ble_eq_true rfl) (by decide) [] ⟨0, 5, 6, 13⟩ [⟨0, 5, 11, 15⟩] rfl (fun z hz => by cases hz) (by decide) (by decide) (mU u_316) (by decide) (fun q6 => ?_)
      refine j_astore_n C dL_hire_6 (by decide) [(2, .ref q6), (0, .ref (G.2.2 (o0))), (1, .int (a1))] rfl ?_
      refine j_sipush C dL_hire_7 ((-1001 : Int32)) (by decide) ?_
      exact j_ireturn C dL_hire_10 (e_i h hg) (by decide) (by decide)
    have h := (if_neg c7).symm.trans h
    by_cases c5 : r1 = "java/lang/IllegalStateException"
    · subst c5
      have h := (if_pos rfl).symm.trans h
      refine j_catV C X (c_X5_hire n G σ o0 a1 ho0 _ _ h3) dL_hire_2 (gV u_386 u_388 u_389 u_211 u_387) rfl hy_X5_hire rfl ho0 rfl (ci := 9) rfl rfl rfl (by decide) (Nat.le_of_ble_eq_true rfl) (by decide) [⟨0, 5, 6, 13⟩] ⟨0, 5, 11, 15⟩ [] rfl (fun z hz => by rcases List.mem_cons.mp hz with rfl | hz; exact Or.inr ⟨by decide, "java/lang/IllegalArgumentException", (mU u_316), by decide, by decide⟩; cases hz) (by decide) (by decide) (mU u_317) (by decide) (fun q4 => ?_)
      refine j_astore_n C dL_hire_11 (by decide) [(2, .ref q4), (0, .ref (G.2.2 (o0))), (1, .int (a1))] rfl ?_
      refine j_sipush C dL_hire_12 ((-1002 : Int32)) (by decide) ?_
      exact j_ireturn C dL_hire_15 (e_i h hg) (by decide) (by decide)
    have h := (if_neg c5).symm.trans h
    cases h
def sp_L_blast (n : Nat) (σ : Mem) (o0 : Nat) (a1 : Int32) (a2 : Int32) : Option (Int32 × Mem) := ((sp_X5_blast n σ o0 a1 a2).bind fun q => match q with | (.inl r1, σ2) => some (r1, σ2) | (.inr E, σ2) => (if E = "java/lang/IndexOutOfBoundsException" then some ((-1001 : Int32), σ2) else (if E = "java/lang/IllegalArgumentException" then some ((-1002 : Int32), σ2) else (if E = "java/lang/IllegalStateException" then some ((-1003 : Int32), σ2) else (if E = "java/lang/UnsupportedOperationException" then some ((-1004 : Int32), σ2) else none)))))
abbrev rm_L_blast : Room := ({ frames := 13, cells := 3, slots := 18, locals := 265 } : Room)
abbrev wu_L_blast : List Cond := (Cond.codeWith yL_blast cL_blast 4 (some .int) [(0, 6, 7, 31), (0, 6, 12, 13), (0, 6, 17, 15), (0, 6, 22, 84)]) :: wsU
theorem hy_L_blast : hyOk yL_blast 3 := by decide +kernel
set_option maxRecDepth 20000 in
set_option maxHeartbeats 4000000 in
theorem c_L_blast (n : Nat) (G : Gt) (σ : Mem) (o0 : Nat) (a1 : Int32) (a2 : Int32) (ho0 : Ok o0 5) (r : Int32) (σ' : Mem) (h : sp_L_blast n σ o0 a1 a2 = some (r, σ')) : MM yL_blast wu_L_blast rm_L_blast [.ref (G.2.2 (o0)), .int (a1), .int (a2)] G σ (.inl (some (.int r))) σ' := by
  refine mm_ofW (cc := cL_blast) (maxL := 4) (ret := (some .int)) (by decide +kernel) rfl (Nat.le_of_ble_eq_true rfl) (fun x C X hg => ?_)
  have C : Cx x cL_blast 4 RL (some .int) (tableOf [(0, 6, 7, 31), (0, 6, 12, 13), (0, 6, 17, 15), (0, 6, 22, 84)]) wu_L_blast rm_L_blast G.1 (tysF G) := C
  unfold sp_L_blast at h
  show J x [(0, .ref (G.2.2 (o0))), (1, .int (a1)), (2, .int (a2))] [] σ 0 0 0
  refine j_aload_n C dL_blast_0 0 rfl ?_
  refine j_iload_n C dL_blast_1 1 rfl ?_
  refine j_iload_n C dL_blast_2 2 rfl ?_
  obtain ⟨⟨r1, σ2⟩, h3, h⟩ := ob h
  try dsimp only at h
  rcases r1 with r1 | r1 <;> (try dsimp only at h)
  · refine j_callV C X (c_X5_blast n G σ o0 a1 a2 ho0 _ _ h3) dL_blast_3 (gV u_390 u_392 u_393 u_211 u_391) rfl hy_X5_blast rfl ho0 rfl (ci := 9) rfl rfl rfl (by decide) (Nat.le_of_ble_eq_true rfl) (by decide) ?_
    exact j_ireturn C dL_blast_6 (e_i h hg) (by decide) (by decide)
  · by_cases c11 : r1 = "java/lang/IndexOutOfBoundsException"
    · subst c11
      have h := (if_pos rfl).symm.trans h
      refine j_catV C X (c_X5_blast n G σ o0 a1 a2 ho0 _ _ h3) dL_blast_3 (gV u_390 u_392 u_393 u_211 u_391) rfl hy_X5_blast rfl ho0 rfl (ci := 9) rfl rfl rfl (by decide) (Nat.le_of_ble_eq_true rfl) (by decide) [] ⟨0, 6, 7, 31⟩ [⟨0, 6, 12, 13⟩, ⟨0, 6, 17, 15⟩, ⟨0, 6, 22, 84⟩] rfl (fun z hz => by cases hz) (by decide) (by decide) (mU u_334) (by decide) (fun q10 => ?_)
      refine j_astore_n C dL_blast_7 (by decide) [(3, .ref q10), (0, .ref (G.2.2 (o0))), (1, .int (a1)), (2, .int (a2))] rfl ?_
      refine j_sipush C dL_blast_8 ((-1001 : Int32)) (by decide) ?_
      exact j_ireturn C dL_blast_11 (e_i h hg) (by decide) (by decide)
    have h := (if_neg c11).symm.trans h
    by_cases c9 : r1 = "java/lang/IllegalArgumentException"
    · subst c9
      have h := (if_pos rfl).symm.trans h
      refine j_catV C X (c_X5_blast n G σ o0 a1 a2 ho0 _ _ h3) dL_blast_3 (gV u_390 u_392 u_393 u_211 u_391) rfl hy_X5_blast rfl ho0 rfl (ci := 9) rfl rfl rfl (by decide) (Nat.le_of_ble_eq_true rfl) (by decide) [⟨0, 6, 7, 31⟩] ⟨0, 6, 12, 13⟩ [⟨0, 6, 17, 15⟩, ⟨0, 6, 22, 84⟩] rfl (fun z hz => by rcases List.mem_cons.mp hz with rfl | hz; exact Or.inr ⟨by decide, "java/lang/IndexOutOfBoundsException", (mU u_334), by decide, by decide⟩; cases hz) (by decide) (by decide) (mU u_316) (by decide) (fun q8 => ?_)
      refine j_astore_n C dL_blast_12 (by decide) [(3, .ref q8), (0, .ref (G.2.2 (o0))), (1, .int (a1)), (2, .int (a2))] rfl ?_
      refine j_sipush C dL_blast_13 ((-1002 : Int32)) (by decide) ?_
      exact j_ireturn C dL_blast_16 (e_i h hg) (by decide) (by decide)
    have h := (if_neg c9).symm.trans h
    by_cases c7 : r1 = "java/lang/IllegalStateException"
    · subst c7
      have h := (if_pos rfl).symm.trans h
      refine j_catV C X (c_X5_blast n G σ o0 a1 a2 ho0 _ _ h3) dL_blast_3 (gV u_390 u_392 u_393 u_211 u_391) rfl hy_X5_blast rfl ho0 rfl (ci := 9) rfl rfl rfl (by decide) (Nat.le_of_ble_eq_true rfl) (by decide) [⟨0, 6, 7, 31⟩, ⟨0, 6, 12, 13⟩] ⟨0, 6, 17, 15⟩ [⟨0, 6, 22, 84⟩] rfl (fun z hz => by rcases List.mem_cons.mp hz with rfl | hz; exact Or.inr ⟨by decide, "java/lang/IndexOutOfBoundsException", (mU u_334), by decide, by decide⟩; rcases List.mem_cons.mp hz with rfl | hz; exact Or.inr ⟨by decide, "java/lang/IllegalArgumentException", (mU u_316), by decide, by decide⟩; cases hz) (by decide) (by decide) (mU u_317) (by decide) (fun q6 => ?_)
      refine j_astore_n C dL_blast_17 (by decide) [(3, .ref q6), (0, .ref (G.2.2 (o0))), (1, .int (a1)), (2, .int (a2))] rfl ?_
      refine j_sipush C dL_blast_18 ((-1003 : Int32)) (by decide) ?_
      exact j_ireturn C dL_blast_21 (e_i h hg) (by decide) (by decide)
    have h := (if_neg c7).symm.trans h
    by_cases c5 : r1 = "java/lang/UnsupportedOperationException"
    · subst c5
      have h := (if_pos rfl).symm.trans h
      refine j_catV C X (c_X5_blast n G σ o0 a1 a2 ho0 _ _ h3) dL_blast_3 (gV u_390 u_392 u_393 u_211 u_391) rfl hy_X5_blast rfl ho0 rfl (ci := 9) rfl rfl rfl (by decide) (Nat.le_of_ble_eq_true rfl) (by decide) [⟨0, 6, 7, 31⟩, ⟨0, 6, 12, 13⟩, ⟨0, 6, 17, 15⟩] ⟨0, 6, 22, 84⟩ [] rfl (fun z hz => by rcases List.mem_cons.mp hz with rfl | hz; exact Or.inr ⟨by decide, "java/lang/IndexOutOfBoundsException", (mU u_334), by decide, by decide⟩; rcases List.mem_cons.mp hz with rfl | hz; exact Or.inr ⟨by decide, "java/lang/IllegalArgumentException", (mU u_316), by decide, by decide⟩; rcases List.mem_cons.mp hz with rfl | hz; exact Or.inr ⟨by decide, "java/lang/IllegalStateException", (mU u_317), by decide, by decide⟩; cases hz) (by decide) (by decide) (mU u_394) (by decide) (fun q4 => ?_)
      refine j_astore_n C dL_blast_22 (by decide) [(3, .ref q4), (0, .ref (G.2.2 (o0))), (1, .int (a1)), (2, .int (a2))] rfl ?_
      refine j_sipush C dL_blast_23 ((-1004 : Int32)) (by decide) ?_
      exact j_ireturn C dL_blast_26 (e_i h hg) (by decide) (by decide)
    have h := (if_neg c5).symm.trans h
    cases h
def sp_L_request (n : Nat) (σ : Mem) (o0 : Nat) (a1 : Int32) (a2 : Int32) (a3 : Int32) : Option (Int32 × Mem) := if a1 = (100 : Int32) then ((sp_X5_sendDown n σ o0 a2 a3).bind fun q => match q with | (.inl r25, σ26) => some (r25, σ26) | (.inr E, σ26) => (if E = "java/lang/IndexOutOfBoundsException" then some ((-1001 : Int32), σ26) else (if E = "java/lang/IllegalArgumentException" then some ((-1002 : Int32), σ26) else (if E = "java/lang/UnsupportedOperationException" then some ((-1003 : Int32), σ26) else (if E = "java/lang/IllegalStateException" then some ((-1004 : Int32), σ26) else none))))) else if a1 = (117 : Int32) then ((sp_X5_callUp n σ o0 a2 a3).bind fun q => match q with | (.inl r14, σ15) => some (r14, σ15) | (.inr E, σ15) => (if E = "java/lang/IndexOutOfBoundsException" then some ((-1001 : Int32), σ15) else (if E = "java/lang/IllegalArgumentException" then some ((-1002 : Int32), σ15) else (if E = "java/lang/UnsupportedOperationException" then some ((-1003 : Int32), σ15) else (if E = "java/lang/IllegalStateException" then some ((-1004 : Int32), σ15) else none))))) else ((sp_X5_hoistOre n σ o0 a2).bind fun q => match q with | (.inl r3, σ4) => some (r3, σ4) | (.inr E, σ4) => (if E = "java/lang/IndexOutOfBoundsException" then some ((-1001 : Int32), σ4) else (if E = "java/lang/IllegalArgumentException" then some ((-1002 : Int32), σ4) else (if E = "java/lang/UnsupportedOperationException" then some ((-1003 : Int32), σ4) else (if E = "java/lang/IllegalStateException" then some ((-1004 : Int32), σ4) else none)))))
abbrev rm_L_request : Room := ({ frames := 14, cells := 3, slots := 18, locals := 295 } : Room)
abbrev wu_L_request : List Cond := (Cond.codeWith yL_request cL_request 5 (some .int) [(0, 35, 36, 31), (0, 35, 42, 13), (0, 35, 48, 84), (0, 35, 54, 15)]) :: wsU
theorem hy_L_request : hyOk yL_request 4 := by decide +kernel
set_option maxRecDepth 20000 in
set_option maxHeartbeats 4000000 in
theorem c_L_request (n : Nat) (G : Gt) (σ : Mem) (o0 : Nat) (a1 : Int32) (a2 : Int32) (a3 : Int32) (ho0 : Ok o0 5) (r : Int32) (σ' : Mem) (h : sp_L_request n σ o0 a1 a2 a3 = some (r, σ')) : MM yL_request wu_L_request rm_L_request [.ref (G.2.2 (o0)), .int (a1), .int (a2), .int (a3)] G σ (.inl (some (.int r))) σ' := by
  refine mm_ofW (cc := cL_request) (maxL := 5) (ret := (some .int)) (by decide +kernel) rfl (Nat.le_of_ble_eq_true rfl) (fun x C X hg => ?_)
  have C : Cx x cL_request 5 RL (some .int) (tableOf [(0, 35, 36, 31), (0, 35, 42, 13), (0, 35, 48, 84), (0, 35, 54, 15)]) wu_L_request rm_L_request G.1 (tysF G) := C
  unfold sp_L_request at h
  show J x [(0, .ref (G.2.2 (o0))), (1, .int (a1)), (2, .int (a2)), (3, .int (a3))] [] σ 0 0 0
  refine j_iload_n C dL_request_0 1 rfl ?_
  refine j_bipush C dL_request_1 ((100 : Int32)) (by decide) ?_
  refine j_icmp_ne C dL_request_3 15 (by decide) (fun c1 => ?_) (fun c1 => ?_)
  · have h := (if_neg c1).symm.trans h
    refine j_iload_n C dL_request_15 1 rfl ?_
    refine j_bipush C dL_request_16 ((117 : Int32)) (by decide) ?_
    refine j_icmp_ne C dL_request_18 30 (by decide) (fun c2 => ?_) (fun c2 => ?_)
    · have h := (if_neg c2).symm.trans h
      refine j_aload_n C dL_request_30 0 rfl ?_
      refine j_iload_n C dL_request_31 2 rfl ?_
      obtain ⟨⟨r3, σ4⟩, h5, h⟩ := ob h
      try dsimp only at h
      rcases r3 with r3 | r3 <;> (try dsimp only at h)
      · refine j_callV C X (c_X5_hoistOre n G σ o0 a2 ho0 _ _ h5) dL_request_32 (gV u_395 u_397 u_398 u_211 u_396) rfl hy_X5_hoistOre rfl ho0 rfl (ci := 9) rfl rfl rfl (by decide) (Nat.le_of_ble_eq_true rfl) (by decide) ?_
        exact j_ireturn C dL_request_35 (e_i h hg) (by decide) (by decide)
      · by_cases c13 : r3 = "java/lang/IndexOutOfBoundsException"
        · subst c13
          have h := (if_pos rfl).symm.trans h
          refine j_catV C X (c_X5_hoistOre n G σ o0 a2 ho0 _ _ h5) dL_request_32 (gV u_395 u_397 u_398 u_211 u_396) rfl hy_X5_hoistOre rfl ho0 rfl (ci := 9) rfl rfl rfl (by decide) (Nat.le_of_ble_eq_true rfl) (by decide) [] ⟨0, 35, 36, 31⟩ [⟨0, 35, 42, 13⟩, ⟨0, 35, 48, 84⟩, ⟨0, 35, 54, 15⟩] rfl (fun z hz => by cases hz) (by decide) (by decide) (mU u_334) (by decide) (fun q12 => ?_)
          refine j_astore C dL_request_36 (by decide) [(4, .ref q12), (0, .ref (G.2.2 (o0))), (1, .int (a1)), (2, .int (a2)), (3, .int (a3))] rfl ?_
          refine j_sipush C dL_request_38 ((-1001 : Int32)) (by decide) ?_
          exact j_ireturn C dL_request_41 (e_i h hg) (by decide) (by decide)
        have h := (if_neg c13).symm.trans h
        by_cases c11 : r3 = "java/lang/IllegalArgumentException"
        · subst c11
          have h := (if_pos rfl).symm.trans h
          refine j_catV C X (c_X5_hoistOre n G σ o0 a2 ho0 _ _ h5) dL_request_32 (gV u_395 u_397 u_398 u_211 u_396) rfl hy_X5_hoistOre rfl ho0 rfl (ci := 9) rfl rfl rfl (by decide) (Nat.le_of_ble_eq_true rfl) (by decide) [⟨0, 35, 36, 31⟩] ⟨0, 35, 42, 13⟩ [⟨0, 35, 48, 84⟩, ⟨0, 35, 54, 15⟩] rfl (fun z hz => by rcases List.mem_cons.mp hz with rfl | hz; exact Or.inr ⟨by decide, "java/lang/IndexOutOfBoundsException", (mU u_334), by decide, by decide⟩; cases hz) (by decide) (by decide) (mU u_316) (by decide) (fun q10 => ?_)
          refine j_astore C dL_request_42 (by decide) [(4, .ref q10), (0, .ref (G.2.2 (o0))), (1, .int (a1)), (2, .int (a2)), (3, .int (a3))] rfl ?_
          refine j_sipush C dL_request_44 ((-1002 : Int32)) (by decide) ?_
          exact j_ireturn C dL_request_47 (e_i h hg) (by decide) (by decide)
        have h := (if_neg c11).symm.trans h
        by_cases c9 : r3 = "java/lang/UnsupportedOperationException"
        · subst c9
          have h := (if_pos rfl).symm.trans h
          refine j_catV C X (c_X5_hoistOre n G σ o0 a2 ho0 _ _ h5) dL_request_32 (gV u_395 u_397 u_398 u_211 u_396) rfl hy_X5_hoistOre rfl ho0 rfl (ci := 9) rfl rfl rfl (by decide) (Nat.le_of_ble_eq_true rfl) (by decide) [⟨0, 35, 36, 31⟩, ⟨0, 35, 42, 13⟩] ⟨0, 35, 48, 84⟩ [⟨0, 35, 54, 15⟩] rfl (fun z hz => by rcases List.mem_cons.mp hz with rfl | hz; exact Or.inr ⟨by decide, "java/lang/IndexOutOfBoundsException", (mU u_334), by decide, by decide⟩; rcases List.mem_cons.mp hz with rfl | hz; exact Or.inr ⟨by decide, "java/lang/IllegalArgumentException", (mU u_316), by decide, by decide⟩; cases hz) (by decide) (by decide) (mU u_394) (by decide) (fun q8 => ?_)
          refine j_astore C dL_request_48 (by decide) [(4, .ref q8), (0, .ref (G.2.2 (o0))), (1, .int (a1)), (2, .int (a2)), (3, .int (a3))] rfl ?_
          refine j_sipush C dL_request_50 ((-1003 : Int32)) (by decide) ?_
          exact j_ireturn C dL_request_53 (e_i h hg) (by decide) (by decide)
        have h := (if_neg c9).symm.trans h
        by_cases c7 : r3 = "java/lang/IllegalStateException"
        · subst c7
          have h := (if_pos rfl).symm.trans h
          refine j_catV C X (c_X5_hoistOre n G σ o0 a2 ho0 _ _ h5) dL_request_32 (gV u_395 u_397 u_398 u_211 u_396) rfl hy_X5_hoistOre rfl ho0 rfl (ci := 9) rfl rfl rfl (by decide) (Nat.le_of_ble_eq_true rfl) (by decide) [⟨0, 35, 36, 31⟩, ⟨0, 35, 42, 13⟩, ⟨0, 35, 48, 84⟩] ⟨0, 35, 54, 15⟩ [] rfl (fun z hz => by rcases List.mem_cons.mp hz with rfl | hz; exact Or.inr ⟨by decide, "java/lang/IndexOutOfBoundsException", (mU u_334), by decide, by decide⟩; rcases List.mem_cons.mp hz with rfl | hz; exact Or.inr ⟨by decide, "java/lang/IllegalArgumentException", (mU u_316), by decide, by decide⟩; rcases List.mem_cons.mp hz with rfl | hz; exact Or.inr ⟨by decide, "java/lang/UnsupportedOperationException", (mU u_394), by decide, by decide⟩; cases hz) (by decide) (by decide) (mU u_317) (by decide) (fun q6 => ?_)
          refine j_astore C dL_request_54 (by decide) [(4, .ref q6), (0, .ref (G.2.2 (o0))), (1, .int (a1)), (2, .int (a2)), (3, .int (a3))] rfl ?_
          refine j_sipush C dL_request_56 ((-1004 : Int32)) (by decide) ?_
          exact j_ireturn C dL_request_59 (e_i h hg) (by decide) (by decide)
        have h := (if_neg c7).symm.trans h
        cases h
    · have h := (if_pos c2).symm.trans h
      refine j_aload_n C dL_request_21 0 rfl ?_
      refine j_iload_n C dL_request_22 2 rfl ?_
      refine j_iload_n C dL_request_23 3 rfl ?_
      obtain ⟨⟨r14, σ15⟩, h16, h⟩ := ob h
      try dsimp only at h
      rcases r14 with r14 | r14 <;> (try dsimp only at h)
      · refine j_callV C X (c_X5_callUp n G σ o0 a2 a3 ho0 _ _ h16) dL_request_24 (gV u_399 u_401 u_402 u_211 u_400) rfl hy_X5_callUp rfl ho0 rfl (ci := 9) rfl rfl rfl (by decide) (Nat.le_of_ble_eq_true rfl) (by decide) ?_
        refine j_goto C dL_request_27 35 (by decide) ?_
        exact j_ireturn C dL_request_35 (e_i h hg) (by decide) (by decide)
      · by_cases c24 : r14 = "java/lang/IndexOutOfBoundsException"
        · subst c24
          have h := (if_pos rfl).symm.trans h
          refine j_catV C X (c_X5_callUp n G σ o0 a2 a3 ho0 _ _ h16) dL_request_24 (gV u_399 u_401 u_402 u_211 u_400) rfl hy_X5_callUp rfl ho0 rfl (ci := 9) rfl rfl rfl (by decide) (Nat.le_of_ble_eq_true rfl) (by decide) [] ⟨0, 35, 36, 31⟩ [⟨0, 35, 42, 13⟩, ⟨0, 35, 48, 84⟩, ⟨0, 35, 54, 15⟩] rfl (fun z hz => by cases hz) (by decide) (by decide) (mU u_334) (by decide) (fun q23 => ?_)
          refine j_astore C dL_request_36 (by decide) [(4, .ref q23), (0, .ref (G.2.2 (o0))), (1, .int (a1)), (2, .int (a2)), (3, .int (a3))] rfl ?_
          refine j_sipush C dL_request_38 ((-1001 : Int32)) (by decide) ?_
          exact j_ireturn C dL_request_41 (e_i h hg) (by decide) (by decide)
        have h := (if_neg c24).symm.trans h
        by_cases c22 : r14 = "java/lang/IllegalArgumentException"
        · subst c22
          have h := (if_pos rfl).symm.trans h
          refine j_catV C X (c_X5_callUp n G σ o0 a2 a3 ho0 _ _ h16) dL_request_24 (gV u_399 u_401 u_402 u_211 u_400) rfl hy_X5_callUp rfl ho0 rfl (ci := 9) rfl rfl rfl (by decide) (Nat.le_of_ble_eq_true rfl) (by decide) [⟨0, 35, 36, 31⟩] ⟨0, 35, 42, 13⟩ [⟨0, 35, 48, 84⟩, ⟨0, 35, 54, 15⟩] rfl (fun z hz => by rcases List.mem_cons.mp hz with rfl | hz; exact Or.inr ⟨by decide, "java/lang/IndexOutOfBoundsException", (mU u_334), by decide, by decide⟩; cases hz) (by decide) (by decide) (mU u_316) (by decide) (fun q21 => ?_)
          refine j_astore C dL_request_42 (by decide) [(4, .ref q21), (0, .ref (G.2.2 (o0))), (1, .int (a1)), (2, .int (a2)), (3, .int (a3))] rfl ?_
          refine j_sipush C dL_request_44 ((-1002 : Int32)) (by decide) ?_
          exact j_ireturn C dL_request_47 (e_i h hg) (by decide) (by decide)
        have h := (if_neg c22).symm.trans h
        by_cases c20 : r14 = "java/lang/UnsupportedOperationException"
        · subst c20
          have h := (if_pos rfl).symm.trans h
          refine j_catV C X (c_X5_callUp n G σ o0 a2 a3 ho0 _ _ h16) dL_request_24 (gV u_399 u_401 u_402 u_211 u_400) rfl hy_X5_callUp rfl ho0 rfl (ci := 9) rfl rfl rfl (by decide) (Nat.le_of_ble_eq_true rfl) (by decide) [⟨0, 35, 36, 31⟩, ⟨0, 35, 42, 13⟩] ⟨0, 35, 48, 84⟩ [⟨0, 35, 54, 15⟩] rfl (fun z hz => by rcases List.mem_cons.mp hz with rfl | hz; exact Or.inr ⟨by decide, "java/lang/IndexOutOfBoundsException", (mU u_334), by decide, by decide⟩; rcases List.mem_cons.mp hz with rfl | hz; exact Or.inr ⟨by decide, "java/lang/IllegalArgumentException", (mU u_316), by decide, by decide⟩; cases hz) (by decide) (by decide) (mU u_394) (by decide) (fun q19 => ?_)
          refine j_astore C dL_request_48 (by decide) [(4, .ref q19), (0, .ref (G.2.2 (o0))), (1, .int (a1)), (2, .int (a2)), (3, .int (a3))] rfl ?_
          refine j_sipush C dL_request_50 ((-1003 : Int32)) (by decide) ?_
          exact j_ireturn C dL_request_53 (e_i h hg) (by decide) (by decide)
        have h := (if_neg c20).symm.trans h
        by_cases c18 : r14 = "java/lang/IllegalStateException"
        · subst c18
          have h := (if_pos rfl).symm.trans h
          refine j_catV C X (c_X5_callUp n G σ o0 a2 a3 ho0 _ _ h16) dL_request_24 (gV u_399 u_401 u_402 u_211 u_400) rfl hy_X5_callUp rfl ho0 rfl (ci := 9) rfl rfl rfl (by decide) (Nat.le_of_ble_eq_true rfl) (by decide) [⟨0, 35, 36, 31⟩, ⟨0, 35, 42, 13⟩, ⟨0, 35, 48, 84⟩] ⟨0, 35, 54, 15⟩ [] rfl (fun z hz => by rcases List.mem_cons.mp hz with rfl | hz; exact Or.inr ⟨by decide, "java/lang/IndexOutOfBoundsException", (mU u_334), by decide, by decide⟩; rcases List.mem_cons.mp hz with rfl | hz; exact Or.inr ⟨by decide, "java/lang/IllegalArgumentException", (mU u_316), by decide, by decide⟩; rcases List.mem_cons.mp hz with rfl | hz; exact Or.inr ⟨by decide, "java/lang/UnsupportedOperationException", (mU u_394), by decide, by decide⟩; cases hz) (by decide) (by decide) (mU u_317) (by decide) (fun q17 => ?_)
          refine j_astore C dL_request_54 (by decide) [(4, .ref q17), (0, .ref (G.2.2 (o0))), (1, .int (a1)), (2, .int (a2)), (3, .int (a3))] rfl ?_
          refine j_sipush C dL_request_56 ((-1004 : Int32)) (by decide) ?_
          exact j_ireturn C dL_request_59 (e_i h hg) (by decide) (by decide)
        have h := (if_neg c18).symm.trans h
        cases h
  · have h := (if_pos c1).symm.trans h
    refine j_aload_n C dL_request_6 0 rfl ?_
    refine j_iload_n C dL_request_7 2 rfl ?_
    refine j_iload_n C dL_request_8 3 rfl ?_
    obtain ⟨⟨r25, σ26⟩, h27, h⟩ := ob h
    try dsimp only at h
    rcases r25 with r25 | r25 <;> (try dsimp only at h)
    · refine j_callV C X (c_X5_sendDown n G σ o0 a2 a3 ho0 _ _ h27) dL_request_9 (gV u_403 u_405 u_406 u_211 u_404) rfl hy_X5_sendDown rfl ho0 rfl (ci := 9) rfl rfl rfl (by decide) (Nat.le_of_ble_eq_true rfl) (by decide) ?_
      refine j_goto C dL_request_12 35 (by decide) ?_
      exact j_ireturn C dL_request_35 (e_i h hg) (by decide) (by decide)
    · by_cases c35 : r25 = "java/lang/IndexOutOfBoundsException"
      · subst c35
        have h := (if_pos rfl).symm.trans h
        refine j_catV C X (c_X5_sendDown n G σ o0 a2 a3 ho0 _ _ h27) dL_request_9 (gV u_403 u_405 u_406 u_211 u_404) rfl hy_X5_sendDown rfl ho0 rfl (ci := 9) rfl rfl rfl (by decide) (Nat.le_of_ble_eq_true rfl) (by decide) [] ⟨0, 35, 36, 31⟩ [⟨0, 35, 42, 13⟩, ⟨0, 35, 48, 84⟩, ⟨0, 35, 54, 15⟩] rfl (fun z hz => by cases hz) (by decide) (by decide) (mU u_334) (by decide) (fun q34 => ?_)
        refine j_astore C dL_request_36 (by decide) [(4, .ref q34), (0, .ref (G.2.2 (o0))), (1, .int (a1)), (2, .int (a2)), (3, .int (a3))] rfl ?_
        refine j_sipush C dL_request_38 ((-1001 : Int32)) (by decide) ?_
        exact j_ireturn C dL_request_41 (e_i h hg) (by decide) (by decide)
      have h := (if_neg c35).symm.trans h
      by_cases c33 : r25 = "java/lang/IllegalArgumentException"
      · subst c33
        have h := (if_pos rfl).symm.trans h
        refine j_catV C X (c_X5_sendDown n G σ o0 a2 a3 ho0 _ _ h27) dL_request_9 (gV u_403 u_405 u_406 u_211 u_404) rfl hy_X5_sendDown rfl ho0 rfl (ci := 9) rfl rfl rfl (by decide) (Nat.le_of_ble_eq_true rfl) (by decide) [⟨0, 35, 36, 31⟩] ⟨0, 35, 42, 13⟩ [⟨0, 35, 48, 84⟩, ⟨0, 35, 54, 15⟩] rfl (fun z hz => by rcases List.mem_cons.mp hz with rfl | hz; exact Or.inr ⟨by decide, "java/lang/IndexOutOfBoundsException", (mU u_334), by decide, by decide⟩; cases hz) (by decide) (by decide) (mU u_316) (by decide) (fun q32 => ?_)
        refine j_astore C dL_request_42 (by decide) [(4, .ref q32), (0, .ref (G.2.2 (o0))), (1, .int (a1)), (2, .int (a2)), (3, .int (a3))] rfl ?_
        refine j_sipush C dL_request_44 ((-1002 : Int32)) (by decide) ?_
        exact j_ireturn C dL_request_47 (e_i h hg) (by decide) (by decide)
      have h := (if_neg c33).symm.trans h
      by_cases c31 : r25 = "java/lang/UnsupportedOperationException"
      · subst c31
        have h := (if_pos rfl).symm.trans h
        refine j_catV C X (c_X5_sendDown n G σ o0 a2 a3 ho0 _ _ h27) dL_request_9 (gV u_403 u_405 u_406 u_211 u_404) rfl hy_X5_sendDown rfl ho0 rfl (ci := 9) rfl rfl rfl (by decide) (Nat.le_of_ble_eq_true rfl) (by decide) [⟨0, 35, 36, 31⟩, ⟨0, 35, 42, 13⟩] ⟨0, 35, 48, 84⟩ [⟨0, 35, 54, 15⟩] rfl (fun z hz => by rcases List.mem_cons.mp hz with rfl | hz; exact Or.inr ⟨by decide, "java/lang/IndexOutOfBoundsException", (mU u_334), by decide, by decide⟩; rcases List.mem_cons.mp hz with rfl | hz; exact Or.inr ⟨by decide, "java/lang/IllegalArgumentException", (mU u_316), by decide, by decide⟩; cases hz) (by decide) (by decide) (mU u_394) (by decide) (fun q30 => ?_)
        refine j_astore C dL_request_48 (by decide) [(4, .ref q30), (0, .ref (G.2.2 (o0))), (1, .int (a1)), (2, .int (a2)), (3, .int (a3))] rfl ?_
        refine j_sipush C dL_request_50 ((-1003 : Int32)) (by decide) ?_
        exact j_ireturn C dL_request_53 (e_i h hg) (by decide) (by decide)
      have h := (if_neg c31).symm.trans h
      by_cases c29 : r25 = "java/lang/IllegalStateException"
      · subst c29
        have h := (if_pos rfl).symm.trans h
        refine j_catV C X (c_X5_sendDown n G σ o0 a2 a3 ho0 _ _ h27) dL_request_9 (gV u_403 u_405 u_406 u_211 u_404) rfl hy_X5_sendDown rfl ho0 rfl (ci := 9) rfl rfl rfl (by decide) (Nat.le_of_ble_eq_true rfl) (by decide) [⟨0, 35, 36, 31⟩, ⟨0, 35, 42, 13⟩, ⟨0, 35, 48, 84⟩] ⟨0, 35, 54, 15⟩ [] rfl (fun z hz => by rcases List.mem_cons.mp hz with rfl | hz; exact Or.inr ⟨by decide, "java/lang/IndexOutOfBoundsException", (mU u_334), by decide, by decide⟩; rcases List.mem_cons.mp hz with rfl | hz; exact Or.inr ⟨by decide, "java/lang/IllegalArgumentException", (mU u_316), by decide, by decide⟩; rcases List.mem_cons.mp hz with rfl | hz; exact Or.inr ⟨by decide, "java/lang/UnsupportedOperationException", (mU u_394), by decide, by decide⟩; cases hz) (by decide) (by decide) (mU u_317) (by decide) (fun q28 => ?_)
        refine j_astore C dL_request_54 (by decide) [(4, .ref q28), (0, .ref (G.2.2 (o0))), (1, .int (a1)), (2, .int (a2)), (3, .int (a3))] rfl ?_
        refine j_sipush C dL_request_56 ((-1004 : Int32)) (by decide) ?_
        exact j_ireturn C dL_request_59 (e_i h hg) (by decide) (by decide)
      have h := (if_neg c29).symm.trans h
      cases h
def sp_L_asked (n : Nat) (σ : Mem) (o0 : Nat) (a1 : Int32) (a2 : Int32) : Option (Int32 × Mem) := if a2 = 0 then ((sp_X5_cancel n σ o0 a1).bind fun q => match q with | (.inl r21, σ22) => some (r21, σ22) | (.inr E, σ22) => (if E = "java/util/NoSuchElementException" then some ((-1001 : Int32), σ22) else (if E = "java/lang/IndexOutOfBoundsException" then some ((-1001 : Int32), σ22) else (if E = "java/lang/UnsupportedOperationException" then some ((-1002 : Int32), σ22) else none)))) else if a2 = (1 : Int32) then ((sp_X5_waitingAt n σ o0 a1).bind fun q => match q with | (.inl r12, σ13) => some (r12, σ13) | (.inr E, σ13) => (if E = "java/util/NoSuchElementException" then some ((-1001 : Int32), σ13) else (if E = "java/lang/IndexOutOfBoundsException" then some ((-1001 : Int32), σ13) else (if E = "java/lang/UnsupportedOperationException" then some ((-1002 : Int32), σ13) else none)))) else ((sp_X5_waitFor n σ o0 a1).bind fun q => match q with | (.inl r3, σ4) => some (r3, σ4) | (.inr E, σ4) => (if E = "java/util/NoSuchElementException" then some ((-1001 : Int32), σ4) else (if E = "java/lang/IndexOutOfBoundsException" then some ((-1001 : Int32), σ4) else (if E = "java/lang/UnsupportedOperationException" then some ((-1002 : Int32), σ4) else none))))
abbrev rm_L_asked : Room := ({ frames := 17, cells := 1, slots := 6, locals := 356 } : Room)
abbrev wu_L_asked : List Cond := (Cond.codeWith yL_asked cL_asked 4 (some .int) [(0, 30, 31, 67), (0, 30, 36, 31), (0, 30, 41, 84)]) :: wsU
theorem hy_L_asked : hyOk yL_asked 3 := by decide +kernel
set_option maxRecDepth 20000 in
set_option maxHeartbeats 4000000 in
theorem c_L_asked (n : Nat) (G : Gt) (σ : Mem) (o0 : Nat) (a1 : Int32) (a2 : Int32) (ho0 : Ok o0 5) (r : Int32) (σ' : Mem) (h : sp_L_asked n σ o0 a1 a2 = some (r, σ')) : MM yL_asked wu_L_asked rm_L_asked [.ref (G.2.2 (o0)), .int (a1), .int (a2)] G σ (.inl (some (.int r))) σ' := by
  refine mm_ofW (cc := cL_asked) (maxL := 4) (ret := (some .int)) (by decide +kernel) rfl (Nat.le_of_ble_eq_true rfl) (fun x C X hg => ?_)
  have C : Cx x cL_asked 4 RL (some .int) (tableOf [(0, 30, 31, 67), (0, 30, 36, 31), (0, 30, 41, 84)]) wu_L_asked rm_L_asked G.1 (tysF G) := C
  unfold sp_L_asked at h
  show J x [(0, .ref (G.2.2 (o0))), (1, .int (a1)), (2, .int (a2))] [] σ 0 0 0
  refine j_iload_n C dL_asked_0 2 rfl ?_
  refine j_if_ne C dL_asked_1 12 (by decide) (fun c1 => ?_) (fun c1 => ?_)
  · have h := (if_neg c1).symm.trans h
    refine j_iload_n C dL_asked_12 2 rfl ?_
    refine j_iconst C dL_asked_13 ((1 : Int32)) (by decide) ?_
    refine j_icmp_ne C dL_asked_14 25 (by decide) (fun c2 => ?_) (fun c2 => ?_)
    · have h := (if_neg c2).symm.trans h
      refine j_aload_n C dL_asked_25 0 rfl ?_
      refine j_iload_n C dL_asked_26 1 rfl ?_
      obtain ⟨⟨r3, σ4⟩, h5, h⟩ := ob h
      try dsimp only at h
      rcases r3 with r3 | r3 <;> (try dsimp only at h)
      · refine j_callV C X (c_X5_waitFor n G σ o0 a1 ho0 _ _ h5) dL_asked_27 (gV u_407 u_409 u_410 u_211 u_408) rfl hy_X5_waitFor rfl ho0 rfl (ci := 9) rfl rfl rfl (by decide) (Nat.le_of_ble_eq_true rfl) (by decide) ?_
        exact j_ireturn C dL_asked_30 (e_i h hg) (by decide) (by decide)
      · by_cases c11 : r3 = "java/util/NoSuchElementException"
        · subst c11
          have h := (if_pos rfl).symm.trans h
          refine j_catV C X (c_X5_waitFor n G σ o0 a1 ho0 _ _ h5) dL_asked_27 (gV u_407 u_409 u_410 u_211 u_408) rfl hy_X5_waitFor rfl ho0 rfl (ci := 9) rfl rfl rfl (by decide) (Nat.le_of_ble_eq_true rfl) (by decide) [] ⟨0, 30, 31, 67⟩ [⟨0, 30, 36, 31⟩, ⟨0, 30, 41, 84⟩] rfl (fun z hz => by cases hz) (by decide) (by decide) (mU u_343) (by decide) (fun q10 => ?_)
          refine j_astore_n C dL_asked_31 (by decide) [(3, .ref q10), (0, .ref (G.2.2 (o0))), (1, .int (a1)), (2, .int (a2))] rfl ?_
          refine j_sipush C dL_asked_32 ((-1001 : Int32)) (by decide) ?_
          exact j_ireturn C dL_asked_35 (e_i h hg) (by decide) (by decide)
        have h := (if_neg c11).symm.trans h
        by_cases c9 : r3 = "java/lang/IndexOutOfBoundsException"
        · subst c9
          have h := (if_pos rfl).symm.trans h
          refine j_catV C X (c_X5_waitFor n G σ o0 a1 ho0 _ _ h5) dL_asked_27 (gV u_407 u_409 u_410 u_211 u_408) rfl hy_X5_waitFor rfl ho0 rfl (ci := 9) rfl rfl rfl (by decide) (Nat.le_of_ble_eq_true rfl) (by decide) [⟨0, 30, 31, 67⟩] ⟨0, 30, 36, 31⟩ [⟨0, 30, 41, 84⟩] rfl (fun z hz => by rcases List.mem_cons.mp hz with rfl | hz; exact Or.inr ⟨by decide, "java/util/NoSuchElementException", (mU u_343), by decide, by decide⟩; cases hz) (by decide) (by decide) (mU u_334) (by decide) (fun q8 => ?_)
          refine j_astore_n C dL_asked_36 (by decide) [(3, .ref q8), (0, .ref (G.2.2 (o0))), (1, .int (a1)), (2, .int (a2))] rfl ?_
          refine j_sipush C dL_asked_37 ((-1001 : Int32)) (by decide) ?_
          exact j_ireturn C dL_asked_40 (e_i h hg) (by decide) (by decide)
        have h := (if_neg c9).symm.trans h
        by_cases c7 : r3 = "java/lang/UnsupportedOperationException"
        · subst c7
          have h := (if_pos rfl).symm.trans h
          refine j_catV C X (c_X5_waitFor n G σ o0 a1 ho0 _ _ h5) dL_asked_27 (gV u_407 u_409 u_410 u_211 u_408) rfl hy_X5_waitFor rfl ho0 rfl (ci := 9) rfl rfl rfl (by decide) (Nat.le_of_ble_eq_true rfl) (by decide) [⟨0, 30, 31, 67⟩, ⟨0, 30, 36, 31⟩] ⟨0, 30, 41, 84⟩ [] rfl (fun z hz => by rcases List.mem_cons.mp hz with rfl | hz; exact Or.inr ⟨by decide, "java/util/NoSuchElementException", (mU u_343), by decide, by decide⟩; rcases List.mem_cons.mp hz with rfl | hz; exact Or.inr ⟨by decide, "java/lang/IndexOutOfBoundsException", (mU u_334), by decide, by decide⟩; cases hz) (by decide) (by decide) (mU u_394) (by decide) (fun q6 => ?_)
          refine j_astore_n C dL_asked_41 (by decide) [(3, .ref q6), (0, .ref (G.2.2 (o0))), (1, .int (a1)), (2, .int (a2))] rfl ?_
          refine j_sipush C dL_asked_42 ((-1002 : Int32)) (by decide) ?_
          exact j_ireturn C dL_asked_45 (e_i h hg) (by decide) (by decide)
        have h := (if_neg c7).symm.trans h
        cases h
    · have h := (if_pos c2).symm.trans h
      refine j_aload_n C dL_asked_17 0 rfl ?_
      refine j_iload_n C dL_asked_18 1 rfl ?_
      obtain ⟨⟨r12, σ13⟩, h14, h⟩ := ob h
      try dsimp only at h
      rcases r12 with r12 | r12 <;> (try dsimp only at h)
      · refine j_callV C X (c_X5_waitingAt n G σ o0 a1 ho0 _ _ h14) dL_asked_19 (gV u_411 u_413 u_414 u_211 u_412) rfl hy_X5_waitingAt rfl ho0 rfl (ci := 9) rfl rfl rfl (by decide) (Nat.le_of_ble_eq_true rfl) (by decide) ?_
        refine j_goto C dL_asked_22 30 (by decide) ?_
        exact j_ireturn C dL_asked_30 (e_i h hg) (by decide) (by decide)
      · by_cases c20 : r12 = "java/util/NoSuchElementException"
        · subst c20
          have h := (if_pos rfl).symm.trans h
          refine j_catV C X (c_X5_waitingAt n G σ o0 a1 ho0 _ _ h14) dL_asked_19 (gV u_411 u_413 u_414 u_211 u_412) rfl hy_X5_waitingAt rfl ho0 rfl (ci := 9) rfl rfl rfl (by decide) (Nat.le_of_ble_eq_true rfl) (by decide) [] ⟨0, 30, 31, 67⟩ [⟨0, 30, 36, 31⟩, ⟨0, 30, 41, 84⟩] rfl (fun z hz => by cases hz) (by decide) (by decide) (mU u_343) (by decide) (fun q19 => ?_)
          refine j_astore_n C dL_asked_31 (by decide) [(3, .ref q19), (0, .ref (G.2.2 (o0))), (1, .int (a1)), (2, .int (a2))] rfl ?_
          refine j_sipush C dL_asked_32 ((-1001 : Int32)) (by decide) ?_
          exact j_ireturn C dL_asked_35 (e_i h hg) (by decide) (by decide)
        have h := (if_neg c20).symm.trans h
        by_cases c18 : r12 = "java/lang/IndexOutOfBoundsException"
        · subst c18
          have h := (if_pos rfl).symm.trans h
          refine j_catV C X (c_X5_waitingAt n G σ o0 a1 ho0 _ _ h14) dL_asked_19 (gV u_411 u_413 u_414 u_211 u_412) rfl hy_X5_waitingAt rfl ho0 rfl (ci := 9) rfl rfl rfl (by decide) (Nat.le_of_ble_eq_true rfl) (by decide) [⟨0, 30, 31, 67⟩] ⟨0, 30, 36, 31⟩ [⟨0, 30, 41, 84⟩] rfl (fun z hz => by rcases List.mem_cons.mp hz with rfl | hz; exact Or.inr ⟨by decide, "java/util/NoSuchElementException", (mU u_343), by decide, by decide⟩; cases hz) (by decide) (by decide) (mU u_334) (by decide) (fun q17 => ?_)
          refine j_astore_n C dL_asked_36 (by decide) [(3, .ref q17), (0, .ref (G.2.2 (o0))), (1, .int (a1)), (2, .int (a2))] rfl ?_
          refine j_sipush C dL_asked_37 ((-1001 : Int32)) (by decide) ?_
          exact j_ireturn C dL_asked_40 (e_i h hg) (by decide) (by decide)
        have h := (if_neg c18).symm.trans h
        by_cases c16 : r12 = "java/lang/UnsupportedOperationException"
        · subst c16
          have h := (if_pos rfl).symm.trans h
          refine j_catV C X (c_X5_waitingAt n G σ o0 a1 ho0 _ _ h14) dL_asked_19 (gV u_411 u_413 u_414 u_211 u_412) rfl hy_X5_waitingAt rfl ho0 rfl (ci := 9) rfl rfl rfl (by decide) (Nat.le_of_ble_eq_true rfl) (by decide) [⟨0, 30, 31, 67⟩, ⟨0, 30, 36, 31⟩] ⟨0, 30, 41, 84⟩ [] rfl (fun z hz => by rcases List.mem_cons.mp hz with rfl | hz; exact Or.inr ⟨by decide, "java/util/NoSuchElementException", (mU u_343), by decide, by decide⟩; rcases List.mem_cons.mp hz with rfl | hz; exact Or.inr ⟨by decide, "java/lang/IndexOutOfBoundsException", (mU u_334), by decide, by decide⟩; cases hz) (by decide) (by decide) (mU u_394) (by decide) (fun q15 => ?_)
          refine j_astore_n C dL_asked_41 (by decide) [(3, .ref q15), (0, .ref (G.2.2 (o0))), (1, .int (a1)), (2, .int (a2))] rfl ?_
          refine j_sipush C dL_asked_42 ((-1002 : Int32)) (by decide) ?_
          exact j_ireturn C dL_asked_45 (e_i h hg) (by decide) (by decide)
        have h := (if_neg c16).symm.trans h
        cases h
  · have h := (if_pos c1).symm.trans h
    refine j_aload_n C dL_asked_4 0 rfl ?_
    refine j_iload_n C dL_asked_5 1 rfl ?_
    obtain ⟨⟨r21, σ22⟩, h23, h⟩ := ob h
    try dsimp only at h
    rcases r21 with r21 | r21 <;> (try dsimp only at h)
    · refine j_callV C X (c_X5_cancel n G σ o0 a1 ho0 _ _ h23) dL_asked_6 (gV u_415 u_417 u_418 u_211 u_416) rfl hy_X5_cancel rfl ho0 rfl (ci := 9) rfl rfl rfl (by decide) (Nat.le_of_ble_eq_true rfl) (by decide) ?_
      refine j_goto C dL_asked_9 30 (by decide) ?_
      exact j_ireturn C dL_asked_30 (e_i h hg) (by decide) (by decide)
    · by_cases c29 : r21 = "java/util/NoSuchElementException"
      · subst c29
        have h := (if_pos rfl).symm.trans h
        refine j_catV C X (c_X5_cancel n G σ o0 a1 ho0 _ _ h23) dL_asked_6 (gV u_415 u_417 u_418 u_211 u_416) rfl hy_X5_cancel rfl ho0 rfl (ci := 9) rfl rfl rfl (by decide) (Nat.le_of_ble_eq_true rfl) (by decide) [] ⟨0, 30, 31, 67⟩ [⟨0, 30, 36, 31⟩, ⟨0, 30, 41, 84⟩] rfl (fun z hz => by cases hz) (by decide) (by decide) (mU u_343) (by decide) (fun q28 => ?_)
        refine j_astore_n C dL_asked_31 (by decide) [(3, .ref q28), (0, .ref (G.2.2 (o0))), (1, .int (a1)), (2, .int (a2))] rfl ?_
        refine j_sipush C dL_asked_32 ((-1001 : Int32)) (by decide) ?_
        exact j_ireturn C dL_asked_35 (e_i h hg) (by decide) (by decide)
      have h := (if_neg c29).symm.trans h
      by_cases c27 : r21 = "java/lang/IndexOutOfBoundsException"
      · subst c27
        have h := (if_pos rfl).symm.trans h
        refine j_catV C X (c_X5_cancel n G σ o0 a1 ho0 _ _ h23) dL_asked_6 (gV u_415 u_417 u_418 u_211 u_416) rfl hy_X5_cancel rfl ho0 rfl (ci := 9) rfl rfl rfl (by decide) (Nat.le_of_ble_eq_true rfl) (by decide) [⟨0, 30, 31, 67⟩] ⟨0, 30, 36, 31⟩ [⟨0, 30, 41, 84⟩] rfl (fun z hz => by rcases List.mem_cons.mp hz with rfl | hz; exact Or.inr ⟨by decide, "java/util/NoSuchElementException", (mU u_343), by decide, by decide⟩; cases hz) (by decide) (by decide) (mU u_334) (by decide) (fun q26 => ?_)
        refine j_astore_n C dL_asked_36 (by decide) [(3, .ref q26), (0, .ref (G.2.2 (o0))), (1, .int (a1)), (2, .int (a2))] rfl ?_
        refine j_sipush C dL_asked_37 ((-1001 : Int32)) (by decide) ?_
        exact j_ireturn C dL_asked_40 (e_i h hg) (by decide) (by decide)
      have h := (if_neg c27).symm.trans h
      by_cases c25 : r21 = "java/lang/UnsupportedOperationException"
      · subst c25
        have h := (if_pos rfl).symm.trans h
        refine j_catV C X (c_X5_cancel n G σ o0 a1 ho0 _ _ h23) dL_asked_6 (gV u_415 u_417 u_418 u_211 u_416) rfl hy_X5_cancel rfl ho0 rfl (ci := 9) rfl rfl rfl (by decide) (Nat.le_of_ble_eq_true rfl) (by decide) [⟨0, 30, 31, 67⟩, ⟨0, 30, 36, 31⟩] ⟨0, 30, 41, 84⟩ [] rfl (fun z hz => by rcases List.mem_cons.mp hz with rfl | hz; exact Or.inr ⟨by decide, "java/util/NoSuchElementException", (mU u_343), by decide, by decide⟩; rcases List.mem_cons.mp hz with rfl | hz; exact Or.inr ⟨by decide, "java/lang/IndexOutOfBoundsException", (mU u_334), by decide, by decide⟩; cases hz) (by decide) (by decide) (mU u_394) (by decide) (fun q24 => ?_)
        refine j_astore_n C dL_asked_41 (by decide) [(3, .ref q24), (0, .ref (G.2.2 (o0))), (1, .int (a1)), (2, .int (a2))] rfl ?_
        refine j_sipush C dL_asked_42 ((-1002 : Int32)) (by decide) ?_
        exact j_ireturn C dL_asked_45 (e_i h hg) (by decide) (by decide)
      have h := (if_neg c25).symm.trans h
      cases h
def sp_L_trip (n : Nat) (σ : Mem) (o0 : Nat) (a1 : Int32) : Option (Int32 × Mem) := if a1 = 0 then ((sp_X5_tripLevel n σ o0).bind fun q => match q with | (.inl r13, σ14) => some (r13, σ14) | (.inr E, σ14) => (if E = "java/util/NoSuchElementException" then some ((-1001 : Int32), σ14) else none)) else if a1 = (1 : Int32) then ((sp_X5_tripLoad n σ o0).bind fun q => match q with | (.inl r8, σ9) => some (r8, σ9) | (.inr E, σ9) => (if E = "java/util/NoSuchElementException" then some ((-1001 : Int32), σ9) else none)) else ((sp_X5_tripRest n σ o0).bind fun q => match q with | (.inl r3, σ4) => some (r3, σ4) | (.inr E, σ4) => (if E = "java/util/NoSuchElementException" then some ((-1001 : Int32), σ4) else none))
abbrev rm_L_trip : Room := ({ frames := 13, cells := 1, slots := 6, locals := 260 } : Room)
abbrev wu_L_trip : List Cond := (Cond.codeWith yL_trip cL_trip 3 (some .int) [(0, 27, 28, 67)]) :: wsU
theorem hy_L_trip : hyOk yL_trip 2 := by decide +kernel
set_option maxRecDepth 20000 in
set_option maxHeartbeats 4000000 in
theorem c_L_trip (n : Nat) (G : Gt) (σ : Mem) (o0 : Nat) (a1 : Int32) (ho0 : Ok o0 5) (r : Int32) (σ' : Mem) (h : sp_L_trip n σ o0 a1 = some (r, σ')) : MM yL_trip wu_L_trip rm_L_trip [.ref (G.2.2 (o0)), .int (a1)] G σ (.inl (some (.int r))) σ' := by
  refine mm_ofW (cc := cL_trip) (maxL := 3) (ret := (some .int)) (by decide +kernel) rfl (Nat.le_of_ble_eq_true rfl) (fun x C X hg => ?_)
  have C : Cx x cL_trip 3 RL (some .int) (tableOf [(0, 27, 28, 67)]) wu_L_trip rm_L_trip G.1 (tysF G) := C
  unfold sp_L_trip at h
  show J x [(0, .ref (G.2.2 (o0))), (1, .int (a1))] [] σ 0 0 0
  refine j_iload_n C dL_trip_0 1 rfl ?_
  refine j_if_ne C dL_trip_1 11 (by decide) (fun c1 => ?_) (fun c1 => ?_)
  · have h := (if_neg c1).symm.trans h
    refine j_iload_n C dL_trip_11 1 rfl ?_
    refine j_iconst C dL_trip_12 ((1 : Int32)) (by decide) ?_
    refine j_icmp_ne C dL_trip_13 23 (by decide) (fun c2 => ?_) (fun c2 => ?_)
    · have h := (if_neg c2).symm.trans h
      refine j_aload_n C dL_trip_23 0 rfl ?_
      obtain ⟨⟨r3, σ4⟩, h5, h⟩ := ob h
      try dsimp only at h
      rcases r3 with r3 | r3 <;> (try dsimp only at h)
      · refine j_callV C X (c_X5_tripRest n G σ o0 ho0 _ _ h5) dL_trip_24 (gV u_419 u_421 u_422 u_211 u_420) rfl hy_X5_tripRest rfl ho0 rfl (ci := 9) rfl rfl rfl (by decide) (Nat.le_of_ble_eq_true rfl) (by decide) ?_
        exact j_ireturn C dL_trip_27 (e_i h hg) (by decide) (by decide)
      · by_cases c7 : r3 = "java/util/NoSuchElementException"
        · subst c7
          have h := (if_pos rfl).symm.trans h
          refine j_catV C X (c_X5_tripRest n G σ o0 ho0 _ _ h5) dL_trip_24 (gV u_419 u_421 u_422 u_211 u_420) rfl hy_X5_tripRest rfl ho0 rfl (ci := 9) rfl rfl rfl (by decide) (Nat.le_of_ble_eq_true rfl) (by decide) [] ⟨0, 27, 28, 67⟩ [] rfl (fun z hz => by cases hz) (by decide) (by decide) (mU u_343) (by decide) (fun q6 => ?_)
          refine j_astore_n C dL_trip_28 (by decide) [(2, .ref q6), (0, .ref (G.2.2 (o0))), (1, .int (a1))] rfl ?_
          refine j_sipush C dL_trip_29 ((-1001 : Int32)) (by decide) ?_
          exact j_ireturn C dL_trip_32 (e_i h hg) (by decide) (by decide)
        have h := (if_neg c7).symm.trans h
        cases h
    · have h := (if_pos c2).symm.trans h
      refine j_aload_n C dL_trip_16 0 rfl ?_
      obtain ⟨⟨r8, σ9⟩, h10, h⟩ := ob h
      try dsimp only at h
      rcases r8 with r8 | r8 <;> (try dsimp only at h)
      · refine j_callV C X (c_X5_tripLoad n G σ o0 ho0 _ _ h10) dL_trip_17 (gV u_423 u_425 u_426 u_211 u_424) rfl hy_X5_tripLoad rfl ho0 rfl (ci := 9) rfl rfl rfl (by decide) (Nat.le_of_ble_eq_true rfl) (by decide) ?_
        refine j_goto C dL_trip_20 27 (by decide) ?_
        exact j_ireturn C dL_trip_27 (e_i h hg) (by decide) (by decide)
      · by_cases c12 : r8 = "java/util/NoSuchElementException"
        · subst c12
          have h := (if_pos rfl).symm.trans h
          refine j_catV C X (c_X5_tripLoad n G σ o0 ho0 _ _ h10) dL_trip_17 (gV u_423 u_425 u_426 u_211 u_424) rfl hy_X5_tripLoad rfl ho0 rfl (ci := 9) rfl rfl rfl (by decide) (Nat.le_of_ble_eq_true rfl) (by decide) [] ⟨0, 27, 28, 67⟩ [] rfl (fun z hz => by cases hz) (by decide) (by decide) (mU u_343) (by decide) (fun q11 => ?_)
          refine j_astore_n C dL_trip_28 (by decide) [(2, .ref q11), (0, .ref (G.2.2 (o0))), (1, .int (a1))] rfl ?_
          refine j_sipush C dL_trip_29 ((-1001 : Int32)) (by decide) ?_
          exact j_ireturn C dL_trip_32 (e_i h hg) (by decide) (by decide)
        have h := (if_neg c12).symm.trans h
        cases h
  · have h := (if_pos c1).symm.trans h
    refine j_aload_n C dL_trip_4 0 rfl ?_
    obtain ⟨⟨r13, σ14⟩, h15, h⟩ := ob h
    try dsimp only at h
    rcases r13 with r13 | r13 <;> (try dsimp only at h)
    · refine j_callV C X (c_X5_tripLevel n G σ o0 ho0 _ _ h15) dL_trip_5 (gV u_427 u_429 u_430 u_211 u_428) rfl hy_X5_tripLevel rfl ho0 rfl (ci := 9) rfl rfl rfl (by decide) (Nat.le_of_ble_eq_true rfl) (by decide) ?_
      refine j_goto C dL_trip_8 27 (by decide) ?_
      exact j_ireturn C dL_trip_27 (e_i h hg) (by decide) (by decide)
    · by_cases c17 : r13 = "java/util/NoSuchElementException"
      · subst c17
        have h := (if_pos rfl).symm.trans h
        refine j_catV C X (c_X5_tripLevel n G σ o0 ho0 _ _ h15) dL_trip_5 (gV u_427 u_429 u_430 u_211 u_428) rfl hy_X5_tripLevel rfl ho0 rfl (ci := 9) rfl rfl rfl (by decide) (Nat.le_of_ble_eq_true rfl) (by decide) [] ⟨0, 27, 28, 67⟩ [] rfl (fun z hz => by cases hz) (by decide) (by decide) (mU u_343) (by decide) (fun q16 => ?_)
        refine j_astore_n C dL_trip_28 (by decide) [(2, .ref q16), (0, .ref (G.2.2 (o0))), (1, .int (a1))] rfl ?_
        refine j_sipush C dL_trip_29 ((-1001 : Int32)) (by decide) ?_
        exact j_ireturn C dL_trip_32 (e_i h hg) (by decide) (by decide)
      have h := (if_neg c17).symm.trans h
      cases h
def lp_L_sum_191 (n : Nat) (o0 : Nat) : Nat → Mem → Int64 → Int32 → Option (Int64 × Mem)
  | 0, _, _, _ => none
  | k + 1, σ, l1, l3 => ((sp_X5_waitingCount n σ o0).bind fun q => match q with | (r32, σ33) => if r32 ≤ l3 then ((sp_L_trip n σ33 o0 ((0 : Int32))).bind fun q => match q with | (r36, σ37) => ((sp_L_trip n σ37 o0 ((1 : Int32))).bind fun q => match q with | (r39, σ40) => ((sp_L_trip n σ40 o0 ((2 : Int32))).bind fun q => match q with | (r42, σ43) => some ((((((31 : Int64) * l1) + ((r36).toInt64)) + ((3 : Int64) * ((r39).toInt64))) + ((5 : Int64) * ((r42).toInt64))), σ43)))) else ((sp_L_asked n σ33 o0 l3 ((1 : Int32))).bind fun q => match q with | (r45, σ46) => lp_L_sum_191 n o0 k σ46 ((((31 : Int64) * l1) + ((r45).toInt64))) ((l3 + (1 : Int32)))))
theorem lp_L_sum_191_s (n : Nat) (o0 : Nat) (k : Nat) (σ : Mem) (l1 : Int64) (l3 : Int32) : lp_L_sum_191 n o0 (k + 1) σ l1 l3 = (((sp_X5_waitingCount n σ o0).bind fun q => match q with | (r32, σ33) => if r32 ≤ l3 then ((sp_L_trip n σ33 o0 ((0 : Int32))).bind fun q => match q with | (r36, σ37) => ((sp_L_trip n σ37 o0 ((1 : Int32))).bind fun q => match q with | (r39, σ40) => ((sp_L_trip n σ40 o0 ((2 : Int32))).bind fun q => match q with | (r42, σ43) => some ((((((31 : Int64) * l1) + ((r36).toInt64)) + ((3 : Int64) * ((r39).toInt64))) + ((5 : Int64) * ((r42).toInt64))), σ43)))) else ((sp_L_asked n σ33 o0 l3 ((1 : Int32))).bind fun q => match q with | (r45, σ46) => lp_L_sum_191 n o0 k σ46 ((((31 : Int64) * l1) + ((r45).toInt64))) ((l3 + (1 : Int32)))))) := rfl
def lp_L_sum_182 (n : Nat) (o0 : Nat) (K : Mem → Int64 → Int32 → Option (Int64 × Mem)) (σ : Mem) (l1 : Int64) (l3 : Int32) (s0 : Int64) : Option (Int64 × Mem) := K σ s0 ((l3 + (1 : Int32)))
def lp_L_sum_88 (n : Nat) (o0 : Nat) : Nat → Mem → Int64 → Int32 → Option (Int64 × Mem)
  | 0, _, _, _ => none
  | k + 1, σ, l1, l3 => ((sp_X5_levelCount n σ o0).bind fun q => match q with | (r28, σ29) => if r28 < l3 then lp_L_sum_191 n o0 10 σ29 l1 ((0 : Int32)) else ((sp_L_of n σ29 o0 l3 ((7 : Int32))).bind fun q => match q with | (r48, σ49) => ((sp_L_of n σ49 o0 l3 ((8 : Int32))).bind fun q => match q with | (r51, σ52) => if l3 = 0 then lp_L_sum_182 n o0 (fun σ l1 l3 => lp_L_sum_88 n o0 k σ l1 l3) σ52 (((((31 : Int64) * l1) + ((r48).toInt64)) + ((3 : Int64) * ((r51).toInt64)))) l3 (((((31 : Int64) * l1) + ((r48).toInt64)) + ((3 : Int64) * ((r51).toInt64)))) else ((sp_L_of n σ52 o0 l3 ((1 : Int32))).bind fun q => match q with | (r55, σ56) => ((sp_L_of n σ56 o0 l3 ((3 : Int32))).bind fun q => match q with | (r58, σ59) => ((sp_L_of n σ59 o0 l3 ((5 : Int32))).bind fun q => match q with | (r61, σ62) => ((sp_L_of n σ62 o0 l3 ((9 : Int32))).bind fun q => match q with | (r64, σ65) => lp_L_sum_182 n o0 (fun σ l1 l3 => lp_L_sum_88 n o0 k σ l1 l3) σ65 (((((31 : Int64) * l1) + ((r48).toInt64)) + ((3 : Int64) * ((r51).toInt64)))) l3 (((((((31 : Int64) * ((((31 : Int64) * l1) + ((r48).toInt64)) + ((3 : Int64) * ((r51).toInt64)))) + ((r55).toInt64)) + ((3 : Int64) * ((r58).toInt64))) + ((5 : Int64) * ((r61).toInt64))) + ((7 : Int64) * ((r64).toInt64)))))))))))
theorem lp_L_sum_88_s (n : Nat) (o0 : Nat) (k : Nat) (σ : Mem) (l1 : Int64) (l3 : Int32) : lp_L_sum_88 n o0 (k + 1) σ l1 l3 = (((sp_X5_levelCount n σ o0).bind fun q => match q with | (r28, σ29) => if r28 < l3 then lp_L_sum_191 n o0 10 σ29 l1 ((0 : Int32)) else ((sp_L_of n σ29 o0 l3 ((7 : Int32))).bind fun q => match q with | (r48, σ49) => ((sp_L_of n σ49 o0 l3 ((8 : Int32))).bind fun q => match q with | (r51, σ52) => if l3 = 0 then lp_L_sum_182 n o0 (fun σ l1 l3 => lp_L_sum_88 n o0 k σ l1 l3) σ52 (((((31 : Int64) * l1) + ((r48).toInt64)) + ((3 : Int64) * ((r51).toInt64)))) l3 (((((31 : Int64) * l1) + ((r48).toInt64)) + ((3 : Int64) * ((r51).toInt64)))) else ((sp_L_of n σ52 o0 l3 ((1 : Int32))).bind fun q => match q with | (r55, σ56) => ((sp_L_of n σ56 o0 l3 ((3 : Int32))).bind fun q => match q with | (r58, σ59) => ((sp_L_of n σ59 o0 l3 ((5 : Int32))).bind fun q => match q with | (r61, σ62) => ((sp_L_of n σ62 o0 l3 ((9 : Int32))).bind fun q => match q with | (r64, σ65) => lp_L_sum_182 n o0 (fun σ l1 l3 => lp_L_sum_88 n o0 k σ l1 l3) σ65 (((((31 : Int64) * l1) + ((r48).toInt64)) + ((3 : Int64) * ((r51).toInt64)))) l3 (((((((31 : Int64) * ((((31 : Int64) * l1) + ((r48).toInt64)) + ((3 : Int64) * ((r51).toInt64)))) + ((r55).toInt64)) + ((3 : Int64) * ((r58).toInt64))) + ((5 : Int64) * ((r61).toInt64))) + ((7 : Int64) * ((r64).toInt64)))))))))))) := rfl
def sp_L_sum (n : Nat) (σ : Mem) (o0 : Nat) : Option (Int64 × Mem) := ((sp_X5_clock n σ o0).bind fun q => match q with | (r1, σ2) => ((sp_X5_gasTotal n σ2 o0).bind fun q => match q with | (r4, σ5) => ((sp_X5_ventedTotal n σ5 o0).bind fun q => match q with | (r7, σ8) => ((sp_X5_peopleTotal n σ8 o0).bind fun q => match q with | (r10, σ11) => ((sp_X5_waitingCount n σ11 o0).bind fun q => match q with | (r13, σ14) => ((sp_X5_doneCount n σ14 o0).bind fun q => match q with | (r16, σ17) => ((sp_X5_droppedCount n σ17 o0).bind fun q => match q with | (r19, σ20) => ((sp_X5_tripKind n σ20 o0).bind fun q => match q with | (r22, σ23) => ((sp_X5_cageLevel n σ23 o0).bind fun q => match q with | (r25, σ26) => lp_L_sum_88 n o0 10 σ26 (((((((((((r1).toInt64) + ((31 : Int64) * ((r4).toInt64))) + ((961 : Int64) * ((r7).toInt64))) + ((7 : Int64) * ((r10).toInt64))) + ((11 : Int64) * ((r13).toInt64))) + ((13 : Int64) * ((r16).toInt64))) + ((17 : Int64) * ((r19).toInt64))) + ((19 : Int64) * ((r22).toInt64))) + ((23 : Int64) * ((r25).toInt64)))) ((0 : Int32)))))))))))
abbrev rm_L_sum : Room := ({ frames := 18, cells := 133, slots := 798, locals := 379 } : Room)
abbrev wu_L_sum : List Cond := (Cond.code yL_sum cL_sum 4 (some .long)) :: wsU
theorem hy_L_sum : hyOk yL_sum 1 := by decide +kernel
set_option maxRecDepth 20000 in
set_option maxHeartbeats 4000000 in
theorem c_L_sum (n : Nat) (G : Gt) (σ : Mem) (o0 : Nat) (ho0 : Ok o0 5) (r : Int64) (σ' : Mem) (h : sp_L_sum n σ o0 = some (r, σ')) : MM yL_sum wu_L_sum rm_L_sum [.ref (G.2.2 (o0))] G σ (.inl (some (.long r))) σ' := by
  refine mm_of (cc := cL_sum) (maxL := 4) (ret := (some .long)) (by decide +kernel) rfl (Nat.le_of_ble_eq_true rfl) (fun x C X hg => ?_)
  have C : Cx x cL_sum 4 RL (some .long) [] wu_L_sum rm_L_sum G.1 (tysF G) := C
  have LP191 : ∀ (k : Nat) (σ : Mem) (l1 : Int64) (l3 : Int32) (kc : Nat) (ns : Nat), kc + 1 * k + 3 ≤ 133 → ns + 6 * k + 18 ≤ 798 → lp_L_sum_191 n o0 k σ l1 l3 = some (r, σ') → J x [(0, .ref (G.2.2 (o0))), (1, .long (l1)), (3, .int (l3))] [] σ 191 kc ns := by
    intro k
    induction k with
    | zero => intro σ l1 l3 kc ns hk hn h; cases h
    | succ k ih =>
    intro σ l1 l3 kc ns hk hn h
    rw [lp_L_sum_191_s] at h
    refine j_iload_n C dL_sum_191 2 rfl ?_
    refine j_aload_n C dL_sum_192 0 rfl ?_
    obtain ⟨⟨r32, σ33⟩, h34, h⟩ := ob h
    try dsimp only at h
    refine j_callV C X (c_X5_waitingCount n G σ o0 ho0 _ _ h34) dL_sum_193 (gV u_451 u_453 u_454 u_211 u_452) rfl hy_X5_waitingCount rfl ho0 rfl (ci := 9) rfl rfl rfl (by decide) (Nat.le_of_ble_eq_true rfl) (show kc + 0 ≤ 133 ∧ ns + 0 ≤ 798 by omega) ?_
    refine j_icmp_ge C dL_sum_196 219 (by decide) (fun c35 => ?_) (fun c35 => ?_)
    · have h := (if_pos c35).symm.trans h
      refine j_ldc2 C dL_sum_219 (mU u_435) ?_
      refine j_lload_n C dL_sum_222 1 rfl ?_
      refine j_lmul C dL_sum_223 ?_
      refine j_aload_n C dL_sum_224 0 rfl ?_
      refine j_iconst C dL_sum_225 ((0 : Int32)) (by decide) ?_
      obtain ⟨⟨r36, σ37⟩, h38, h⟩ := ob h
      try dsimp only at h
      refine j_callSX C X (c_L_trip n G σ33 o0 ((0 : Int32)) ho0 _ _ h38) dL_sum_226 (gSX u_479 u_482 u_480 u_481) rfl hy_L_trip rfl rfl (by decide) (Nat.le_of_ble_eq_true rfl) (show kc + 0 + 1 ≤ 133 ∧ ns + 0 + 6 ≤ 798 by omega) ?_
      refine j_i2l C dL_sum_229 ?_
      refine j_ladd C dL_sum_230 ?_
      refine j_ldc2 C dL_sum_231 (mU u_483) ?_
      refine j_aload_n C dL_sum_234 0 rfl ?_
      refine j_iconst C dL_sum_235 ((1 : Int32)) (by decide) ?_
      obtain ⟨⟨r39, σ40⟩, h41, h⟩ := ob h
      try dsimp only at h
      refine j_callSX C X (c_L_trip n G σ37 o0 ((1 : Int32)) ho0 _ _ h41) dL_sum_236 (gSX u_479 u_482 u_480 u_481) rfl hy_L_trip rfl rfl (by decide) (Nat.le_of_ble_eq_true rfl) (show kc + 0 + 1 + 1 ≤ 133 ∧ ns + 0 + 6 + 6 ≤ 798 by omega) ?_
      refine j_i2l C dL_sum_239 ?_
      refine j_lmul C dL_sum_240 ?_
      refine j_ladd C dL_sum_241 ?_
      refine j_ldc2 C dL_sum_242 (mU u_484) ?_
      refine j_aload_n C dL_sum_245 0 rfl ?_
      refine j_iconst C dL_sum_246 ((2 : Int32)) (by decide) ?_
      obtain ⟨⟨r42, σ43⟩, h44, h⟩ := ob h
      try dsimp only at h
      refine j_callSX C X (c_L_trip n G σ40 o0 ((2 : Int32)) ho0 _ _ h44) dL_sum_247 (gSX u_479 u_482 u_480 u_481) rfl hy_L_trip rfl rfl (by decide) (Nat.le_of_ble_eq_true rfl) (show kc + 0 + 1 + 1 + 1 ≤ 133 ∧ ns + 0 + 6 + 6 + 6 ≤ 798 by omega) ?_
      refine j_i2l C dL_sum_250 ?_
      refine j_lmul C dL_sum_251 ?_
      refine j_ladd C dL_sum_252 ?_
      exact j_lreturn C dL_sum_253 (e_l h hg) (show kc + 0 + 1 + 1 + 1 ≤ 133 by omega) (show ns + 0 + 6 + 6 + 6 ≤ 798 by omega)
    · have h := (if_neg c35).symm.trans h
      refine j_ldc2 C dL_sum_199 (mU u_435) ?_
      refine j_lload_n C dL_sum_202 1 rfl ?_
      refine j_lmul C dL_sum_203 ?_
      refine j_aload_n C dL_sum_204 0 rfl ?_
      refine j_iload_n C dL_sum_205 2 rfl ?_
      refine j_iconst C dL_sum_206 ((1 : Int32)) (by decide) ?_
      obtain ⟨⟨r45, σ46⟩, h47, h⟩ := ob h
      try dsimp only at h
      refine j_callSX C X (c_L_asked n G σ33 o0 l3 ((1 : Int32)) ho0 _ _ h47) dL_sum_207 (gSX u_485 u_487 u_480 u_486) rfl hy_L_asked rfl rfl (by decide) (Nat.le_of_ble_eq_true rfl) (show kc + 0 + 1 ≤ 133 ∧ ns + 0 + 6 ≤ 798 by omega) ?_
      refine j_i2l C dL_sum_210 ?_
      refine j_ladd C dL_sum_211 ?_
      refine j_lstore_n C dL_sum_212 (by decide) [(1, .long ((((31 : Int64) * l1) + ((r45).toInt64)))), (0, .ref (G.2.2 (o0))), (3, .int (l3))] rfl ?_
      refine j_iinc C dL_sum_213 2 rfl ((1 : Int32)) (by decide) (by decide) [(3, .int ((l3 + (1 : Int32)))), (1, .long ((((31 : Int64) * l1) + ((r45).toInt64)))), (0, .ref (G.2.2 (o0)))] rfl ?_
      refine j_goto C dL_sum_216 191 (by decide) ?_
      refine j_sub [2, 1, 0] [(0, .ref (G.2.2 (o0))), (1, .long ((((31 : Int64) * l1) + ((r45).toInt64)))), (3, .int ((l3 + (1 : Int32))))] rfl ?_
      exact ih σ46 ((((31 : Int64) * l1) + ((r45).toInt64))) ((l3 + (1 : Int32))) (kc + 0 + 1) (ns + 0 + 6) (by omega) (by omega) h
  have JP182 : ∀ (B : Nat) (hB : B ≤ 133) (K : Mem → Int64 → Int32 → Option (Int64 × Mem)) (hK : ∀ (σ : Mem) (l1 : Int64) (l3 : Int32) (kc : Nat) (ns : Nat), kc ≤ B → ns ≤ 6 * B → K σ l1 l3 = some (r, σ') → J x [(0, .ref (G.2.2 (o0))), (1, .long (l1)), (3, .int (l3))] [] σ 88 kc ns) (σ : Mem) (l1 : Int64) (l3 : Int32) (s0 : Int64) (kc : Nat) (ns : Nat), kc + 0 ≤ B → ns + 0 ≤ 6 * B → lp_L_sum_182 n o0 K σ l1 l3 s0 = some (r, σ') → J x [(0, .ref (G.2.2 (o0))), (1, .long (l1)), (3, .int (l3))] [.long (s0)] σ 182 kc ns := by
    intro B hB K hK σ l1 l3 s0 kc ns hk hn h
    unfold lp_L_sum_182 at h
    refine j_lstore_n C dL_sum_182 (by decide) [(1, .long (s0)), (0, .ref (G.2.2 (o0))), (3, .int (l3))] rfl ?_
    refine j_iinc C dL_sum_183 2 rfl ((1 : Int32)) (by decide) (by decide) [(3, .int ((l3 + (1 : Int32)))), (1, .long (s0)), (0, .ref (G.2.2 (o0)))] rfl ?_
    refine j_goto C dL_sum_186 88 (by decide) ?_
    refine j_sub [2, 1, 0] [(0, .ref (G.2.2 (o0))), (1, .long (s0)), (3, .int ((l3 + (1 : Int32))))] rfl ?_
    exact hK σ s0 ((l3 + (1 : Int32))) (kc) (ns) (by omega) (by omega) h
  have LP88 : ∀ (k : Nat) (σ : Mem) (l1 : Int64) (l3 : Int32) (kc : Nat) (ns : Nat), kc + 12 * k + 13 ≤ 133 → ns + 72 * k + 78 ≤ 798 → lp_L_sum_88 n o0 k σ l1 l3 = some (r, σ') → J x [(0, .ref (G.2.2 (o0))), (1, .long (l1)), (3, .int (l3))] [] σ 88 kc ns := by
    intro k
    induction k with
    | zero => intro σ l1 l3 kc ns hk hn h; cases h
    | succ k ih =>
    intro σ l1 l3 kc ns hk hn h
    rw [lp_L_sum_88_s] at h
    refine j_iload_n C dL_sum_88 2 rfl ?_
    refine j_aload_n C dL_sum_89 0 rfl ?_
    obtain ⟨⟨r28, σ29⟩, h30, h⟩ := ob h
    try dsimp only at h
    refine j_callV C X (c_X5_levelCount n G σ o0 ho0 _ _ h30) dL_sum_90 (gV u_475 u_477 u_478 u_211 u_476) rfl hy_X5_levelCount rfl ho0 rfl (ci := 9) rfl rfl rfl (by decide) (Nat.le_of_ble_eq_true rfl) (show kc + 0 ≤ 133 ∧ ns + 0 ≤ 798 by omega) ?_
    refine j_icmp_gt C dL_sum_93 189 (by decide) (fun c31 => ?_) (fun c31 => ?_)
    · have h := (if_pos c31).symm.trans h
      refine j_iconst C dL_sum_189 ((0 : Int32)) (by decide) ?_
      refine j_istore_n C dL_sum_190 (by decide) [(3, .int ((0 : Int32))), (0, .ref (G.2.2 (o0))), (1, .long (l1))] rfl ?_
      refine j_sub [1, 2, 0] [(0, .ref (G.2.2 (o0))), (1, .long (l1)), (3, .int ((0 : Int32)))] rfl ?_
      exact LP191 10 σ29 l1 ((0 : Int32)) (kc + 0) (ns + 0) (by omega) (by omega) h
    · have h := (if_neg c31).symm.trans h
      refine j_ldc2 C dL_sum_96 (mU u_435) ?_
      refine j_lload_n C dL_sum_99 1 rfl ?_
      refine j_lmul C dL_sum_100 ?_
      refine j_aload_n C dL_sum_101 0 rfl ?_
      refine j_iload_n C dL_sum_102 2 rfl ?_
      refine j_bipush C dL_sum_103 ((7 : Int32)) (by decide) ?_
      obtain ⟨⟨r48, σ49⟩, h50, h⟩ := ob h
      try dsimp only at h
      refine j_callSX C X (c_L_of n G σ29 o0 l3 ((7 : Int32)) ho0 _ _ h50) dL_sum_105 (gSX u_488 u_490 u_480 u_489) rfl hy_L_of rfl rfl (by decide) (Nat.le_of_ble_eq_true rfl) (show kc + 0 + 2 ≤ 133 ∧ ns + 0 + 12 ≤ 798 by omega) ?_
      refine j_i2l C dL_sum_108 ?_
      refine j_ladd C dL_sum_109 ?_
      refine j_ldc2 C dL_sum_110 (mU u_483) ?_
      refine j_aload_n C dL_sum_113 0 rfl ?_
      refine j_iload_n C dL_sum_114 2 rfl ?_
      refine j_bipush C dL_sum_115 ((8 : Int32)) (by decide) ?_
      obtain ⟨⟨r51, σ52⟩, h53, h⟩ := ob h
      try dsimp only at h
      refine j_callSX C X (c_L_of n G σ49 o0 l3 ((8 : Int32)) ho0 _ _ h53) dL_sum_117 (gSX u_488 u_490 u_480 u_489) rfl hy_L_of rfl rfl (by decide) (Nat.le_of_ble_eq_true rfl) (show kc + 0 + 2 + 2 ≤ 133 ∧ ns + 0 + 12 + 12 ≤ 798 by omega) ?_
      refine j_i2l C dL_sum_120 ?_
      refine j_lmul C dL_sum_121 ?_
      refine j_ladd C dL_sum_122 ?_
      refine j_lstore_n C dL_sum_123 (by decide) [(1, .long (((((31 : Int64) * l1) + ((r48).toInt64)) + ((3 : Int64) * ((r51).toInt64))))), (0, .ref (G.2.2 (o0))), (3, .int (l3))] rfl ?_
      refine j_iload_n C dL_sum_124 2 rfl ?_
      refine j_if_ne C dL_sum_125 132 (by decide) (fun c54 => ?_) (fun c54 => ?_)
      · have h := (if_neg c54).symm.trans h
        refine j_ldc2 C dL_sum_132 (mU u_435) ?_
        refine j_lload_n C dL_sum_135 0 rfl ?_
        refine j_lmul C dL_sum_136 ?_
        refine j_aload_n C dL_sum_137 1 rfl ?_
        refine j_iload_n C dL_sum_138 2 rfl ?_
        refine j_iconst C dL_sum_139 ((1 : Int32)) (by decide) ?_
        obtain ⟨⟨r55, σ56⟩, h57, h⟩ := ob h
        try dsimp only at h
        refine j_callSX C X (c_L_of n G σ52 o0 l3 ((1 : Int32)) ho0 _ _ h57) dL_sum_140 (gSX u_488 u_490 u_480 u_489) rfl hy_L_of rfl rfl (by decide) (Nat.le_of_ble_eq_true rfl) (show kc + 0 + 2 + 2 + 2 ≤ 133 ∧ ns + 0 + 12 + 12 + 12 ≤ 798 by omega) ?_
        refine j_i2l C dL_sum_143 ?_
        refine j_ladd C dL_sum_144 ?_
        refine j_ldc2 C dL_sum_145 (mU u_483) ?_
        refine j_aload_n C dL_sum_148 1 rfl ?_
        refine j_iload_n C dL_sum_149 2 rfl ?_
        refine j_iconst C dL_sum_150 ((3 : Int32)) (by decide) ?_
        obtain ⟨⟨r58, σ59⟩, h60, h⟩ := ob h
        try dsimp only at h
        refine j_callSX C X (c_L_of n G σ56 o0 l3 ((3 : Int32)) ho0 _ _ h60) dL_sum_151 (gSX u_488 u_490 u_480 u_489) rfl hy_L_of rfl rfl (by decide) (Nat.le_of_ble_eq_true rfl) (show kc + 0 + 2 + 2 + 2 + 2 ≤ 133 ∧ ns + 0 + 12 + 12 + 12 + 12 ≤ 798 by omega) ?_
        refine j_i2l C dL_sum_154 ?_
        refine j_lmul C dL_sum_155 ?_
        refine j_ladd C dL_sum_156 ?_
        refine j_ldc2 C dL_sum_157 (mU u_484) ?_
        refine j_aload_n C dL_sum_160 1 rfl ?_
        refine j_iload_n C dL_sum_161 2 rfl ?_
        refine j_iconst C dL_sum_162 ((5 : Int32)) (by decide) ?_
        obtain ⟨⟨r61, σ62⟩, h63, h⟩ := ob h
        try dsimp only at h
        refine j_callSX C X (c_L_of n G σ59 o0 l3 ((5 : Int32)) ho0 _ _ h63) dL_sum_163 (gSX u_488 u_490 u_480 u_489) rfl hy_L_of rfl rfl (by decide) (Nat.le_of_ble_eq_true rfl) (show kc + 0 + 2 + 2 + 2 + 2 + 2 ≤ 133 ∧ ns + 0 + 12 + 12 + 12 + 12 + 12 ≤ 798 by omega) ?_
        refine j_i2l C dL_sum_166 ?_
        refine j_lmul C dL_sum_167 ?_
        refine j_ladd C dL_sum_168 ?_
        refine j_ldc2 C dL_sum_169 (mU u_445) ?_
        refine j_aload_n C dL_sum_172 1 rfl ?_
        refine j_iload_n C dL_sum_173 2 rfl ?_
        refine j_bipush C dL_sum_174 ((9 : Int32)) (by decide) ?_
        obtain ⟨⟨r64, σ65⟩, h66, h⟩ := ob h
        try dsimp only at h
        refine j_callSX C X (c_L_of n G σ62 o0 l3 ((9 : Int32)) ho0 _ _ h66) dL_sum_176 (gSX u_488 u_490 u_480 u_489) rfl hy_L_of rfl rfl (by decide) (Nat.le_of_ble_eq_true rfl) (show kc + 0 + 2 + 2 + 2 + 2 + 2 + 2 ≤ 133 ∧ ns + 0 + 12 + 12 + 12 + 12 + 12 + 12 ≤ 798 by omega) ?_
        refine j_i2l C dL_sum_179 ?_
        refine j_lmul C dL_sum_180 ?_
        refine j_ladd C dL_sum_181 ?_
        refine j_sub [1, 0, 2] [(0, .ref (G.2.2 (o0))), (1, .long (((((31 : Int64) * l1) + ((r48).toInt64)) + ((3 : Int64) * ((r51).toInt64))))), (3, .int (l3))] rfl ?_
        exact JP182 (133 - 13 - 12 * k) (by omega) (fun σ l1 l3 => lp_L_sum_88 n o0 k σ l1 l3) (fun σ l1 l3 kc9 ns9 h1 h2 h3 => ih σ l1 l3 kc9 ns9 (by omega) (by omega) h3) σ65 (((((31 : Int64) * l1) + ((r48).toInt64)) + ((3 : Int64) * ((r51).toInt64)))) l3 (((((((31 : Int64) * ((((31 : Int64) * l1) + ((r48).toInt64)) + ((3 : Int64) * ((r51).toInt64)))) + ((r55).toInt64)) + ((3 : Int64) * ((r58).toInt64))) + ((5 : Int64) * ((r61).toInt64))) + ((7 : Int64) * ((r64).toInt64)))) (kc + 0 + 2 + 2 + 2 + 2 + 2 + 2) (ns + 0 + 12 + 12 + 12 + 12 + 12 + 12) (by omega) (by omega) h
      · have h := (if_pos c54).symm.trans h
        refine j_lload_n C dL_sum_128 0 rfl ?_
        refine j_goto C dL_sum_129 182 (by decide) ?_
        refine j_sub [1, 0, 2] [(0, .ref (G.2.2 (o0))), (1, .long (((((31 : Int64) * l1) + ((r48).toInt64)) + ((3 : Int64) * ((r51).toInt64))))), (3, .int (l3))] rfl ?_
        exact JP182 (133 - 13 - 12 * k) (by omega) (fun σ l1 l3 => lp_L_sum_88 n o0 k σ l1 l3) (fun σ l1 l3 kc9 ns9 h1 h2 h3 => ih σ l1 l3 kc9 ns9 (by omega) (by omega) h3) σ52 (((((31 : Int64) * l1) + ((r48).toInt64)) + ((3 : Int64) * ((r51).toInt64)))) l3 (((((31 : Int64) * l1) + ((r48).toInt64)) + ((3 : Int64) * ((r51).toInt64)))) (kc + 0 + 2 + 2) (ns + 0 + 12 + 12) (by omega) (by omega) h
  unfold sp_L_sum at h
  show J x [(0, .ref (G.2.2 (o0)))] [] σ 0 0 0
  refine j_aload_n C dL_sum_0 0 rfl ?_
  obtain ⟨⟨r1, σ2⟩, h3, h⟩ := ob h
  try dsimp only at h
  refine j_callV C X (c_X5_clock n G σ o0 ho0 _ _ h3) dL_sum_1 (gV u_431 u_433 u_434 u_211 u_432) rfl hy_X5_clock rfl ho0 rfl (ci := 9) rfl rfl rfl (by decide) (Nat.le_of_ble_eq_true rfl) (show 0 + 0 ≤ 133 ∧ 0 + 0 ≤ 798 by omega) ?_
  refine j_i2l C dL_sum_4 ?_
  refine j_ldc2 C dL_sum_5 (mU u_435) ?_
  refine j_aload_n C dL_sum_8 0 rfl ?_
  obtain ⟨⟨r4, σ5⟩, h6, h⟩ := ob h
  try dsimp only at h
  refine j_callV C X (c_X5_gasTotal n G σ2 o0 ho0 _ _ h6) dL_sum_9 (gV u_436 u_438 u_439 u_211 u_437) rfl hy_X5_gasTotal rfl ho0 rfl (ci := 9) rfl rfl rfl (by decide) (Nat.le_of_ble_eq_true rfl) (show 0 + 0 + 0 ≤ 133 ∧ 0 + 0 + 0 ≤ 798 by omega) ?_
  refine j_i2l C dL_sum_12 ?_
  refine j_lmul C dL_sum_13 ?_
  refine j_ladd C dL_sum_14 ?_
  refine j_ldc2 C dL_sum_15 (mU u_440) ?_
  refine j_aload_n C dL_sum_18 0 rfl ?_
  obtain ⟨⟨r7, σ8⟩, h9, h⟩ := ob h
  try dsimp only at h
  refine j_callV C X (c_X5_ventedTotal n G σ5 o0 ho0 _ _ h9) dL_sum_19 (gV u_441 u_443 u_444 u_211 u_442) rfl hy_X5_ventedTotal rfl ho0 rfl (ci := 9) rfl rfl rfl (by decide) (Nat.le_of_ble_eq_true rfl) (show 0 + 0 + 0 + 0 ≤ 133 ∧ 0 + 0 + 0 + 0 ≤ 798 by omega) ?_
  refine j_i2l C dL_sum_22 ?_
  refine j_lmul C dL_sum_23 ?_
  refine j_ladd C dL_sum_24 ?_
  refine j_ldc2 C dL_sum_25 (mU u_445) ?_
  refine j_aload_n C dL_sum_28 0 rfl ?_
  obtain ⟨⟨r10, σ11⟩, h12, h⟩ := ob h
  try dsimp only at h
  refine j_callV C X (c_X5_peopleTotal n G σ8 o0 ho0 _ _ h12) dL_sum_29 (gV u_446 u_448 u_449 u_211 u_447) rfl hy_X5_peopleTotal rfl ho0 rfl (ci := 9) rfl rfl rfl (by decide) (Nat.le_of_ble_eq_true rfl) (show 0 + 0 + 0 + 0 + 0 ≤ 133 ∧ 0 + 0 + 0 + 0 + 0 ≤ 798 by omega) ?_
  refine j_i2l C dL_sum_32 ?_
  refine j_lmul C dL_sum_33 ?_
  refine j_ladd C dL_sum_34 ?_
  refine j_ldc2 C dL_sum_35 (mU u_450) ?_
  refine j_aload_n C dL_sum_38 0 rfl ?_
  obtain ⟨⟨r13, σ14⟩, h15, h⟩ := ob h
  try dsimp only at h
  refine j_callV C X (c_X5_waitingCount n G σ11 o0 ho0 _ _ h15) dL_sum_39 (gV u_451 u_453 u_454 u_211 u_452) rfl hy_X5_waitingCount rfl ho0 rfl (ci := 9) rfl rfl rfl (by decide) (Nat.le_of_ble_eq_true rfl) (show 0 + 0 + 0 + 0 + 0 + 0 ≤ 133 ∧ 0 + 0 + 0 + 0 + 0 + 0 ≤ 798 by omega) ?_
  refine j_i2l C dL_sum_42 ?_
  refine j_lmul C dL_sum_43 ?_
  refine j_ladd C dL_sum_44 ?_
  refine j_ldc2 C dL_sum_45 (mU u_455) ?_
  refine j_aload_n C dL_sum_48 0 rfl ?_
  obtain ⟨⟨r16, σ17⟩, h18, h⟩ := ob h
  try dsimp only at h
  refine j_callV C X (c_X5_doneCount n G σ14 o0 ho0 _ _ h18) dL_sum_49 (gV u_456 u_458 u_459 u_211 u_457) rfl hy_X5_doneCount rfl ho0 rfl (ci := 9) rfl rfl rfl (by decide) (Nat.le_of_ble_eq_true rfl) (show 0 + 0 + 0 + 0 + 0 + 0 + 0 ≤ 133 ∧ 0 + 0 + 0 + 0 + 0 + 0 + 0 ≤ 798 by omega) ?_
  refine j_i2l C dL_sum_52 ?_
  refine j_lmul C dL_sum_53 ?_
  refine j_ladd C dL_sum_54 ?_
  refine j_ldc2 C dL_sum_55 (mU u_460) ?_
  refine j_aload_n C dL_sum_58 0 rfl ?_
  obtain ⟨⟨r19, σ20⟩, h21, h⟩ := ob h
  try dsimp only at h
  refine j_callV C X (c_X5_droppedCount n G σ17 o0 ho0 _ _ h21) dL_sum_59 (gV u_461 u_463 u_464 u_211 u_462) rfl hy_X5_droppedCount rfl ho0 rfl (ci := 9) rfl rfl rfl (by decide) (Nat.le_of_ble_eq_true rfl) (show 0 + 0 + 0 + 0 + 0 + 0 + 0 + 0 ≤ 133 ∧ 0 + 0 + 0 + 0 + 0 + 0 + 0 + 0 ≤ 798 by omega) ?_
  refine j_i2l C dL_sum_62 ?_
  refine j_lmul C dL_sum_63 ?_
  refine j_ladd C dL_sum_64 ?_
  refine j_ldc2 C dL_sum_65 (mU u_465) ?_
  refine j_aload_n C dL_sum_68 0 rfl ?_
  obtain ⟨⟨r22, σ23⟩, h24, h⟩ := ob h
  try dsimp only at h
  refine j_callV C X (c_X5_tripKind n G σ20 o0 ho0 _ _ h24) dL_sum_69 (gV u_466 u_468 u_469 u_211 u_467) rfl hy_X5_tripKind rfl ho0 rfl (ci := 9) rfl rfl rfl (by decide) (Nat.le_of_ble_eq_true rfl) (show 0 + 0 + 0 + 0 + 0 + 0 + 0 + 0 + 0 ≤ 133 ∧ 0 + 0 + 0 + 0 + 0 + 0 + 0 + 0 + 0 ≤ 798 by omega) ?_
  refine j_i2l C dL_sum_72 ?_
  refine j_lmul C dL_sum_73 ?_
  refine j_ladd C dL_sum_74 ?_
  refine j_ldc2 C dL_sum_75 (mU u_470) ?_
  refine j_aload_n C dL_sum_78 0 rfl ?_
  obtain ⟨⟨r25, σ26⟩, h27, h⟩ := ob h
  try dsimp only at h
  refine j_callV C X (c_X5_cageLevel n G σ23 o0 ho0 _ _ h27) dL_sum_79 (gV u_471 u_473 u_474 u_211 u_472) rfl hy_X5_cageLevel rfl ho0 rfl (ci := 9) rfl rfl rfl (by decide) (Nat.le_of_ble_eq_true rfl) (show 0 + 0 + 0 + 0 + 0 + 0 + 0 + 0 + 0 + 0 ≤ 133 ∧ 0 + 0 + 0 + 0 + 0 + 0 + 0 + 0 + 0 + 0 ≤ 798 by omega) ?_
  refine j_i2l C dL_sum_82 ?_
  refine j_lmul C dL_sum_83 ?_
  refine j_ladd C dL_sum_84 ?_
  refine j_lstore_n C dL_sum_85 (by decide) [(1, .long (((((((((((r1).toInt64) + ((31 : Int64) * ((r4).toInt64))) + ((961 : Int64) * ((r7).toInt64))) + ((7 : Int64) * ((r10).toInt64))) + ((11 : Int64) * ((r13).toInt64))) + ((13 : Int64) * ((r16).toInt64))) + ((17 : Int64) * ((r19).toInt64))) + ((19 : Int64) * ((r22).toInt64))) + ((23 : Int64) * ((r25).toInt64))))), (0, .ref (G.2.2 (o0)))] rfl ?_
  refine j_iconst C dL_sum_86 ((0 : Int32)) (by decide) ?_
  refine j_istore_n C dL_sum_87 (by decide) [(3, .int ((0 : Int32))), (1, .long (((((((((((r1).toInt64) + ((31 : Int64) * ((r4).toInt64))) + ((961 : Int64) * ((r7).toInt64))) + ((7 : Int64) * ((r10).toInt64))) + ((11 : Int64) * ((r13).toInt64))) + ((13 : Int64) * ((r16).toInt64))) + ((17 : Int64) * ((r19).toInt64))) + ((19 : Int64) * ((r22).toInt64))) + ((23 : Int64) * ((r25).toInt64))))), (0, .ref (G.2.2 (o0)))] rfl ?_
  refine j_sub [2, 1, 0] [(0, .ref (G.2.2 (o0))), (1, .long (((((((((((r1).toInt64) + ((31 : Int64) * ((r4).toInt64))) + ((961 : Int64) * ((r7).toInt64))) + ((7 : Int64) * ((r10).toInt64))) + ((11 : Int64) * ((r13).toInt64))) + ((13 : Int64) * ((r16).toInt64))) + ((17 : Int64) * ((r19).toInt64))) + ((19 : Int64) * ((r22).toInt64))) + ((23 : Int64) * ((r25).toInt64))))), (3, .int ((0 : Int32)))] rfl ?_
  exact LP88 10 σ26 (((((((((((r1).toInt64) + ((31 : Int64) * ((r4).toInt64))) + ((961 : Int64) * ((r7).toInt64))) + ((7 : Int64) * ((r10).toInt64))) + ((11 : Int64) * ((r13).toInt64))) + ((13 : Int64) * ((r16).toInt64))) + ((17 : Int64) * ((r19).toInt64))) + ((19 : Int64) * ((r22).toInt64))) + ((23 : Int64) * ((r25).toInt64)))) ((0 : Int32)) (0 + 0 + 0 + 0 + 0 + 0 + 0 + 0 + 0 + 0) (0 + 0 + 0 + 0 + 0 + 0 + 0 + 0 + 0 + 0) (by omega) (by omega) h
def lp_L_isSound_327 (n : Nat) (o0 : Nat) (a1 : Int32) (σ : Mem) (l1 : Int32) (l2 : Int32) (l3 : Int32) (l4 : Int32) (l5 : Int32) (l6 : Int32) (l7 : Int32) (l8 : Int32) (l9 : Int32) (l10 : Int32) (l11 : Int32) : Option (Int32 × Mem) := some ((0 : Int32), σ)
def lp_L_isSound_444 (n : Nat) (o0 : Nat) (a1 : Int32) (σ : Mem) (l1 : Int32) (l2 : Int32) (l3 : Int32) (l4 : Int32) (l5 : Int32) (l6 : Int32) (l7 : Int32) (l8 : Int32) (l9 : Int32) (l10 : Int32) (l11 : Int32) : Option (Int32 × Mem) := some ((0 : Int32), σ)
def lp_L_isSound_397 (n : Nat) (o0 : Nat) (a1 : Int32) (σ : Mem) (l1 : Int32) (l2 : Int32) (l3 : Int32) (l4 : Int32) (l5 : Int32) (l6 : Int32) (l7 : Int32) (l8 : Int32) (l9 : Int32) (l10 : Int32) (l11 : Int32) (s0 : Int32) (s1 : Int32) : Option (Int32 × Mem) := if s1 = s0 then ((sp_X5_peopleTotal n σ o0).bind fun q => match q with | (r32, σ33) => if l4 = r32 then if l5 = l1 then ((sp_X5_endangered n σ33 o0).bind fun q => match q with | (r37, σ38) => if r37 = l6 then ((sp_X5_waitingCount n σ38 o0).bind fun q => match q with | (r41, σ42) => if (8 : Int32) < r41 then lp_L_isSound_444 n o0 a1 σ42 l1 l2 l3 l4 l5 l6 l7 l8 l9 l10 l11 else ((sp_X5_isConsistent n σ42 o0).bind fun q => match q with | (r45, σ46) => if r45 = 0 then lp_L_isSound_444 n o0 a1 σ46 l1 l2 l3 l4 l5 l6 l7 l8 l9 l10 l11 else some ((1 : Int32), σ46))) else lp_L_isSound_444 n o0 a1 σ38 l1 l2 l3 l4 l5 l6 l7 l8 l9 l10 l11) else lp_L_isSound_444 n o0 a1 σ33 l1 l2 l3 l4 l5 l6 l7 l8 l9 l10 l11 else lp_L_isSound_444 n o0 a1 σ33 l1 l2 l3 l4 l5 l6 l7 l8 l9 l10 l11) else lp_L_isSound_444 n o0 a1 σ l1 l2 l3 l4 l5 l6 l7 l8 l9 l10 l11
def lp_L_isSound_369 (n : Nat) (o0 : Nat) (a1 : Int32) (σ : Mem) (l1 : Int32) (l2 : Int32) (l3 : Int32) (l4 : Int32) (l5 : Int32) (l6 : Int32) (l7 : Int32) (l8 : Int32) (l9 : Int32) (l10 : Int32) (l11 : Int32) (s0 : Int32) (s1 : Int32) : Option (Int32 × Mem) := ((sp_X5_ventedTotal n σ o0).bind fun q => match q with | (r23, σ24) => ((sp_X5_gasTotal n σ24 o0).bind fun q => match q with | (r26, σ27) => if (l2 + r23) = r26 then if l7 = 0 then lp_L_isSound_397 n o0 a1 σ27 l1 l2 l3 l4 ((s1 + s0)) l6 l7 l8 l9 l10 l11 ((0 : Int32)) l3 else lp_L_isSound_397 n o0 a1 σ27 l1 l2 l3 l4 ((s1 + s0)) l6 l7 l8 l9 l10 l11 l8 l3 else lp_L_isSound_444 n o0 a1 σ27 l1 l2 l3 l4 ((s1 + s0)) l6 l7 l8 l9 l10 l11))
def lp_L_isSound_351 (n : Nat) (o0 : Nat) (a1 : Int32) (σ : Mem) (l1 : Int32) (l2 : Int32) (l3 : Int32) (l4 : Int32) (l5 : Int32) (l6 : Int32) (l7 : Int32) (l8 : Int32) (l9 : Int32) (l10 : Int32) (l11 : Int32) (s0 : Int32) (s1 : Int32) : Option (Int32 × Mem) := if l10 = (111 : Int32) then lp_L_isSound_369 n o0 a1 σ l1 l2 l3 ((s1 + s0)) l5 l6 l7 l8 l9 l10 l11 l11 l5 else lp_L_isSound_369 n o0 a1 σ l1 l2 l3 ((s1 + s0)) l5 l6 l7 l8 l9 l10 l11 ((0 : Int32)) l5
def lp_L_isSound_329 (n : Nat) (o0 : Nat) (a1 : Int32) (σ : Mem) (l1 : Int32) (l2 : Int32) (l3 : Int32) (l4 : Int32) (l5 : Int32) (l6 : Int32) (l7 : Int32) (l8 : Int32) (l9 : Int32) (l10 : Int32) (l11 : Int32) : Option (Int32 × Mem) := if l10 = (45 : Int32) then lp_L_isSound_351 n o0 a1 σ l1 l2 l3 l4 l5 l6 l7 l8 l9 l10 l11 ((0 : Int32)) l4 else if l10 = (111 : Int32) then lp_L_isSound_351 n o0 a1 σ l1 l2 l3 l4 l5 l6 l7 l8 l9 l10 l11 ((0 : Int32)) l4 else lp_L_isSound_351 n o0 a1 σ l1 l2 l3 l4 l5 l6 l7 l8 l9 l10 l11 l11 l4
def lp_L_isSound_274 (n : Nat) (o0 : Nat) (a1 : Int32) (σ : Mem) (l1 : Int32) (l2 : Int32) (l3 : Int32) (l4 : Int32) (l5 : Int32) (l6 : Int32) (l7 : Int32) (l8 : Int32) (l9 : Int32) (l10 : Int32) (l11 : Int32) (s0 : Int32) (s1 : Int32) : Option (Int32 × Mem) := if s1 = s0 then if l10 = (45 : Int32) then lp_L_isSound_329 n o0 a1 σ l1 l2 l3 l4 l5 l6 l7 l8 l9 l10 l11 else if l11 < (1 : Int32) then lp_L_isSound_327 n o0 a1 σ l1 l2 l3 l4 l5 l6 l7 l8 l9 l10 l11 else if (20 : Int32) < l11 then lp_L_isSound_327 n o0 a1 σ l1 l2 l3 l4 l5 l6 l7 l8 l9 l10 l11 else ((sp_L_trip n σ o0 ((2 : Int32))).bind fun q => match q with | (r52, σ53) => if r52 < (1 : Int32) then lp_L_isSound_327 n o0 a1 σ53 l1 l2 l3 l4 l5 l6 l7 l8 l9 l10 l11 else ((sp_L_trip n σ53 o0 ((0 : Int32))).bind fun q => match q with | (r56, σ57) => if r56 < (1 : Int32) then lp_L_isSound_327 n o0 a1 σ57 l1 l2 l3 l4 l5 l6 l7 l8 l9 l10 l11 else ((sp_L_trip n σ57 o0 ((0 : Int32))).bind fun q => match q with | (r60, σ61) => ((sp_X5_levelCount n σ61 o0).bind fun q => match q with | (r63, σ64) => if r60 ≤ r63 then lp_L_isSound_329 n o0 a1 σ64 l1 l2 l3 l4 l5 l6 l7 l8 l9 l10 l11 else lp_L_isSound_327 n o0 a1 σ64 l1 l2 l3 l4 l5 l6 l7 l8 l9 l10 l11)))) else lp_L_isSound_327 n o0 a1 σ l1 l2 l3 l4 l5 l6 l7 l8 l9 l10 l11
def lp_L_isSound_261 (n : Nat) (o0 : Nat) (a1 : Int32) (σ : Mem) (l1 : Int32) (l2 : Int32) (l3 : Int32) (l4 : Int32) (l5 : Int32) (l6 : Int32) (l7 : Int32) (l8 : Int32) (l9 : Int32) (l10 : Int32) (l11 : Int32) (s0 : Int32) : Option (Int32 × Mem) := if l11 = (-1001 : Int32) then lp_L_isSound_274 n o0 a1 σ l1 l2 l3 l4 l5 l6 l7 l8 l9 l10 l11 ((1 : Int32)) s0 else lp_L_isSound_274 n o0 a1 σ l1 l2 l3 l4 l5 l6 l7 l8 l9 l10 l11 ((0 : Int32)) s0
def lp_L_isSound_236 (n : Nat) (o0 : Nat) (a1 : Int32) (σ : Mem) (l1 : Int32) (l2 : Int32) (l3 : Int32) (l4 : Int32) (l5 : Int32) (l6 : Int32) (l7 : Int32) (l8 : Int32) (l9 : Int32) (l10 : Int32) : Option (Int32 × Mem) := ((sp_X5_tripKind n σ o0).bind fun q => match q with | (r11, σ12) => ((sp_L_trip n σ12 o0 ((1 : Int32))).bind fun q => match q with | (r14, σ15) => if r11 = (45 : Int32) then lp_L_isSound_261 n o0 a1 σ15 l1 l2 l3 l4 l5 l6 l7 l8 l9 r11 r14 ((1 : Int32)) else lp_L_isSound_261 n o0 a1 σ15 l1 l2 l3 l4 l5 l6 l7 l8 l9 r11 r14 ((0 : Int32))))
def lp_L_isSound_230 (n : Nat) (o0 : Nat) (a1 : Int32) (K : Mem → Int32 → Int32 → Int32 → Int32 → Int32 → Int32 → Int32 → Int32 → Int32 → Int32 → Option (Int32 × Mem)) (σ : Mem) (l1 : Int32) (l2 : Int32) (l3 : Int32) (l4 : Int32) (l5 : Int32) (l6 : Int32) (l7 : Int32) (l8 : Int32) (l9 : Int32) (l10 : Int32) : Option (Int32 × Mem) := K σ l1 l2 l3 l4 l5 l6 l7 l8 l9 ((l10 + (1 : Int32)))
def lp_L_isSound_228 (n : Nat) (o0 : Nat) (a1 : Int32) (K : Mem → Int32 → Int32 → Int32 → Int32 → Int32 → Int32 → Int32 → Int32 → Int32 → Int32 → Option (Int32 × Mem)) (σ : Mem) (l1 : Int32) (l2 : Int32) (l3 : Int32) (l4 : Int32) (l5 : Int32) (l6 : Int32) (l7 : Int32) (l8 : Int32) (l9 : Int32) (l10 : Int32) (l11 : Int32) : Option (Int32 × Mem) := some ((0 : Int32), σ)
def lp_L_isSound_206 (n : Nat) (o0 : Nat) (a1 : Int32) (K : Mem → Int32 → Int32 → Int32 → Int32 → Int32 → Int32 → Int32 → Int32 → Int32 → Int32 → Option (Int32 × Mem)) (σ : Mem) (l1 : Int32) (l2 : Int32) (l3 : Int32) (l4 : Int32) (l5 : Int32) (l6 : Int32) (l7 : Int32) (l8 : Int32) (l9 : Int32) (l10 : Int32) (l11 : Int32) (s0 : Int32) (s1 : Int32) : Option (Int32 × Mem) := if s1 = s0 then ((sp_L_of n σ o0 l10 ((0 : Int32))).bind fun q => match q with | (r103, σ104) => ((sp_L_of n σ104 o0 ((l10 - (1 : Int32))) ((0 : Int32))).bind fun q => match q with | (r106, σ107) => if r106 < r103 then lp_L_isSound_230 n o0 a1 K σ107 l1 l2 l3 l4 l5 l6 l7 l8 l9 l10 else lp_L_isSound_228 n o0 a1 K σ107 l1 l2 l3 l4 l5 l6 l7 l8 l9 l10 l11)) else lp_L_isSound_228 n o0 a1 K σ l1 l2 l3 l4 l5 l6 l7 l8 l9 l10 l11
def lp_L_isSound_190 (n : Nat) (o0 : Nat) (a1 : Int32) (K : Mem → Int32 → Int32 → Int32 → Int32 → Int32 → Int32 → Int32 → Int32 → Int32 → Int32 → Option (Int32 × Mem)) (σ : Mem) (l1 : Int32) (l2 : Int32) (l3 : Int32) (l4 : Int32) (l5 : Int32) (l6 : Int32) (l7 : Int32) (l8 : Int32) (l9 : Int32) (l10 : Int32) (l11 : Int32) (s0 : Int32) : Option (Int32 × Mem) := ((sp_L_of n σ o0 l10 ((6 : Int32))).bind fun q => match q with | (r98, σ99) => if r98 = 0 then lp_L_isSound_206 n o0 a1 K σ99 l1 l2 l3 l4 l5 l6 l7 l8 l9 l10 l11 ((1 : Int32)) s0 else lp_L_isSound_206 n o0 a1 K σ99 l1 l2 l3 l4 l5 l6 l7 l8 l9 l10 l11 ((0 : Int32)) s0)
def lp_L_isSound_144 (n : Nat) (o0 : Nat) (a1 : Int32) (K : Mem → Int32 → Int32 → Int32 → Int32 → Int32 → Int32 → Int32 → Int32 → Int32 → Int32 → Option (Int32 × Mem)) (σ : Mem) (l1 : Int32) (l2 : Int32) (l3 : Int32) (l4 : Int32) (l5 : Int32) (l6 : Int32) (l7 : Int32) (l8 : Int32) (l9 : Int32) (l10 : Int32) (l11 : Int32) (s0 : Int32) (s1 : Int32) : Option (Int32 × Mem) := ((sp_L_of n σ o0 l10 ((2 : Int32))).bind fun q => match q with | (r85, σ86) => if l11 = r85 then if l11 < 0 then lp_L_isSound_228 n o0 a1 K σ86 l1 l2 l3 l4 l5 ((s1 + s0)) l7 l8 l9 l10 l11 else ((sp_L_of n σ86 o0 l10 ((3 : Int32))).bind fun q => match q with | (r90, σ91) => if r90 < 0 then lp_L_isSound_228 n o0 a1 K σ91 l1 l2 l3 l4 l5 ((s1 + s0)) l7 l8 l9 l10 l11 else ((sp_L_of n σ91 o0 l10 ((5 : Int32))).bind fun q => match q with | (r94, σ95) => if r94 = (1 : Int32) then lp_L_isSound_190 n o0 a1 K σ95 l1 l2 l3 l4 l5 ((s1 + s0)) l7 l8 l9 l10 l11 ((1 : Int32)) else lp_L_isSound_190 n o0 a1 K σ95 l1 l2 l3 l4 l5 ((s1 + s0)) l7 l8 l9 l10 l11 ((0 : Int32)))) else lp_L_isSound_228 n o0 a1 K σ86 l1 l2 l3 l4 l5 ((s1 + s0)) l7 l8 l9 l10 l11)
def lp_L_isSound_117 (n : Nat) (o0 : Nat) (a1 : Int32) (K : Mem → Int32 → Int32 → Int32 → Int32 → Int32 → Int32 → Int32 → Int32 → Int32 → Int32 → Option (Int32 × Mem)) (σ : Mem) (l1 : Int32) (l2 : Int32) (l3 : Int32) (l4 : Int32) (l5 : Int32) (l6 : Int32) (l7 : Int32) (l8 : Int32) (l9 : Int32) (l10 : Int32) (l11 : Int32) (s0 : Int32) : Option (Int32 × Mem) := ((sp_L_of n σ o0 l10 ((5 : Int32))).bind fun q => match q with | (r81, σ82) => if r81 = (1 : Int32) then ((sp_L_of n σ82 o0 l10 ((7 : Int32))).bind fun q => match q with | (r110, σ111) => lp_L_isSound_144 n o0 a1 K σ111 l1 l2 l3 l4 l5 l6 s0 l8 l9 l10 l11 r110 l6) else lp_L_isSound_144 n o0 a1 K σ82 l1 l2 l3 l4 l5 l6 s0 l8 l9 l10 l11 ((0 : Int32)) l6)
def lp_L_isSound_38 (n : Nat) (o0 : Nat) (a1 : Int32) : Nat → Mem → Int32 → Int32 → Int32 → Int32 → Int32 → Int32 → Int32 → Int32 → Int32 → Int32 → Option (Int32 × Mem)
  | 0, _, _, _, _, _, _, _, _, _, _, _ => none
  | k + 1, σ, l1, l2, l3, l4, l5, l6, l7, l8, l9, l10 => ((sp_X5_levelCount n σ o0).bind fun q => match q with | (r7, σ8) => if r7 < l10 then lp_L_isSound_236 n o0 a1 σ8 l1 l2 l3 l4 l5 l6 l7 l8 l9 l10 else ((sp_L_of n σ8 o0 l10 ((7 : Int32))).bind fun q => match q with | (r67, σ68) => ((sp_L_of n σ68 o0 l10 ((8 : Int32))).bind fun q => match q with | (r70, σ71) => if l10 ≤ 0 then lp_L_isSound_230 n o0 a1 (fun σ l1 l2 l3 l4 l5 l6 l7 l8 l9 l10 => lp_L_isSound_38 n o0 a1 k σ l1 l2 l3 l4 l5 l6 l7 l8 l9 l10) σ71 l1 l2 l3 ((l4 + r67)) ((l5 + r70)) l6 l7 l8 l9 l10 else ((sp_L_of n σ71 o0 l10 ((1 : Int32))).bind fun q => match q with | (r74, σ75) => ((sp_L_of n σ75 o0 l10 ((3 : Int32))).bind fun q => match q with | (r77, σ78) => if l7 = 0 then if r74 ≤ 0 then lp_L_isSound_117 n o0 a1 (fun σ l1 l2 l3 l4 l5 l6 l7 l8 l9 l10 => lp_L_isSound_38 n o0 a1 k σ l1 l2 l3 l4 l5 l6 l7 l8 l9 l10) σ78 l1 ((l2 + r77)) ((l3 + r74)) ((l4 + r67)) ((l5 + r70)) l6 l7 l8 l9 l10 r74 ((0 : Int32)) else lp_L_isSound_117 n o0 a1 (fun σ l1 l2 l3 l4 l5 l6 l7 l8 l9 l10 => lp_L_isSound_38 n o0 a1 k σ l1 l2 l3 l4 l5 l6 l7 l8 l9 l10) σ78 l1 ((l2 + r77)) ((l3 + r74)) ((l4 + r67)) ((l5 + r70)) l6 l7 l8 l9 l10 r74 ((1 : Int32)) else lp_L_isSound_117 n o0 a1 (fun σ l1 l2 l3 l4 l5 l6 l7 l8 l9 l10 => lp_L_isSound_38 n o0 a1 k σ l1 l2 l3 l4 l5 l6 l7 l8 l9 l10) σ78 l1 ((l2 + r77)) ((l3 + r74)) ((l4 + r67)) ((l5 + r70)) l6 l7 l8 l9 l10 r74 ((1 : Int32)))))))
theorem lp_L_isSound_38_s (n : Nat) (o0 : Nat) (a1 : Int32) (k : Nat) (σ : Mem) (l1 : Int32) (l2 : Int32) (l3 : Int32) (l4 : Int32) (l5 : Int32) (l6 : Int32) (l7 : Int32) (l8 : Int32) (l9 : Int32) (l10 : Int32) : lp_L_isSound_38 n o0 a1 (k + 1) σ l1 l2 l3 l4 l5 l6 l7 l8 l9 l10 = (((sp_X5_levelCount n σ o0).bind fun q => match q with | (r7, σ8) => if r7 < l10 then lp_L_isSound_236 n o0 a1 σ8 l1 l2 l3 l4 l5 l6 l7 l8 l9 l10 else ((sp_L_of n σ8 o0 l10 ((7 : Int32))).bind fun q => match q with | (r67, σ68) => ((sp_L_of n σ68 o0 l10 ((8 : Int32))).bind fun q => match q with | (r70, σ71) => if l10 ≤ 0 then lp_L_isSound_230 n o0 a1 (fun σ l1 l2 l3 l4 l5 l6 l7 l8 l9 l10 => lp_L_isSound_38 n o0 a1 k σ l1 l2 l3 l4 l5 l6 l7 l8 l9 l10) σ71 l1 l2 l3 ((l4 + r67)) ((l5 + r70)) l6 l7 l8 l9 l10 else ((sp_L_of n σ71 o0 l10 ((1 : Int32))).bind fun q => match q with | (r74, σ75) => ((sp_L_of n σ75 o0 l10 ((3 : Int32))).bind fun q => match q with | (r77, σ78) => if l7 = 0 then if r74 ≤ 0 then lp_L_isSound_117 n o0 a1 (fun σ l1 l2 l3 l4 l5 l6 l7 l8 l9 l10 => lp_L_isSound_38 n o0 a1 k σ l1 l2 l3 l4 l5 l6 l7 l8 l9 l10) σ78 l1 ((l2 + r77)) ((l3 + r74)) ((l4 + r67)) ((l5 + r70)) l6 l7 l8 l9 l10 r74 ((0 : Int32)) else lp_L_isSound_117 n o0 a1 (fun σ l1 l2 l3 l4 l5 l6 l7 l8 l9 l10 => lp_L_isSound_38 n o0 a1 k σ l1 l2 l3 l4 l5 l6 l7 l8 l9 l10) σ78 l1 ((l2 + r77)) ((l3 + r74)) ((l4 + r67)) ((l5 + r70)) l6 l7 l8 l9 l10 r74 ((1 : Int32)) else lp_L_isSound_117 n o0 a1 (fun σ l1 l2 l3 l4 l5 l6 l7 l8 l9 l10 => lp_L_isSound_38 n o0 a1 k σ l1 l2 l3 l4 l5 l6 l7 l8 l9 l10) σ78 l1 ((l2 + r77)) ((l3 + r74)) ((l4 + r67)) ((l5 + r70)) l6 l7 l8 l9 l10 r74 ((1 : Int32)))))))) := rfl
def sp_L_isSound (n : Nat) (σ : Mem) (o0 : Nat) (a1 : Int32) : Option (Int32 × Mem) := ((sp_L_sets n σ o0 ((102 : Int32)) ((0 : Int32))).bind fun q => match q with | (r1, σ2) => ((sp_L_sets n σ2 o0 ((102 : Int32)) r1).bind fun q => match q with | (r4, σ5) => lp_L_isSound_38 n o0 a1 10 σ5 a1 ((0 : Int32)) ((0 : Int32)) ((0 : Int32)) ((0 : Int32)) ((0 : Int32)) ((0 : Int32)) r1 r4 ((0 : Int32))))
abbrev rm_L_isSound : Room := ({ frames := 15, cells := 250, slots := 1500, locals := 315 } : Room)
abbrev wu_L_isSound : List Cond := (Cond.code yL_isSound cL_isSound 12 (some .boolean)) :: wsU
theorem hy_L_isSound : hyOk yL_isSound 2 := by decide +kernel
set_option maxRecDepth 20000 in
set_option maxHeartbeats 4000000 in
theorem c_L_isSound (n : Nat) (G : Gt) (σ : Mem) (o0 : Nat) (a1 : Int32) (ho0 : Ok o0 5) (r : Int32) (σ' : Mem) (h : sp_L_isSound n σ o0 a1 = some (r, σ')) : MM yL_isSound wu_L_isSound rm_L_isSound [.ref (G.2.2 (o0)), .int (a1)] G σ (.inl (some (.int r))) σ' := by
  refine mm_of (cc := cL_isSound) (maxL := 12) (ret := (some .boolean)) (by decide +kernel) rfl (Nat.le_of_ble_eq_true rfl) (fun x C X hg => ?_)
  have C : Cx x cL_isSound 12 RL (some .boolean) [] wu_L_isSound rm_L_isSound G.1 (tysF G) := C
  have JP327 : ∀ (σ : Mem) (l1 : Int32) (l2 : Int32) (l3 : Int32) (l4 : Int32) (l5 : Int32) (l6 : Int32) (l7 : Int32) (l8 : Int32) (l9 : Int32) (l10 : Int32) (l11 : Int32) (kc : Nat) (ns : Nat), kc + 0 ≤ 250 → ns + 0 ≤ 1500 → lp_L_isSound_327 n o0 a1 σ l1 l2 l3 l4 l5 l6 l7 l8 l9 l10 l11 = some (r, σ') → J x [(0, .ref (G.2.2 (o0))), (1, .int (l1)), (2, .int (l2)), (3, .int (l3)), (4, .int (l4)), (5, .int (l5)), (6, .int (l6)), (7, .int (l7)), (8, .int (l8)), (9, .int (l9)), (10, .int (l10)), (11, .int (l11))] [] σ 327 kc ns := by
    intro σ l1 l2 l3 l4 l5 l6 l7 l8 l9 l10 l11 kc ns hk hn h
    unfold lp_L_isSound_327 at h
    refine j_iconst C dL_isSound_327 ((0 : Int32)) (by decide) ?_
    exact j_zreturn C (by decide) dL_isSound_328 (e_i h hg) (show kc ≤ 250 by omega) (show ns ≤ 1500 by omega)
  have JP444 : ∀ (σ : Mem) (l1 : Int32) (l2 : Int32) (l3 : Int32) (l4 : Int32) (l5 : Int32) (l6 : Int32) (l7 : Int32) (l8 : Int32) (l9 : Int32) (l10 : Int32) (l11 : Int32) (kc : Nat) (ns : Nat), kc + 0 ≤ 250 → ns + 0 ≤ 1500 → lp_L_isSound_444 n o0 a1 σ l1 l2 l3 l4 l5 l6 l7 l8 l9 l10 l11 = some (r, σ') → J x [(0, .ref (G.2.2 (o0))), (1, .int (l1)), (2, .int (l2)), (3, .int (l3)), (4, .int (l4)), (5, .int (l5)), (6, .int (l6)), (7, .int (l7)), (8, .int (l8)), (9, .int (l9)), (10, .int (l10)), (11, .int (l11))] [] σ 444 kc ns := by
    intro σ l1 l2 l3 l4 l5 l6 l7 l8 l9 l10 l11 kc ns hk hn h
    unfold lp_L_isSound_444 at h
    refine j_iconst C dL_isSound_444 ((0 : Int32)) (by decide) ?_
    exact j_zreturn C (by decide) dL_isSound_445 (e_i h hg) (show kc ≤ 250 by omega) (show ns ≤ 1500 by omega)
  have JP397 : ∀ (σ : Mem) (l1 : Int32) (l2 : Int32) (l3 : Int32) (l4 : Int32) (l5 : Int32) (l6 : Int32) (l7 : Int32) (l8 : Int32) (l9 : Int32) (l10 : Int32) (l11 : Int32) (s0 : Int32) (s1 : Int32) (kc : Nat) (ns : Nat), kc + 0 ≤ 250 → ns + 0 ≤ 1500 → lp_L_isSound_397 n o0 a1 σ l1 l2 l3 l4 l5 l6 l7 l8 l9 l10 l11 s0 s1 = some (r, σ') → J x [(0, .ref (G.2.2 (o0))), (1, .int (l1)), (2, .int (l2)), (3, .int (l3)), (4, .int (l4)), (5, .int (l5)), (6, .int (l6)), (7, .int (l7)), (8, .int (l8)), (9, .int (l9)), (10, .int (l10)), (11, .int (l11))] [.int (s0), .int (s1)] σ 397 kc ns := by
    intro σ l1 l2 l3 l4 l5 l6 l7 l8 l9 l10 l11 s0 s1 kc ns hk hn h
    unfold lp_L_isSound_397 at h
    refine j_icmp_ne C dL_isSound_397 444 (by decide) (fun c31 => ?_) (fun c31 => ?_)
    · have h := (if_neg c31).symm.trans h
      refine j_sub [0, 1, 2, 3, 4, 5, 6, 7, 8, 9, 10, 11] [(0, .ref (G.2.2 (o0))), (1, .int (l1)), (2, .int (l2)), (3, .int (l3)), (4, .int (l4)), (5, .int (l5)), (6, .int (l6)), (7, .int (l7)), (8, .int (l8)), (9, .int (l9)), (10, .int (l10)), (11, .int (l11))] rfl ?_
      exact JP444 σ l1 l2 l3 l4 l5 l6 l7 l8 l9 l10 l11 (kc) (ns) (by omega) (by omega) h
    · have h := (if_pos c31).symm.trans h
      refine j_iload C dL_isSound_400 4 rfl ?_
      refine j_aload_n C dL_isSound_402 0 rfl ?_
      obtain ⟨⟨r32, σ33⟩, h34, h⟩ := ob h
      try dsimp only at h
      refine j_callV C X (c_X5_peopleTotal n G σ o0 ho0 _ _ h34) dL_isSound_403 (gV u_446 u_448 u_449 u_211 u_447) rfl hy_X5_peopleTotal rfl ho0 rfl (ci := 9) rfl rfl rfl (by decide) (Nat.le_of_ble_eq_true rfl) (show kc + 0 ≤ 250 ∧ ns + 0 ≤ 1500 by omega) ?_
      refine j_icmp_ne C dL_isSound_406 444 (by decide) (fun c35 => ?_) (fun c35 => ?_)
      · have h := (if_neg c35).symm.trans h
        refine j_sub [0, 1, 2, 3, 4, 5, 6, 7, 8, 9, 10, 11] [(0, .ref (G.2.2 (o0))), (1, .int (l1)), (2, .int (l2)), (3, .int (l3)), (4, .int (l4)), (5, .int (l5)), (6, .int (l6)), (7, .int (l7)), (8, .int (l8)), (9, .int (l9)), (10, .int (l10)), (11, .int (l11))] rfl ?_
        exact JP444 σ33 l1 l2 l3 l4 l5 l6 l7 l8 l9 l10 l11 (kc + 0) (ns + 0) (by omega) (by omega) h
      · have h := (if_pos c35).symm.trans h
        refine j_iload C dL_isSound_409 5 rfl ?_
        refine j_iload_n C dL_isSound_411 1 rfl ?_
        refine j_icmp_ne C dL_isSound_412 444 (by decide) (fun c36 => ?_) (fun c36 => ?_)
        · have h := (if_neg c36).symm.trans h
          refine j_sub [0, 1, 2, 3, 4, 5, 6, 7, 8, 9, 10, 11] [(0, .ref (G.2.2 (o0))), (1, .int (l1)), (2, .int (l2)), (3, .int (l3)), (4, .int (l4)), (5, .int (l5)), (6, .int (l6)), (7, .int (l7)), (8, .int (l8)), (9, .int (l9)), (10, .int (l10)), (11, .int (l11))] rfl ?_
          exact JP444 σ33 l1 l2 l3 l4 l5 l6 l7 l8 l9 l10 l11 (kc + 0) (ns + 0) (by omega) (by omega) h
        · have h := (if_pos c36).symm.trans h
          refine j_aload_n C dL_isSound_415 0 rfl ?_
          obtain ⟨⟨r37, σ38⟩, h39, h⟩ := ob h
          try dsimp only at h
          refine j_callV C X (c_X5_endangered n G σ33 o0 ho0 _ _ h39) dL_isSound_416 (gV u_494 u_496 u_497 u_211 u_495) rfl hy_X5_endangered rfl ho0 rfl (ci := 9) rfl rfl rfl (by decide) (Nat.le_of_ble_eq_true rfl) (show kc + 0 + 0 ≤ 250 ∧ ns + 0 + 0 ≤ 1500 by omega) ?_
          refine j_iload C dL_isSound_419 6 rfl ?_
          refine j_icmp_ne C dL_isSound_421 444 (by decide) (fun c40 => ?_) (fun c40 => ?_)
          · have h := (if_neg c40).symm.trans h
            refine j_sub [0, 1, 2, 3, 4, 5, 6, 7, 8, 9, 10, 11] [(0, .ref (G.2.2 (o0))), (1, .int (l1)), (2, .int (l2)), (3, .int (l3)), (4, .int (l4)), (5, .int (l5)), (6, .int (l6)), (7, .int (l7)), (8, .int (l8)), (9, .int (l9)), (10, .int (l10)), (11, .int (l11))] rfl ?_
            exact JP444 σ38 l1 l2 l3 l4 l5 l6 l7 l8 l9 l10 l11 (kc + 0 + 0) (ns + 0 + 0) (by omega) (by omega) h
          · have h := (if_pos c40).symm.trans h
            refine j_aload_n C dL_isSound_424 0 rfl ?_
            obtain ⟨⟨r41, σ42⟩, h43, h⟩ := ob h
            try dsimp only at h
            refine j_callV C X (c_X5_waitingCount n G σ38 o0 ho0 _ _ h43) dL_isSound_425 (gV u_451 u_453 u_454 u_211 u_452) rfl hy_X5_waitingCount rfl ho0 rfl (ci := 9) rfl rfl rfl (by decide) (Nat.le_of_ble_eq_true rfl) (show kc + 0 + 0 + 0 ≤ 250 ∧ ns + 0 + 0 + 0 ≤ 1500 by omega) ?_
            refine j_bipush C dL_isSound_428 ((8 : Int32)) (by decide) ?_
            refine j_icmp_gt C dL_isSound_430 444 (by decide) (fun c44 => ?_) (fun c44 => ?_)
            · have h := (if_pos c44).symm.trans h
              refine j_sub [0, 1, 2, 3, 4, 5, 6, 7, 8, 9, 10, 11] [(0, .ref (G.2.2 (o0))), (1, .int (l1)), (2, .int (l2)), (3, .int (l3)), (4, .int (l4)), (5, .int (l5)), (6, .int (l6)), (7, .int (l7)), (8, .int (l8)), (9, .int (l9)), (10, .int (l10)), (11, .int (l11))] rfl ?_
              exact JP444 σ42 l1 l2 l3 l4 l5 l6 l7 l8 l9 l10 l11 (kc + 0 + 0 + 0) (ns + 0 + 0 + 0) (by omega) (by omega) h
            · have h := (if_neg c44).symm.trans h
              refine j_aload_n C dL_isSound_433 0 rfl ?_
              obtain ⟨⟨r45, σ46⟩, h47, h⟩ := ob h
              try dsimp only at h
              refine j_callV C X (c_X5_isConsistent n G σ42 o0 ho0 _ _ h47) dL_isSound_434 (gV u_498 u_500 u_501 u_211 u_499) rfl hy_X5_isConsistent rfl ho0 rfl (ci := 9) rfl rfl rfl (by decide) (Nat.le_of_ble_eq_true rfl) (show kc + 0 + 0 + 0 + 0 ≤ 250 ∧ ns + 0 + 0 + 0 + 0 ≤ 1500 by omega) ?_
              refine j_if_eq C dL_isSound_437 444 (by decide) (fun c48 => ?_) (fun c48 => ?_)
              · have h := (if_pos c48).symm.trans h
                refine j_sub [0, 1, 2, 3, 4, 5, 6, 7, 8, 9, 10, 11] [(0, .ref (G.2.2 (o0))), (1, .int (l1)), (2, .int (l2)), (3, .int (l3)), (4, .int (l4)), (5, .int (l5)), (6, .int (l6)), (7, .int (l7)), (8, .int (l8)), (9, .int (l9)), (10, .int (l10)), (11, .int (l11))] rfl ?_
                exact JP444 σ46 l1 l2 l3 l4 l5 l6 l7 l8 l9 l10 l11 (kc + 0 + 0 + 0 + 0) (ns + 0 + 0 + 0 + 0) (by omega) (by omega) h
              · have h := (if_neg c48).symm.trans h
                refine j_iconst C dL_isSound_440 ((1 : Int32)) (by decide) ?_
                refine j_goto C dL_isSound_441 445 (by decide) ?_
                exact j_zreturn C (by decide) dL_isSound_445 (e_i h hg) (show kc + 0 + 0 + 0 + 0 ≤ 250 by omega) (show ns + 0 + 0 + 0 + 0 ≤ 1500 by omega)
  have JP369 : ∀ (σ : Mem) (l1 : Int32) (l2 : Int32) (l3 : Int32) (l4 : Int32) (l5 : Int32) (l6 : Int32) (l7 : Int32) (l8 : Int32) (l9 : Int32) (l10 : Int32) (l11 : Int32) (s0 : Int32) (s1 : Int32) (kc : Nat) (ns : Nat), kc + 0 ≤ 250 → ns + 0 ≤ 1500 → lp_L_isSound_369 n o0 a1 σ l1 l2 l3 l4 l5 l6 l7 l8 l9 l10 l11 s0 s1 = some (r, σ') → J x [(0, .ref (G.2.2 (o0))), (1, .int (l1)), (2, .int (l2)), (3, .int (l3)), (4, .int (l4)), (5, .int (l5)), (6, .int (l6)), (7, .int (l7)), (8, .int (l8)), (9, .int (l9)), (10, .int (l10)), (11, .int (l11))] [.int (s0), .int (s1)] σ 369 kc ns := by
    intro σ l1 l2 l3 l4 l5 l6 l7 l8 l9 l10 l11 s0 s1 kc ns hk hn h
    unfold lp_L_isSound_369 at h
    refine j_iadd C dL_isSound_369 ?_
    refine j_istore C dL_isSound_370 (by decide) [(5, .int ((s1 + s0))), (0, .ref (G.2.2 (o0))), (1, .int (l1)), (2, .int (l2)), (3, .int (l3)), (4, .int (l4)), (6, .int (l6)), (7, .int (l7)), (8, .int (l8)), (9, .int (l9)), (10, .int (l10)), (11, .int (l11))] rfl ?_
    refine j_iload_n C dL_isSound_372 3 rfl ?_
    refine j_aload_n C dL_isSound_373 1 rfl ?_
    obtain ⟨⟨r23, σ24⟩, h25, h⟩ := ob h
    try dsimp only at h
    refine j_callV C X (c_X5_ventedTotal n G σ o0 ho0 _ _ h25) dL_isSound_374 (gV u_441 u_443 u_444 u_211 u_442) rfl hy_X5_ventedTotal rfl ho0 rfl (ci := 9) rfl rfl rfl (by decide) (Nat.le_of_ble_eq_true rfl) (show kc + 0 ≤ 250 ∧ ns + 0 ≤ 1500 by omega) ?_
    refine j_iadd C dL_isSound_377 ?_
    refine j_aload_n C dL_isSound_378 1 rfl ?_
    obtain ⟨⟨r26, σ27⟩, h28, h⟩ := ob h
    try dsimp only at h
    refine j_callV C X (c_X5_gasTotal n G σ24 o0 ho0 _ _ h28) dL_isSound_379 (gV u_436 u_438 u_439 u_211 u_437) rfl hy_X5_gasTotal rfl ho0 rfl (ci := 9) rfl rfl rfl (by decide) (Nat.le_of_ble_eq_true rfl) (show kc + 0 + 0 ≤ 250 ∧ ns + 0 + 0 ≤ 1500 by omega) ?_
    refine j_icmp_ne C dL_isSound_382 444 (by decide) (fun c29 => ?_) (fun c29 => ?_)
    · have h := (if_neg c29).symm.trans h
      refine j_sub [1, 2, 3, 4, 5, 0, 6, 7, 8, 9, 10, 11] [(0, .ref (G.2.2 (o0))), (1, .int (l1)), (2, .int (l2)), (3, .int (l3)), (4, .int (l4)), (5, .int ((s1 + s0))), (6, .int (l6)), (7, .int (l7)), (8, .int (l8)), (9, .int (l9)), (10, .int (l10)), (11, .int (l11))] rfl ?_
      exact JP444 σ27 l1 l2 l3 l4 ((s1 + s0)) l6 l7 l8 l9 l10 l11 (kc + 0 + 0) (ns + 0 + 0) (by omega) (by omega) h
    · have h := (if_pos c29).symm.trans h
      refine j_iload_n C dL_isSound_385 4 rfl ?_
      refine j_iload C dL_isSound_386 7 rfl ?_
      refine j_if_eq C dL_isSound_388 396 (by decide) (fun c30 => ?_) (fun c30 => ?_)
      · have h := (if_pos c30).symm.trans h
        refine j_iconst C dL_isSound_396 ((0 : Int32)) (by decide) ?_
        refine j_sub [1, 2, 3, 4, 5, 0, 6, 7, 8, 9, 10, 11] [(0, .ref (G.2.2 (o0))), (1, .int (l1)), (2, .int (l2)), (3, .int (l3)), (4, .int (l4)), (5, .int ((s1 + s0))), (6, .int (l6)), (7, .int (l7)), (8, .int (l8)), (9, .int (l9)), (10, .int (l10)), (11, .int (l11))] rfl ?_
        exact JP397 σ27 l1 l2 l3 l4 ((s1 + s0)) l6 l7 l8 l9 l10 l11 ((0 : Int32)) l3 (kc + 0 + 0) (ns + 0 + 0) (by omega) (by omega) h
      · have h := (if_neg c30).symm.trans h
        refine j_iload C dL_isSound_391 8 rfl ?_
        refine j_goto C dL_isSound_393 397 (by decide) ?_
        refine j_sub [1, 2, 3, 4, 5, 0, 6, 7, 8, 9, 10, 11] [(0, .ref (G.2.2 (o0))), (1, .int (l1)), (2, .int (l2)), (3, .int (l3)), (4, .int (l4)), (5, .int ((s1 + s0))), (6, .int (l6)), (7, .int (l7)), (8, .int (l8)), (9, .int (l9)), (10, .int (l10)), (11, .int (l11))] rfl ?_
        exact JP397 σ27 l1 l2 l3 l4 ((s1 + s0)) l6 l7 l8 l9 l10 l11 l8 l3 (kc + 0 + 0) (ns + 0 + 0) (by omega) (by omega) h
  have JP351 : ∀ (σ : Mem) (l1 : Int32) (l2 : Int32) (l3 : Int32) (l4 : Int32) (l5 : Int32) (l6 : Int32) (l7 : Int32) (l8 : Int32) (l9 : Int32) (l10 : Int32) (l11 : Int32) (s0 : Int32) (s1 : Int32) (kc : Nat) (ns : Nat), kc + 0 ≤ 250 → ns + 0 ≤ 1500 → lp_L_isSound_351 n o0 a1 σ l1 l2 l3 l4 l5 l6 l7 l8 l9 l10 l11 s0 s1 = some (r, σ') → J x [(0, .ref (G.2.2 (o0))), (1, .int (l1)), (2, .int (l2)), (3, .int (l3)), (4, .int (l4)), (5, .int (l5)), (6, .int (l6)), (7, .int (l7)), (8, .int (l8)), (9, .int (l9)), (10, .int (l10)), (11, .int (l11))] [.int (s0), .int (s1)] σ 351 kc ns := by
    intro σ l1 l2 l3 l4 l5 l6 l7 l8 l9 l10 l11 s0 s1 kc ns hk hn h
    unfold lp_L_isSound_351 at h
    refine j_iadd C dL_isSound_351 ?_
    refine j_istore C dL_isSound_352 (by decide) [(4, .int ((s1 + s0))), (0, .ref (G.2.2 (o0))), (1, .int (l1)), (2, .int (l2)), (3, .int (l3)), (5, .int (l5)), (6, .int (l6)), (7, .int (l7)), (8, .int (l8)), (9, .int (l9)), (10, .int (l10)), (11, .int (l11))] rfl ?_
    refine j_iload C dL_isSound_354 5 rfl ?_
    refine j_iload C dL_isSound_356 10 rfl ?_
    refine j_bipush C dL_isSound_358 ((111 : Int32)) (by decide) ?_
    refine j_icmp_ne C dL_isSound_360 368 (by decide) (fun c22 => ?_) (fun c22 => ?_)
    · have h := (if_neg c22).symm.trans h
      refine j_iconst C dL_isSound_368 ((0 : Int32)) (by decide) ?_
      refine j_sub [1, 2, 3, 4, 0, 5, 6, 7, 8, 9, 10, 11] [(0, .ref (G.2.2 (o0))), (1, .int (l1)), (2, .int (l2)), (3, .int (l3)), (4, .int ((s1 + s0))), (5, .int (l5)), (6, .int (l6)), (7, .int (l7)), (8, .int (l8)), (9, .int (l9)), (10, .int (l10)), (11, .int (l11))] rfl ?_
      exact JP369 σ l1 l2 l3 ((s1 + s0)) l5 l6 l7 l8 l9 l10 l11 ((0 : Int32)) l5 (kc) (ns) (by omega) (by omega) h
    · have h := (if_pos c22).symm.trans h
      refine j_iload C dL_isSound_363 11 rfl ?_
      refine j_goto C dL_isSound_365 369 (by decide) ?_
      refine j_sub [1, 2, 3, 4, 0, 5, 6, 7, 8, 9, 10, 11] [(0, .ref (G.2.2 (o0))), (1, .int (l1)), (2, .int (l2)), (3, .int (l3)), (4, .int ((s1 + s0))), (5, .int (l5)), (6, .int (l6)), (7, .int (l7)), (8, .int (l8)), (9, .int (l9)), (10, .int (l10)), (11, .int (l11))] rfl ?_
      exact JP369 σ l1 l2 l3 ((s1 + s0)) l5 l6 l7 l8 l9 l10 l11 l11 l5 (kc) (ns) (by omega) (by omega) h
  have JP329 : ∀ (σ : Mem) (l1 : Int32) (l2 : Int32) (l3 : Int32) (l4 : Int32) (l5 : Int32) (l6 : Int32) (l7 : Int32) (l8 : Int32) (l9 : Int32) (l10 : Int32) (l11 : Int32) (kc : Nat) (ns : Nat), kc + 0 ≤ 250 → ns + 0 ≤ 1500 → lp_L_isSound_329 n o0 a1 σ l1 l2 l3 l4 l5 l6 l7 l8 l9 l10 l11 = some (r, σ') → J x [(0, .ref (G.2.2 (o0))), (1, .int (l1)), (2, .int (l2)), (3, .int (l3)), (4, .int (l4)), (5, .int (l5)), (6, .int (l6)), (7, .int (l7)), (8, .int (l8)), (9, .int (l9)), (10, .int (l10)), (11, .int (l11))] [] σ 329 kc ns := by
    intro σ l1 l2 l3 l4 l5 l6 l7 l8 l9 l10 l11 kc ns hk hn h
    unfold lp_L_isSound_329 at h
    refine j_iload C dL_isSound_329 4 rfl ?_
    refine j_iload C dL_isSound_331 10 rfl ?_
    refine j_bipush C dL_isSound_333 ((45 : Int32)) (by decide) ?_
    refine j_icmp_eq C dL_isSound_335 345 (by decide) (fun c21 => ?_) (fun c21 => ?_)
    · have h := (if_pos c21).symm.trans h
      refine j_iconst C dL_isSound_345 ((0 : Int32)) (by decide) ?_
      refine j_goto C dL_isSound_346 351 (by decide) ?_
      refine j_sub [0, 1, 2, 3, 4, 5, 6, 7, 8, 9, 10, 11] [(0, .ref (G.2.2 (o0))), (1, .int (l1)), (2, .int (l2)), (3, .int (l3)), (4, .int (l4)), (5, .int (l5)), (6, .int (l6)), (7, .int (l7)), (8, .int (l8)), (9, .int (l9)), (10, .int (l10)), (11, .int (l11))] rfl ?_
      exact JP351 σ l1 l2 l3 l4 l5 l6 l7 l8 l9 l10 l11 ((0 : Int32)) l4 (kc) (ns) (by omega) (by omega) h
    · have h := (if_neg c21).symm.trans h
      refine j_iload C dL_isSound_338 10 rfl ?_
      refine j_bipush C dL_isSound_340 ((111 : Int32)) (by decide) ?_
      refine j_icmp_ne C dL_isSound_342 349 (by decide) (fun c49 => ?_) (fun c49 => ?_)
      · have h := (if_neg c49).symm.trans h
        refine j_iload C dL_isSound_349 11 rfl ?_
        refine j_sub [0, 1, 2, 3, 4, 5, 6, 7, 8, 9, 10, 11] [(0, .ref (G.2.2 (o0))), (1, .int (l1)), (2, .int (l2)), (3, .int (l3)), (4, .int (l4)), (5, .int (l5)), (6, .int (l6)), (7, .int (l7)), (8, .int (l8)), (9, .int (l9)), (10, .int (l10)), (11, .int (l11))] rfl ?_
        exact JP351 σ l1 l2 l3 l4 l5 l6 l7 l8 l9 l10 l11 l11 l4 (kc) (ns) (by omega) (by omega) h
      · have h := (if_pos c49).symm.trans h
        refine j_iconst C dL_isSound_345 ((0 : Int32)) (by decide) ?_
        refine j_goto C dL_isSound_346 351 (by decide) ?_
        refine j_sub [0, 1, 2, 3, 4, 5, 6, 7, 8, 9, 10, 11] [(0, .ref (G.2.2 (o0))), (1, .int (l1)), (2, .int (l2)), (3, .int (l3)), (4, .int (l4)), (5, .int (l5)), (6, .int (l6)), (7, .int (l7)), (8, .int (l8)), (9, .int (l9)), (10, .int (l10)), (11, .int (l11))] rfl ?_
        exact JP351 σ l1 l2 l3 l4 l5 l6 l7 l8 l9 l10 l11 ((0 : Int32)) l4 (kc) (ns) (by omega) (by omega) h
  have JP274 : ∀ (σ : Mem) (l1 : Int32) (l2 : Int32) (l3 : Int32) (l4 : Int32) (l5 : Int32) (l6 : Int32) (l7 : Int32) (l8 : Int32) (l9 : Int32) (l10 : Int32) (l11 : Int32) (s0 : Int32) (s1 : Int32) (kc : Nat) (ns : Nat), kc + 3 ≤ 250 → ns + 18 ≤ 1500 → lp_L_isSound_274 n o0 a1 σ l1 l2 l3 l4 l5 l6 l7 l8 l9 l10 l11 s0 s1 = some (r, σ') → J x [(0, .ref (G.2.2 (o0))), (1, .int (l1)), (2, .int (l2)), (3, .int (l3)), (4, .int (l4)), (5, .int (l5)), (6, .int (l6)), (7, .int (l7)), (8, .int (l8)), (9, .int (l9)), (10, .int (l10)), (11, .int (l11))] [.int (s0), .int (s1)] σ 274 kc ns := by
    intro σ l1 l2 l3 l4 l5 l6 l7 l8 l9 l10 l11 s0 s1 kc ns hk hn h
    unfold lp_L_isSound_274 at h
    refine j_icmp_ne C dL_isSound_274 327 (by decide) (fun c19 => ?_) (fun c19 => ?_)
    · have h := (if_neg c19).symm.trans h
      refine j_sub [0, 1, 2, 3, 4, 5, 6, 7, 8, 9, 10, 11] [(0, .ref (G.2.2 (o0))), (1, .int (l1)), (2, .int (l2)), (3, .int (l3)), (4, .int (l4)), (5, .int (l5)), (6, .int (l6)), (7, .int (l7)), (8, .int (l8)), (9, .int (l9)), (10, .int (l10)), (11, .int (l11))] rfl ?_
      exact JP327 σ l1 l2 l3 l4 l5 l6 l7 l8 l9 l10 l11 (kc) (ns) (by omega) (by omega) h
    · have h := (if_pos c19).symm.trans h
      refine j_iload C dL_isSound_277 10 rfl ?_
      refine j_bipush C dL_isSound_279 ((45 : Int32)) (by decide) ?_
      refine j_icmp_eq C dL_isSound_281 329 (by decide) (fun c20 => ?_) (fun c20 => ?_)
      · have h := (if_pos c20).symm.trans h
        refine j_sub [0, 1, 2, 3, 4, 5, 6, 7, 8, 9, 10, 11] [(0, .ref (G.2.2 (o0))), (1, .int (l1)), (2, .int (l2)), (3, .int (l3)), (4, .int (l4)), (5, .int (l5)), (6, .int (l6)), (7, .int (l7)), (8, .int (l8)), (9, .int (l9)), (10, .int (l10)), (11, .int (l11))] rfl ?_
        exact JP329 σ l1 l2 l3 l4 l5 l6 l7 l8 l9 l10 l11 (kc) (ns) (by omega) (by omega) h
      · have h := (if_neg c20).symm.trans h
        refine j_iload C dL_isSound_284 11 rfl ?_
        refine j_iconst C dL_isSound_286 ((1 : Int32)) (by decide) ?_
        refine j_icmp_lt C dL_isSound_287 327 (by decide) (fun c50 => ?_) (fun c50 => ?_)
        · have h := (if_pos c50).symm.trans h
          refine j_sub [0, 1, 2, 3, 4, 5, 6, 7, 8, 9, 10, 11] [(0, .ref (G.2.2 (o0))), (1, .int (l1)), (2, .int (l2)), (3, .int (l3)), (4, .int (l4)), (5, .int (l5)), (6, .int (l6)), (7, .int (l7)), (8, .int (l8)), (9, .int (l9)), (10, .int (l10)), (11, .int (l11))] rfl ?_
          exact JP327 σ l1 l2 l3 l4 l5 l6 l7 l8 l9 l10 l11 (kc) (ns) (by omega) (by omega) h
        · have h := (if_neg c50).symm.trans h
          refine j_iload C dL_isSound_290 11 rfl ?_
          refine j_bipush C dL_isSound_292 ((20 : Int32)) (by decide) ?_
          refine j_icmp_gt C dL_isSound_294 327 (by decide) (fun c51 => ?_) (fun c51 => ?_)
          · have h := (if_pos c51).symm.trans h
            refine j_sub [0, 1, 2, 3, 4, 5, 6, 7, 8, 9, 10, 11] [(0, .ref (G.2.2 (o0))), (1, .int (l1)), (2, .int (l2)), (3, .int (l3)), (4, .int (l4)), (5, .int (l5)), (6, .int (l6)), (7, .int (l7)), (8, .int (l8)), (9, .int (l9)), (10, .int (l10)), (11, .int (l11))] rfl ?_
            exact JP327 σ l1 l2 l3 l4 l5 l6 l7 l8 l9 l10 l11 (kc) (ns) (by omega) (by omega) h
          · have h := (if_neg c51).symm.trans h
            refine j_aload_n C dL_isSound_297 0 rfl ?_
            refine j_iconst C dL_isSound_298 ((2 : Int32)) (by decide) ?_
            obtain ⟨⟨r52, σ53⟩, h54, h⟩ := ob h
            try dsimp only at h
            refine j_callSX C X (c_L_trip n G σ o0 ((2 : Int32)) ho0 _ _ h54) dL_isSound_299 (gSX u_479 u_482 u_480 u_481) rfl hy_L_trip rfl rfl (by decide) (Nat.le_of_ble_eq_true rfl) (show kc + 1 ≤ 250 ∧ ns + 6 ≤ 1500 by omega) ?_
            refine j_iconst C dL_isSound_302 ((1 : Int32)) (by decide) ?_
            refine j_icmp_lt C dL_isSound_303 327 (by decide) (fun c55 => ?_) (fun c55 => ?_)
            · have h := (if_pos c55).symm.trans h
              refine j_sub [0, 1, 2, 3, 4, 5, 6, 7, 8, 9, 10, 11] [(0, .ref (G.2.2 (o0))), (1, .int (l1)), (2, .int (l2)), (3, .int (l3)), (4, .int (l4)), (5, .int (l5)), (6, .int (l6)), (7, .int (l7)), (8, .int (l8)), (9, .int (l9)), (10, .int (l10)), (11, .int (l11))] rfl ?_
              exact JP327 σ53 l1 l2 l3 l4 l5 l6 l7 l8 l9 l10 l11 (kc + 1) (ns + 6) (by omega) (by omega) h
            · have h := (if_neg c55).symm.trans h
              refine j_aload_n C dL_isSound_306 0 rfl ?_
              refine j_iconst C dL_isSound_307 ((0 : Int32)) (by decide) ?_
              obtain ⟨⟨r56, σ57⟩, h58, h⟩ := ob h
              try dsimp only at h
              refine j_callSX C X (c_L_trip n G σ53 o0 ((0 : Int32)) ho0 _ _ h58) dL_isSound_308 (gSX u_479 u_482 u_480 u_481) rfl hy_L_trip rfl rfl (by decide) (Nat.le_of_ble_eq_true rfl) (show kc + 1 + 1 ≤ 250 ∧ ns + 6 + 6 ≤ 1500 by omega) ?_
              refine j_iconst C dL_isSound_311 ((1 : Int32)) (by decide) ?_
              refine j_icmp_lt C dL_isSound_312 327 (by decide) (fun c59 => ?_) (fun c59 => ?_)
              · have h := (if_pos c59).symm.trans h
                refine j_sub [0, 1, 2, 3, 4, 5, 6, 7, 8, 9, 10, 11] [(0, .ref (G.2.2 (o0))), (1, .int (l1)), (2, .int (l2)), (3, .int (l3)), (4, .int (l4)), (5, .int (l5)), (6, .int (l6)), (7, .int (l7)), (8, .int (l8)), (9, .int (l9)), (10, .int (l10)), (11, .int (l11))] rfl ?_
                exact JP327 σ57 l1 l2 l3 l4 l5 l6 l7 l8 l9 l10 l11 (kc + 1 + 1) (ns + 6 + 6) (by omega) (by omega) h
              · have h := (if_neg c59).symm.trans h
                refine j_aload_n C dL_isSound_315 0 rfl ?_
                refine j_iconst C dL_isSound_316 ((0 : Int32)) (by decide) ?_
                obtain ⟨⟨r60, σ61⟩, h62, h⟩ := ob h
                try dsimp only at h
                refine j_callSX C X (c_L_trip n G σ57 o0 ((0 : Int32)) ho0 _ _ h62) dL_isSound_317 (gSX u_479 u_482 u_480 u_481) rfl hy_L_trip rfl rfl (by decide) (Nat.le_of_ble_eq_true rfl) (show kc + 1 + 1 + 1 ≤ 250 ∧ ns + 6 + 6 + 6 ≤ 1500 by omega) ?_
                refine j_aload_n C dL_isSound_320 0 rfl ?_
                obtain ⟨⟨r63, σ64⟩, h65, h⟩ := ob h
                try dsimp only at h
                refine j_callV C X (c_X5_levelCount n G σ61 o0 ho0 _ _ h65) dL_isSound_321 (gV u_475 u_477 u_478 u_211 u_476) rfl hy_X5_levelCount rfl ho0 rfl (ci := 9) rfl rfl rfl (by decide) (Nat.le_of_ble_eq_true rfl) (show kc + 1 + 1 + 1 + 0 ≤ 250 ∧ ns + 6 + 6 + 6 + 0 ≤ 1500 by omega) ?_
                refine j_icmp_le C dL_isSound_324 329 (by decide) (fun c66 => ?_) (fun c66 => ?_)
                · have h := (if_pos c66).symm.trans h
                  refine j_sub [0, 1, 2, 3, 4, 5, 6, 7, 8, 9, 10, 11] [(0, .ref (G.2.2 (o0))), (1, .int (l1)), (2, .int (l2)), (3, .int (l3)), (4, .int (l4)), (5, .int (l5)), (6, .int (l6)), (7, .int (l7)), (8, .int (l8)), (9, .int (l9)), (10, .int (l10)), (11, .int (l11))] rfl ?_
                  exact JP329 σ64 l1 l2 l3 l4 l5 l6 l7 l8 l9 l10 l11 (kc + 1 + 1 + 1 + 0) (ns + 6 + 6 + 6 + 0) (by omega) (by omega) h
                · have h := (if_neg c66).symm.trans h
                  refine j_sub [0, 1, 2, 3, 4, 5, 6, 7, 8, 9, 10, 11] [(0, .ref (G.2.2 (o0))), (1, .int (l1)), (2, .int (l2)), (3, .int (l3)), (4, .int (l4)), (5, .int (l5)), (6, .int (l6)), (7, .int (l7)), (8, .int (l8)), (9, .int (l9)), (10, .int (l10)), (11, .int (l11))] rfl ?_
                  exact JP327 σ64 l1 l2 l3 l4 l5 l6 l7 l8 l9 l10 l11 (kc + 1 + 1 + 1 + 0) (ns + 6 + 6 + 6 + 0) (by omega) (by omega) h
  have JP261 : ∀ (σ : Mem) (l1 : Int32) (l2 : Int32) (l3 : Int32) (l4 : Int32) (l5 : Int32) (l6 : Int32) (l7 : Int32) (l8 : Int32) (l9 : Int32) (l10 : Int32) (l11 : Int32) (s0 : Int32) (kc : Nat) (ns : Nat), kc + 3 ≤ 250 → ns + 18 ≤ 1500 → lp_L_isSound_261 n o0 a1 σ l1 l2 l3 l4 l5 l6 l7 l8 l9 l10 l11 s0 = some (r, σ') → J x [(0, .ref (G.2.2 (o0))), (1, .int (l1)), (2, .int (l2)), (3, .int (l3)), (4, .int (l4)), (5, .int (l5)), (6, .int (l6)), (7, .int (l7)), (8, .int (l8)), (9, .int (l9)), (10, .int (l10)), (11, .int (l11))] [.int (s0)] σ 261 kc ns := by
    intro σ l1 l2 l3 l4 l5 l6 l7 l8 l9 l10 l11 s0 kc ns hk hn h
    unfold lp_L_isSound_261 at h
    refine j_iload C dL_isSound_261 11 rfl ?_
    refine j_sipush C dL_isSound_263 ((-1001 : Int32)) (by decide) ?_
    refine j_icmp_ne C dL_isSound_266 273 (by decide) (fun c18 => ?_) (fun c18 => ?_)
    · have h := (if_neg c18).symm.trans h
      refine j_iconst C dL_isSound_273 ((0 : Int32)) (by decide) ?_
      refine j_sub [0, 1, 2, 3, 4, 5, 6, 7, 8, 9, 10, 11] [(0, .ref (G.2.2 (o0))), (1, .int (l1)), (2, .int (l2)), (3, .int (l3)), (4, .int (l4)), (5, .int (l5)), (6, .int (l6)), (7, .int (l7)), (8, .int (l8)), (9, .int (l9)), (10, .int (l10)), (11, .int (l11))] rfl ?_
      exact JP274 σ l1 l2 l3 l4 l5 l6 l7 l8 l9 l10 l11 ((0 : Int32)) s0 (kc) (ns) (by omega) (by omega) h
    · have h := (if_pos c18).symm.trans h
      refine j_iconst C dL_isSound_269 ((1 : Int32)) (by decide) ?_
      refine j_goto C dL_isSound_270 274 (by decide) ?_
      refine j_sub [0, 1, 2, 3, 4, 5, 6, 7, 8, 9, 10, 11] [(0, .ref (G.2.2 (o0))), (1, .int (l1)), (2, .int (l2)), (3, .int (l3)), (4, .int (l4)), (5, .int (l5)), (6, .int (l6)), (7, .int (l7)), (8, .int (l8)), (9, .int (l9)), (10, .int (l10)), (11, .int (l11))] rfl ?_
      exact JP274 σ l1 l2 l3 l4 l5 l6 l7 l8 l9 l10 l11 ((1 : Int32)) s0 (kc) (ns) (by omega) (by omega) h
  have JP236 : ∀ (σ : Mem) (l1 : Int32) (l2 : Int32) (l3 : Int32) (l4 : Int32) (l5 : Int32) (l6 : Int32) (l7 : Int32) (l8 : Int32) (l9 : Int32) (l10 : Int32) (kc : Nat) (ns : Nat), kc + 4 ≤ 250 → ns + 24 ≤ 1500 → lp_L_isSound_236 n o0 a1 σ l1 l2 l3 l4 l5 l6 l7 l8 l9 l10 = some (r, σ') → J x [(0, .ref (G.2.2 (o0))), (1, .int (l1)), (2, .int (l2)), (3, .int (l3)), (4, .int (l4)), (5, .int (l5)), (6, .int (l6)), (7, .int (l7)), (8, .int (l8)), (9, .int (l9)), (10, .int (l10))] [] σ 236 kc ns := by
    intro σ l1 l2 l3 l4 l5 l6 l7 l8 l9 l10 kc ns hk hn h
    unfold lp_L_isSound_236 at h
    refine j_aload_n C dL_isSound_236 0 rfl ?_
    obtain ⟨⟨r11, σ12⟩, h13, h⟩ := ob h
    try dsimp only at h
    refine j_callV C X (c_X5_tripKind n G σ o0 ho0 _ _ h13) dL_isSound_237 (gV u_466 u_468 u_469 u_211 u_467) rfl hy_X5_tripKind rfl ho0 rfl (ci := 9) rfl rfl rfl (by decide) (Nat.le_of_ble_eq_true rfl) (show kc + 0 ≤ 250 ∧ ns + 0 ≤ 1500 by omega) ?_
    refine j_istore C dL_isSound_240 (by decide) [(10, .int (r11)), (0, .ref (G.2.2 (o0))), (1, .int (l1)), (2, .int (l2)), (3, .int (l3)), (4, .int (l4)), (5, .int (l5)), (6, .int (l6)), (7, .int (l7)), (8, .int (l8)), (9, .int (l9))] rfl ?_
    refine j_aload_n C dL_isSound_242 1 rfl ?_
    refine j_iconst C dL_isSound_243 ((1 : Int32)) (by decide) ?_
    obtain ⟨⟨r14, σ15⟩, h16, h⟩ := ob h
    try dsimp only at h
    refine j_callSX C X (c_L_trip n G σ12 o0 ((1 : Int32)) ho0 _ _ h16) dL_isSound_244 (gSX u_479 u_482 u_480 u_481) rfl hy_L_trip rfl rfl (by decide) (Nat.le_of_ble_eq_true rfl) (show kc + 0 + 1 ≤ 250 ∧ ns + 0 + 6 ≤ 1500 by omega) ?_
    refine j_istore C dL_isSound_247 (by decide) [(11, .int (r14)), (10, .int (r11)), (0, .ref (G.2.2 (o0))), (1, .int (l1)), (2, .int (l2)), (3, .int (l3)), (4, .int (l4)), (5, .int (l5)), (6, .int (l6)), (7, .int (l7)), (8, .int (l8)), (9, .int (l9))] rfl ?_
    refine j_iload C dL_isSound_249 1 rfl ?_
    refine j_bipush C dL_isSound_251 ((45 : Int32)) (by decide) ?_
    refine j_icmp_ne C dL_isSound_253 260 (by decide) (fun c17 => ?_) (fun c17 => ?_)
    · have h := (if_neg c17).symm.trans h
      refine j_iconst C dL_isSound_260 ((0 : Int32)) (by decide) ?_
      refine j_sub [2, 3, 4, 5, 6, 7, 8, 9, 10, 11, 1, 0] [(0, .ref (G.2.2 (o0))), (1, .int (l1)), (2, .int (l2)), (3, .int (l3)), (4, .int (l4)), (5, .int (l5)), (6, .int (l6)), (7, .int (l7)), (8, .int (l8)), (9, .int (l9)), (10, .int (r11)), (11, .int (r14))] rfl ?_
      exact JP261 σ15 l1 l2 l3 l4 l5 l6 l7 l8 l9 r11 r14 ((0 : Int32)) (kc + 0 + 1) (ns + 0 + 6) (by omega) (by omega) h
    · have h := (if_pos c17).symm.trans h
      refine j_iconst C dL_isSound_256 ((1 : Int32)) (by decide) ?_
      refine j_goto C dL_isSound_257 261 (by decide) ?_
      refine j_sub [2, 3, 4, 5, 6, 7, 8, 9, 10, 11, 1, 0] [(0, .ref (G.2.2 (o0))), (1, .int (l1)), (2, .int (l2)), (3, .int (l3)), (4, .int (l4)), (5, .int (l5)), (6, .int (l6)), (7, .int (l7)), (8, .int (l8)), (9, .int (l9)), (10, .int (r11)), (11, .int (r14))] rfl ?_
      exact JP261 σ15 l1 l2 l3 l4 l5 l6 l7 l8 l9 r11 r14 ((1 : Int32)) (kc + 0 + 1) (ns + 0 + 6) (by omega) (by omega) h
  have JP230 : ∀ (B : Nat) (hB : B ≤ 250) (K : Mem → Int32 → Int32 → Int32 → Int32 → Int32 → Int32 → Int32 → Int32 → Int32 → Int32 → Option (Int32 × Mem)) (hK : ∀ (σ : Mem) (l1 : Int32) (l2 : Int32) (l3 : Int32) (l4 : Int32) (l5 : Int32) (l6 : Int32) (l7 : Int32) (l8 : Int32) (l9 : Int32) (l10 : Int32) (kc : Nat) (ns : Nat), kc ≤ B → ns ≤ 6 * B → K σ l1 l2 l3 l4 l5 l6 l7 l8 l9 l10 = some (r, σ') → J x [(0, .ref (G.2.2 (o0))), (1, .int (l1)), (2, .int (l2)), (3, .int (l3)), (4, .int (l4)), (5, .int (l5)), (6, .int (l6)), (7, .int (l7)), (8, .int (l8)), (9, .int (l9)), (10, .int (l10))] [] σ 38 kc ns) (σ : Mem) (l1 : Int32) (l2 : Int32) (l3 : Int32) (l4 : Int32) (l5 : Int32) (l6 : Int32) (l7 : Int32) (l8 : Int32) (l9 : Int32) (l10 : Int32) (kc : Nat) (ns : Nat), kc + 0 ≤ B → ns + 0 ≤ 6 * B → lp_L_isSound_230 n o0 a1 K σ l1 l2 l3 l4 l5 l6 l7 l8 l9 l10 = some (r, σ') → J x [(0, .ref (G.2.2 (o0))), (1, .int (l1)), (2, .int (l2)), (3, .int (l3)), (4, .int (l4)), (5, .int (l5)), (6, .int (l6)), (7, .int (l7)), (8, .int (l8)), (9, .int (l9)), (10, .int (l10))] [] σ 230 kc ns := by
    intro B hB K hK σ l1 l2 l3 l4 l5 l6 l7 l8 l9 l10 kc ns hk hn h
    unfold lp_L_isSound_230 at h
    refine j_iinc C dL_isSound_230 10 rfl ((1 : Int32)) (by decide) (by decide) [(10, .int ((l10 + (1 : Int32)))), (0, .ref (G.2.2 (o0))), (1, .int (l1)), (2, .int (l2)), (3, .int (l3)), (4, .int (l4)), (5, .int (l5)), (6, .int (l6)), (7, .int (l7)), (8, .int (l8)), (9, .int (l9))] rfl ?_
    refine j_goto C dL_isSound_233 38 (by decide) ?_
    refine j_sub [1, 2, 3, 4, 5, 6, 7, 8, 9, 10, 0] [(0, .ref (G.2.2 (o0))), (1, .int (l1)), (2, .int (l2)), (3, .int (l3)), (4, .int (l4)), (5, .int (l5)), (6, .int (l6)), (7, .int (l7)), (8, .int (l8)), (9, .int (l9)), (10, .int ((l10 + (1 : Int32))))] rfl ?_
    exact hK σ l1 l2 l3 l4 l5 l6 l7 l8 l9 ((l10 + (1 : Int32))) (kc) (ns) (by omega) (by omega) h
  have JP228 : ∀ (B : Nat) (hB : B ≤ 250) (K : Mem → Int32 → Int32 → Int32 → Int32 → Int32 → Int32 → Int32 → Int32 → Int32 → Int32 → Option (Int32 × Mem)) (hK : ∀ (σ : Mem) (l1 : Int32) (l2 : Int32) (l3 : Int32) (l4 : Int32) (l5 : Int32) (l6 : Int32) (l7 : Int32) (l8 : Int32) (l9 : Int32) (l10 : Int32) (kc : Nat) (ns : Nat), kc ≤ B → ns ≤ 6 * B → K σ l1 l2 l3 l4 l5 l6 l7 l8 l9 l10 = some (r, σ') → J x [(0, .ref (G.2.2 (o0))), (1, .int (l1)), (2, .int (l2)), (3, .int (l3)), (4, .int (l4)), (5, .int (l5)), (6, .int (l6)), (7, .int (l7)), (8, .int (l8)), (9, .int (l9)), (10, .int (l10))] [] σ 38 kc ns) (σ : Mem) (l1 : Int32) (l2 : Int32) (l3 : Int32) (l4 : Int32) (l5 : Int32) (l6 : Int32) (l7 : Int32) (l8 : Int32) (l9 : Int32) (l10 : Int32) (l11 : Int32) (kc : Nat) (ns : Nat), kc + 0 ≤ B → ns + 0 ≤ 6 * B → lp_L_isSound_228 n o0 a1 K σ l1 l2 l3 l4 l5 l6 l7 l8 l9 l10 l11 = some (r, σ') → J x [(0, .ref (G.2.2 (o0))), (1, .int (l1)), (2, .int (l2)), (3, .int (l3)), (4, .int (l4)), (5, .int (l5)), (6, .int (l6)), (7, .int (l7)), (8, .int (l8)), (9, .int (l9)), (10, .int (l10)), (11, .int (l11))] [] σ 228 kc ns := by
    intro B hB K hK σ l1 l2 l3 l4 l5 l6 l7 l8 l9 l10 l11 kc ns hk hn h
    unfold lp_L_isSound_228 at h
    refine j_iconst C dL_isSound_228 ((0 : Int32)) (by decide) ?_
    exact j_zreturn C (by decide) dL_isSound_229 (e_i h hg) (show kc ≤ 250 by omega) (show ns ≤ 1500 by omega)
  have JP206 : ∀ (B : Nat) (hB : B ≤ 250) (K : Mem → Int32 → Int32 → Int32 → Int32 → Int32 → Int32 → Int32 → Int32 → Int32 → Int32 → Option (Int32 × Mem)) (hK : ∀ (σ : Mem) (l1 : Int32) (l2 : Int32) (l3 : Int32) (l4 : Int32) (l5 : Int32) (l6 : Int32) (l7 : Int32) (l8 : Int32) (l9 : Int32) (l10 : Int32) (kc : Nat) (ns : Nat), kc ≤ B → ns ≤ 6 * B → K σ l1 l2 l3 l4 l5 l6 l7 l8 l9 l10 = some (r, σ') → J x [(0, .ref (G.2.2 (o0))), (1, .int (l1)), (2, .int (l2)), (3, .int (l3)), (4, .int (l4)), (5, .int (l5)), (6, .int (l6)), (7, .int (l7)), (8, .int (l8)), (9, .int (l9)), (10, .int (l10))] [] σ 38 kc ns) (σ : Mem) (l1 : Int32) (l2 : Int32) (l3 : Int32) (l4 : Int32) (l5 : Int32) (l6 : Int32) (l7 : Int32) (l8 : Int32) (l9 : Int32) (l10 : Int32) (l11 : Int32) (s0 : Int32) (s1 : Int32) (kc : Nat) (ns : Nat), kc + 4 ≤ B → ns + 24 ≤ 6 * B → lp_L_isSound_206 n o0 a1 K σ l1 l2 l3 l4 l5 l6 l7 l8 l9 l10 l11 s0 s1 = some (r, σ') → J x [(0, .ref (G.2.2 (o0))), (1, .int (l1)), (2, .int (l2)), (3, .int (l3)), (4, .int (l4)), (5, .int (l5)), (6, .int (l6)), (7, .int (l7)), (8, .int (l8)), (9, .int (l9)), (10, .int (l10)), (11, .int (l11))] [.int (s0), .int (s1)] σ 206 kc ns := by
    intro B hB K hK σ l1 l2 l3 l4 l5 l6 l7 l8 l9 l10 l11 s0 s1 kc ns hk hn h
    unfold lp_L_isSound_206 at h
    refine j_icmp_ne C dL_isSound_206 228 (by decide) (fun c102 => ?_) (fun c102 => ?_)
    · have h := (if_neg c102).symm.trans h
      refine j_sub [0, 1, 2, 3, 4, 5, 6, 7, 8, 9, 10, 11] [(0, .ref (G.2.2 (o0))), (1, .int (l1)), (2, .int (l2)), (3, .int (l3)), (4, .int (l4)), (5, .int (l5)), (6, .int (l6)), (7, .int (l7)), (8, .int (l8)), (9, .int (l9)), (10, .int (l10)), (11, .int (l11))] rfl ?_
      exact JP228 B hB K hK σ l1 l2 l3 l4 l5 l6 l7 l8 l9 l10 l11 (kc) (ns) (by omega) (by omega) h
    · have h := (if_pos c102).symm.trans h
      refine j_aload_n C dL_isSound_209 0 rfl ?_
      refine j_iload C dL_isSound_210 10 rfl ?_
      refine j_iconst C dL_isSound_212 ((0 : Int32)) (by decide) ?_
      obtain ⟨⟨r103, σ104⟩, h105, h⟩ := ob h
      try dsimp only at h
      refine j_callSX C X (c_L_of n G σ o0 l10 ((0 : Int32)) ho0 _ _ h105) dL_isSound_213 (gSX u_488 u_490 u_480 u_489) rfl hy_L_of rfl rfl (by decide) (Nat.le_of_ble_eq_true rfl) (show kc + 2 ≤ 250 ∧ ns + 12 ≤ 1500 by omega) ?_
      refine j_aload_n C dL_isSound_216 0 rfl ?_
      refine j_iload C dL_isSound_217 10 rfl ?_
      refine j_iconst C dL_isSound_219 ((1 : Int32)) (by decide) ?_
      refine j_isub C dL_isSound_220 ?_
      refine j_iconst C dL_isSound_221 ((0 : Int32)) (by decide) ?_
      obtain ⟨⟨r106, σ107⟩, h108, h⟩ := ob h
      try dsimp only at h
      refine j_callSX C X (c_L_of n G σ104 o0 ((l10 - (1 : Int32))) ((0 : Int32)) ho0 _ _ h108) dL_isSound_222 (gSX u_488 u_490 u_480 u_489) rfl hy_L_of rfl rfl (by decide) (Nat.le_of_ble_eq_true rfl) (show kc + 2 + 2 ≤ 250 ∧ ns + 12 + 12 ≤ 1500 by omega) ?_
      refine j_icmp_gt C dL_isSound_225 230 (by decide) (fun c109 => ?_) (fun c109 => ?_)
      · have h := (if_pos c109).symm.trans h
        refine j_sub [0, 1, 2, 3, 4, 5, 6, 7, 8, 9, 10] [(0, .ref (G.2.2 (o0))), (1, .int (l1)), (2, .int (l2)), (3, .int (l3)), (4, .int (l4)), (5, .int (l5)), (6, .int (l6)), (7, .int (l7)), (8, .int (l8)), (9, .int (l9)), (10, .int (l10))] rfl ?_
        exact JP230 B hB K hK σ107 l1 l2 l3 l4 l5 l6 l7 l8 l9 l10 (kc + 2 + 2) (ns + 12 + 12) (by omega) (by omega) h
      · have h := (if_neg c109).symm.trans h
        refine j_sub [0, 1, 2, 3, 4, 5, 6, 7, 8, 9, 10, 11] [(0, .ref (G.2.2 (o0))), (1, .int (l1)), (2, .int (l2)), (3, .int (l3)), (4, .int (l4)), (5, .int (l5)), (6, .int (l6)), (7, .int (l7)), (8, .int (l8)), (9, .int (l9)), (10, .int (l10)), (11, .int (l11))] rfl ?_
        exact JP228 B hB K hK σ107 l1 l2 l3 l4 l5 l6 l7 l8 l9 l10 l11 (kc + 2 + 2) (ns + 12 + 12) (by omega) (by omega) h
  have JP190 : ∀ (B : Nat) (hB : B ≤ 250) (K : Mem → Int32 → Int32 → Int32 → Int32 → Int32 → Int32 → Int32 → Int32 → Int32 → Int32 → Option (Int32 × Mem)) (hK : ∀ (σ : Mem) (l1 : Int32) (l2 : Int32) (l3 : Int32) (l4 : Int32) (l5 : Int32) (l6 : Int32) (l7 : Int32) (l8 : Int32) (l9 : Int32) (l10 : Int32) (kc : Nat) (ns : Nat), kc ≤ B → ns ≤ 6 * B → K σ l1 l2 l3 l4 l5 l6 l7 l8 l9 l10 = some (r, σ') → J x [(0, .ref (G.2.2 (o0))), (1, .int (l1)), (2, .int (l2)), (3, .int (l3)), (4, .int (l4)), (5, .int (l5)), (6, .int (l6)), (7, .int (l7)), (8, .int (l8)), (9, .int (l9)), (10, .int (l10))] [] σ 38 kc ns) (σ : Mem) (l1 : Int32) (l2 : Int32) (l3 : Int32) (l4 : Int32) (l5 : Int32) (l6 : Int32) (l7 : Int32) (l8 : Int32) (l9 : Int32) (l10 : Int32) (l11 : Int32) (s0 : Int32) (kc : Nat) (ns : Nat), kc + 6 ≤ B → ns + 36 ≤ 6 * B → lp_L_isSound_190 n o0 a1 K σ l1 l2 l3 l4 l5 l6 l7 l8 l9 l10 l11 s0 = some (r, σ') → J x [(0, .ref (G.2.2 (o0))), (1, .int (l1)), (2, .int (l2)), (3, .int (l3)), (4, .int (l4)), (5, .int (l5)), (6, .int (l6)), (7, .int (l7)), (8, .int (l8)), (9, .int (l9)), (10, .int (l10)), (11, .int (l11))] [.int (s0)] σ 190 kc ns := by
    intro B hB K hK σ l1 l2 l3 l4 l5 l6 l7 l8 l9 l10 l11 s0 kc ns hk hn h
    unfold lp_L_isSound_190 at h
    refine j_aload_n C dL_isSound_190 0 rfl ?_
    refine j_iload C dL_isSound_191 10 rfl ?_
    refine j_bipush C dL_isSound_193 ((6 : Int32)) (by decide) ?_
    obtain ⟨⟨r98, σ99⟩, h100, h⟩ := ob h
    try dsimp only at h
    refine j_callSX C X (c_L_of n G σ o0 l10 ((6 : Int32)) ho0 _ _ h100) dL_isSound_195 (gSX u_488 u_490 u_480 u_489) rfl hy_L_of rfl rfl (by decide) (Nat.le_of_ble_eq_true rfl) (show kc + 2 ≤ 250 ∧ ns + 12 ≤ 1500 by omega) ?_
    refine j_if_ne C dL_isSound_198 205 (by decide) (fun c101 => ?_) (fun c101 => ?_)
    · have h := (if_neg c101).symm.trans h
      refine j_iconst C dL_isSound_205 ((0 : Int32)) (by decide) ?_
      refine j_sub [0, 1, 2, 3, 4, 5, 6, 7, 8, 9, 10, 11] [(0, .ref (G.2.2 (o0))), (1, .int (l1)), (2, .int (l2)), (3, .int (l3)), (4, .int (l4)), (5, .int (l5)), (6, .int (l6)), (7, .int (l7)), (8, .int (l8)), (9, .int (l9)), (10, .int (l10)), (11, .int (l11))] rfl ?_
      exact JP206 B hB K hK σ99 l1 l2 l3 l4 l5 l6 l7 l8 l9 l10 l11 ((0 : Int32)) s0 (kc + 2) (ns + 12) (by omega) (by omega) h
    · have h := (if_pos c101).symm.trans h
      refine j_iconst C dL_isSound_201 ((1 : Int32)) (by decide) ?_
      refine j_goto C dL_isSound_202 206 (by decide) ?_
      refine j_sub [0, 1, 2, 3, 4, 5, 6, 7, 8, 9, 10, 11] [(0, .ref (G.2.2 (o0))), (1, .int (l1)), (2, .int (l2)), (3, .int (l3)), (4, .int (l4)), (5, .int (l5)), (6, .int (l6)), (7, .int (l7)), (8, .int (l8)), (9, .int (l9)), (10, .int (l10)), (11, .int (l11))] rfl ?_
      exact JP206 B hB K hK σ99 l1 l2 l3 l4 l5 l6 l7 l8 l9 l10 l11 ((1 : Int32)) s0 (kc + 2) (ns + 12) (by omega) (by omega) h
  have JP144 : ∀ (B : Nat) (hB : B ≤ 250) (K : Mem → Int32 → Int32 → Int32 → Int32 → Int32 → Int32 → Int32 → Int32 → Int32 → Int32 → Option (Int32 × Mem)) (hK : ∀ (σ : Mem) (l1 : Int32) (l2 : Int32) (l3 : Int32) (l4 : Int32) (l5 : Int32) (l6 : Int32) (l7 : Int32) (l8 : Int32) (l9 : Int32) (l10 : Int32) (kc : Nat) (ns : Nat), kc ≤ B → ns ≤ 6 * B → K σ l1 l2 l3 l4 l5 l6 l7 l8 l9 l10 = some (r, σ') → J x [(0, .ref (G.2.2 (o0))), (1, .int (l1)), (2, .int (l2)), (3, .int (l3)), (4, .int (l4)), (5, .int (l5)), (6, .int (l6)), (7, .int (l7)), (8, .int (l8)), (9, .int (l9)), (10, .int (l10))] [] σ 38 kc ns) (σ : Mem) (l1 : Int32) (l2 : Int32) (l3 : Int32) (l4 : Int32) (l5 : Int32) (l6 : Int32) (l7 : Int32) (l8 : Int32) (l9 : Int32) (l10 : Int32) (l11 : Int32) (s0 : Int32) (s1 : Int32) (kc : Nat) (ns : Nat), kc + 12 ≤ B → ns + 72 ≤ 6 * B → lp_L_isSound_144 n o0 a1 K σ l1 l2 l3 l4 l5 l6 l7 l8 l9 l10 l11 s0 s1 = some (r, σ') → J x [(0, .ref (G.2.2 (o0))), (1, .int (l1)), (2, .int (l2)), (3, .int (l3)), (4, .int (l4)), (5, .int (l5)), (6, .int (l6)), (7, .int (l7)), (8, .int (l8)), (9, .int (l9)), (10, .int (l10)), (11, .int (l11))] [.int (s0), .int (s1)] σ 144 kc ns := by
    intro B hB K hK σ l1 l2 l3 l4 l5 l6 l7 l8 l9 l10 l11 s0 s1 kc ns hk hn h
    unfold lp_L_isSound_144 at h
    refine j_iadd C dL_isSound_144 ?_
    refine j_istore C dL_isSound_145 (by decide) [(6, .int ((s1 + s0))), (0, .ref (G.2.2 (o0))), (1, .int (l1)), (2, .int (l2)), (3, .int (l3)), (4, .int (l4)), (5, .int (l5)), (7, .int (l7)), (8, .int (l8)), (9, .int (l9)), (10, .int (l10)), (11, .int (l11))] rfl ?_
    refine j_iload C dL_isSound_147 11 rfl ?_
    refine j_aload_n C dL_isSound_149 1 rfl ?_
    refine j_iload C dL_isSound_150 10 rfl ?_
    refine j_iconst C dL_isSound_152 ((2 : Int32)) (by decide) ?_
    obtain ⟨⟨r85, σ86⟩, h87, h⟩ := ob h
    try dsimp only at h
    refine j_callSX C X (c_L_of n G σ o0 l10 ((2 : Int32)) ho0 _ _ h87) dL_isSound_153 (gSX u_488 u_490 u_480 u_489) rfl hy_L_of rfl rfl (by decide) (Nat.le_of_ble_eq_true rfl) (show kc + 2 ≤ 250 ∧ ns + 12 ≤ 1500 by omega) ?_
    refine j_icmp_ne C dL_isSound_156 228 (by decide) (fun c88 => ?_) (fun c88 => ?_)
    · have h := (if_neg c88).symm.trans h
      refine j_sub [1, 2, 3, 4, 5, 6, 0, 7, 8, 9, 10, 11] [(0, .ref (G.2.2 (o0))), (1, .int (l1)), (2, .int (l2)), (3, .int (l3)), (4, .int (l4)), (5, .int (l5)), (6, .int ((s1 + s0))), (7, .int (l7)), (8, .int (l8)), (9, .int (l9)), (10, .int (l10)), (11, .int (l11))] rfl ?_
      exact JP228 B hB K hK σ86 l1 l2 l3 l4 l5 ((s1 + s0)) l7 l8 l9 l10 l11 (kc + 2) (ns + 12) (by omega) (by omega) h
    · have h := (if_pos c88).symm.trans h
      refine j_iload C dL_isSound_159 11 rfl ?_
      refine j_if_lt C dL_isSound_161 228 (by decide) (fun c89 => ?_) (fun c89 => ?_)
      · have h := (if_pos c89).symm.trans h
        refine j_sub [1, 2, 3, 4, 5, 6, 0, 7, 8, 9, 10, 11] [(0, .ref (G.2.2 (o0))), (1, .int (l1)), (2, .int (l2)), (3, .int (l3)), (4, .int (l4)), (5, .int (l5)), (6, .int ((s1 + s0))), (7, .int (l7)), (8, .int (l8)), (9, .int (l9)), (10, .int (l10)), (11, .int (l11))] rfl ?_
        exact JP228 B hB K hK σ86 l1 l2 l3 l4 l5 ((s1 + s0)) l7 l8 l9 l10 l11 (kc + 2) (ns + 12) (by omega) (by omega) h
      · have h := (if_neg c89).symm.trans h
        refine j_aload_n C dL_isSound_164 1 rfl ?_
        refine j_iload C dL_isSound_165 10 rfl ?_
        refine j_iconst C dL_isSound_167 ((3 : Int32)) (by decide) ?_
        obtain ⟨⟨r90, σ91⟩, h92, h⟩ := ob h
        try dsimp only at h
        refine j_callSX C X (c_L_of n G σ86 o0 l10 ((3 : Int32)) ho0 _ _ h92) dL_isSound_168 (gSX u_488 u_490 u_480 u_489) rfl hy_L_of rfl rfl (by decide) (Nat.le_of_ble_eq_true rfl) (show kc + 2 + 2 ≤ 250 ∧ ns + 12 + 12 ≤ 1500 by omega) ?_
        refine j_if_lt C dL_isSound_171 228 (by decide) (fun c93 => ?_) (fun c93 => ?_)
        · have h := (if_pos c93).symm.trans h
          refine j_sub [1, 2, 3, 4, 5, 6, 0, 7, 8, 9, 10, 11] [(0, .ref (G.2.2 (o0))), (1, .int (l1)), (2, .int (l2)), (3, .int (l3)), (4, .int (l4)), (5, .int (l5)), (6, .int ((s1 + s0))), (7, .int (l7)), (8, .int (l8)), (9, .int (l9)), (10, .int (l10)), (11, .int (l11))] rfl ?_
          exact JP228 B hB K hK σ91 l1 l2 l3 l4 l5 ((s1 + s0)) l7 l8 l9 l10 l11 (kc + 2 + 2) (ns + 12 + 12) (by omega) (by omega) h
        · have h := (if_neg c93).symm.trans h
          refine j_aload_n C dL_isSound_174 1 rfl ?_
          refine j_iload C dL_isSound_175 10 rfl ?_
          refine j_iconst C dL_isSound_177 ((5 : Int32)) (by decide) ?_
          obtain ⟨⟨r94, σ95⟩, h96, h⟩ := ob h
          try dsimp only at h
          refine j_callSX C X (c_L_of n G σ91 o0 l10 ((5 : Int32)) ho0 _ _ h96) dL_isSound_178 (gSX u_488 u_490 u_480 u_489) rfl hy_L_of rfl rfl (by decide) (Nat.le_of_ble_eq_true rfl) (show kc + 2 + 2 + 2 ≤ 250 ∧ ns + 12 + 12 + 12 ≤ 1500 by omega) ?_
          refine j_iconst C dL_isSound_181 ((1 : Int32)) (by decide) ?_
          refine j_icmp_ne C dL_isSound_182 189 (by decide) (fun c97 => ?_) (fun c97 => ?_)
          · have h := (if_neg c97).symm.trans h
            refine j_iconst C dL_isSound_189 ((0 : Int32)) (by decide) ?_
            refine j_sub [1, 2, 3, 4, 5, 6, 0, 7, 8, 9, 10, 11] [(0, .ref (G.2.2 (o0))), (1, .int (l1)), (2, .int (l2)), (3, .int (l3)), (4, .int (l4)), (5, .int (l5)), (6, .int ((s1 + s0))), (7, .int (l7)), (8, .int (l8)), (9, .int (l9)), (10, .int (l10)), (11, .int (l11))] rfl ?_
            exact JP190 B hB K hK σ95 l1 l2 l3 l4 l5 ((s1 + s0)) l7 l8 l9 l10 l11 ((0 : Int32)) (kc + 2 + 2 + 2) (ns + 12 + 12 + 12) (by omega) (by omega) h
          · have h := (if_pos c97).symm.trans h
            refine j_iconst C dL_isSound_185 ((1 : Int32)) (by decide) ?_
            refine j_goto C dL_isSound_186 190 (by decide) ?_
            refine j_sub [1, 2, 3, 4, 5, 6, 0, 7, 8, 9, 10, 11] [(0, .ref (G.2.2 (o0))), (1, .int (l1)), (2, .int (l2)), (3, .int (l3)), (4, .int (l4)), (5, .int (l5)), (6, .int ((s1 + s0))), (7, .int (l7)), (8, .int (l8)), (9, .int (l9)), (10, .int (l10)), (11, .int (l11))] rfl ?_
            exact JP190 B hB K hK σ95 l1 l2 l3 l4 l5 ((s1 + s0)) l7 l8 l9 l10 l11 ((1 : Int32)) (kc + 2 + 2 + 2) (ns + 12 + 12 + 12) (by omega) (by omega) h
  have JP117 : ∀ (B : Nat) (hB : B ≤ 250) (K : Mem → Int32 → Int32 → Int32 → Int32 → Int32 → Int32 → Int32 → Int32 → Int32 → Int32 → Option (Int32 × Mem)) (hK : ∀ (σ : Mem) (l1 : Int32) (l2 : Int32) (l3 : Int32) (l4 : Int32) (l5 : Int32) (l6 : Int32) (l7 : Int32) (l8 : Int32) (l9 : Int32) (l10 : Int32) (kc : Nat) (ns : Nat), kc ≤ B → ns ≤ 6 * B → K σ l1 l2 l3 l4 l5 l6 l7 l8 l9 l10 = some (r, σ') → J x [(0, .ref (G.2.2 (o0))), (1, .int (l1)), (2, .int (l2)), (3, .int (l3)), (4, .int (l4)), (5, .int (l5)), (6, .int (l6)), (7, .int (l7)), (8, .int (l8)), (9, .int (l9)), (10, .int (l10))] [] σ 38 kc ns) (σ : Mem) (l1 : Int32) (l2 : Int32) (l3 : Int32) (l4 : Int32) (l5 : Int32) (l6 : Int32) (l7 : Int32) (l8 : Int32) (l9 : Int32) (l10 : Int32) (l11 : Int32) (s0 : Int32) (kc : Nat) (ns : Nat), kc + 16 ≤ B → ns + 96 ≤ 6 * B → lp_L_isSound_117 n o0 a1 K σ l1 l2 l3 l4 l5 l6 l7 l8 l9 l10 l11 s0 = some (r, σ') → J x [(0, .ref (G.2.2 (o0))), (1, .int (l1)), (2, .int (l2)), (3, .int (l3)), (4, .int (l4)), (5, .int (l5)), (6, .int (l6)), (7, .int (l7)), (8, .int (l8)), (9, .int (l9)), (10, .int (l10)), (11, .int (l11))] [.int (s0)] σ 117 kc ns := by
    intro B hB K hK σ l1 l2 l3 l4 l5 l6 l7 l8 l9 l10 l11 s0 kc ns hk hn h
    unfold lp_L_isSound_117 at h
    refine j_istore C dL_isSound_117 (by decide) [(7, .int (s0)), (0, .ref (G.2.2 (o0))), (1, .int (l1)), (2, .int (l2)), (3, .int (l3)), (4, .int (l4)), (5, .int (l5)), (6, .int (l6)), (8, .int (l8)), (9, .int (l9)), (10, .int (l10)), (11, .int (l11))] rfl ?_
    refine j_iload C dL_isSound_119 7 rfl ?_
    refine j_aload_n C dL_isSound_121 1 rfl ?_
    refine j_iload C dL_isSound_122 10 rfl ?_
    refine j_iconst C dL_isSound_124 ((5 : Int32)) (by decide) ?_
    obtain ⟨⟨r81, σ82⟩, h83, h⟩ := ob h
    try dsimp only at h
    refine j_callSX C X (c_L_of n G σ o0 l10 ((5 : Int32)) ho0 _ _ h83) dL_isSound_125 (gSX u_488 u_490 u_480 u_489) rfl hy_L_of rfl rfl (by decide) (Nat.le_of_ble_eq_true rfl) (show kc + 2 ≤ 250 ∧ ns + 12 ≤ 1500 by omega) ?_
    refine j_iconst C dL_isSound_128 ((1 : Int32)) (by decide) ?_
    refine j_icmp_ne C dL_isSound_129 143 (by decide) (fun c84 => ?_) (fun c84 => ?_)
    · have h := (if_neg c84).symm.trans h
      refine j_iconst C dL_isSound_143 ((0 : Int32)) (by decide) ?_
      refine j_sub [1, 2, 3, 4, 5, 6, 7, 0, 8, 9, 10, 11] [(0, .ref (G.2.2 (o0))), (1, .int (l1)), (2, .int (l2)), (3, .int (l3)), (4, .int (l4)), (5, .int (l5)), (6, .int (l6)), (7, .int (s0)), (8, .int (l8)), (9, .int (l9)), (10, .int (l10)), (11, .int (l11))] rfl ?_
      exact JP144 B hB K hK σ82 l1 l2 l3 l4 l5 l6 s0 l8 l9 l10 l11 ((0 : Int32)) l6 (kc + 2) (ns + 12) (by omega) (by omega) h
    · have h := (if_pos c84).symm.trans h
      refine j_aload_n C dL_isSound_132 1 rfl ?_
      refine j_iload C dL_isSound_133 10 rfl ?_
      refine j_bipush C dL_isSound_135 ((7 : Int32)) (by decide) ?_
      obtain ⟨⟨r110, σ111⟩, h112, h⟩ := ob h
      try dsimp only at h
      refine j_callSX C X (c_L_of n G σ82 o0 l10 ((7 : Int32)) ho0 _ _ h112) dL_isSound_137 (gSX u_488 u_490 u_480 u_489) rfl hy_L_of rfl rfl (by decide) (Nat.le_of_ble_eq_true rfl) (show kc + 2 + 2 ≤ 250 ∧ ns + 12 + 12 ≤ 1500 by omega) ?_
      refine j_goto C dL_isSound_140 144 (by decide) ?_
      refine j_sub [1, 2, 3, 4, 5, 6, 7, 0, 8, 9, 10, 11] [(0, .ref (G.2.2 (o0))), (1, .int (l1)), (2, .int (l2)), (3, .int (l3)), (4, .int (l4)), (5, .int (l5)), (6, .int (l6)), (7, .int (s0)), (8, .int (l8)), (9, .int (l9)), (10, .int (l10)), (11, .int (l11))] rfl ?_
      exact JP144 B hB K hK σ111 l1 l2 l3 l4 l5 l6 s0 l8 l9 l10 l11 r110 l6 (kc + 2 + 2) (ns + 12 + 12) (by omega) (by omega) h
  have LP38 : ∀ (k : Nat) (σ : Mem) (l1 : Int32) (l2 : Int32) (l3 : Int32) (l4 : Int32) (l5 : Int32) (l6 : Int32) (l7 : Int32) (l8 : Int32) (l9 : Int32) (l10 : Int32) (kc : Nat) (ns : Nat), kc + 24 * k + 8 ≤ 250 → ns + 144 * k + 48 ≤ 1500 → lp_L_isSound_38 n o0 a1 k σ l1 l2 l3 l4 l5 l6 l7 l8 l9 l10 = some (r, σ') → J x [(0, .ref (G.2.2 (o0))), (1, .int (l1)), (2, .int (l2)), (3, .int (l3)), (4, .int (l4)), (5, .int (l5)), (6, .int (l6)), (7, .int (l7)), (8, .int (l8)), (9, .int (l9)), (10, .int (l10))] [] σ 38 kc ns := by
    intro k
    induction k with
    | zero => intro σ l1 l2 l3 l4 l5 l6 l7 l8 l9 l10 kc ns hk hn h; cases h
    | succ k ih =>
    intro σ l1 l2 l3 l4 l5 l6 l7 l8 l9 l10 kc ns hk hn h
    rw [lp_L_isSound_38_s] at h
    refine j_iload C dL_isSound_38 10 rfl ?_
    refine j_aload_n C dL_isSound_40 0 rfl ?_
    obtain ⟨⟨r7, σ8⟩, h9, h⟩ := ob h
    try dsimp only at h
    refine j_callV C X (c_X5_levelCount n G σ o0 ho0 _ _ h9) dL_isSound_41 (gV u_475 u_477 u_478 u_211 u_476) rfl hy_X5_levelCount rfl ho0 rfl (ci := 9) rfl rfl rfl (by decide) (Nat.le_of_ble_eq_true rfl) (show kc + 0 ≤ 250 ∧ ns + 0 ≤ 1500 by omega) ?_
    refine j_icmp_gt C dL_isSound_44 236 (by decide) (fun c10 => ?_) (fun c10 => ?_)
    · have h := (if_pos c10).symm.trans h
      refine j_sub [0, 1, 2, 3, 4, 5, 6, 7, 8, 9, 10] [(0, .ref (G.2.2 (o0))), (1, .int (l1)), (2, .int (l2)), (3, .int (l3)), (4, .int (l4)), (5, .int (l5)), (6, .int (l6)), (7, .int (l7)), (8, .int (l8)), (9, .int (l9)), (10, .int (l10))] rfl ?_
      exact JP236 σ8 l1 l2 l3 l4 l5 l6 l7 l8 l9 l10 (kc + 0) (ns + 0) (by omega) (by omega) h
    · have h := (if_neg c10).symm.trans h
      refine j_iload C dL_isSound_47 4 rfl ?_
      refine j_aload_n C dL_isSound_49 0 rfl ?_
      refine j_iload C dL_isSound_50 10 rfl ?_
      refine j_bipush C dL_isSound_52 ((7 : Int32)) (by decide) ?_
      obtain ⟨⟨r67, σ68⟩, h69, h⟩ := ob h
      try dsimp only at h
      refine j_callSX C X (c_L_of n G σ8 o0 l10 ((7 : Int32)) ho0 _ _ h69) dL_isSound_54 (gSX u_488 u_490 u_480 u_489) rfl hy_L_of rfl rfl (by decide) (Nat.le_of_ble_eq_true rfl) (show kc + 0 + 2 ≤ 250 ∧ ns + 0 + 12 ≤ 1500 by omega) ?_
      refine j_iadd C dL_isSound_57 ?_
      refine j_istore C dL_isSound_58 (by decide) [(4, .int ((l4 + r67))), (0, .ref (G.2.2 (o0))), (1, .int (l1)), (2, .int (l2)), (3, .int (l3)), (5, .int (l5)), (6, .int (l6)), (7, .int (l7)), (8, .int (l8)), (9, .int (l9)), (10, .int (l10))] rfl ?_
      refine j_iload C dL_isSound_60 5 rfl ?_
      refine j_aload_n C dL_isSound_62 1 rfl ?_
      refine j_iload C dL_isSound_63 10 rfl ?_
      refine j_bipush C dL_isSound_65 ((8 : Int32)) (by decide) ?_
      obtain ⟨⟨r70, σ71⟩, h72, h⟩ := ob h
      try dsimp only at h
      refine j_callSX C X (c_L_of n G σ68 o0 l10 ((8 : Int32)) ho0 _ _ h72) dL_isSound_67 (gSX u_488 u_490 u_480 u_489) rfl hy_L_of rfl rfl (by decide) (Nat.le_of_ble_eq_true rfl) (show kc + 0 + 2 + 2 ≤ 250 ∧ ns + 0 + 12 + 12 ≤ 1500 by omega) ?_
      refine j_iadd C dL_isSound_70 ?_
      refine j_istore C dL_isSound_71 (by decide) [(5, .int ((l5 + r70))), (4, .int ((l4 + r67))), (0, .ref (G.2.2 (o0))), (1, .int (l1)), (2, .int (l2)), (3, .int (l3)), (6, .int (l6)), (7, .int (l7)), (8, .int (l8)), (9, .int (l9)), (10, .int (l10))] rfl ?_
      refine j_iload C dL_isSound_73 10 rfl ?_
      refine j_if_le C dL_isSound_75 230 (by decide) (fun c73 => ?_) (fun c73 => ?_)
      · have h := (if_pos c73).symm.trans h
        refine j_sub [2, 3, 4, 5, 1, 0, 6, 7, 8, 9, 10] [(0, .ref (G.2.2 (o0))), (1, .int (l1)), (2, .int (l2)), (3, .int (l3)), (4, .int ((l4 + r67))), (5, .int ((l5 + r70))), (6, .int (l6)), (7, .int (l7)), (8, .int (l8)), (9, .int (l9)), (10, .int (l10))] rfl ?_
        exact JP230 (250 - 8 - 24 * k) (by omega) (fun σ l1 l2 l3 l4 l5 l6 l7 l8 l9 l10 => lp_L_isSound_38 n o0 a1 k σ l1 l2 l3 l4 l5 l6 l7 l8 l9 l10) (fun σ l1 l2 l3 l4 l5 l6 l7 l8 l9 l10 kc9 ns9 h1 h2 h3 => ih σ l1 l2 l3 l4 l5 l6 l7 l8 l9 l10 kc9 ns9 (by omega) (by omega) h3) σ71 l1 l2 l3 ((l4 + r67)) ((l5 + r70)) l6 l7 l8 l9 l10 (kc + 0 + 2 + 2) (ns + 0 + 12 + 12) (by omega) (by omega) h
      · have h := (if_neg c73).symm.trans h
        refine j_aload_n C dL_isSound_78 2 rfl ?_
        refine j_iload C dL_isSound_79 10 rfl ?_
        refine j_iconst C dL_isSound_81 ((1 : Int32)) (by decide) ?_
        obtain ⟨⟨r74, σ75⟩, h76, h⟩ := ob h
        try dsimp only at h
        refine j_callSX C X (c_L_of n G σ71 o0 l10 ((1 : Int32)) ho0 _ _ h76) dL_isSound_82 (gSX u_488 u_490 u_480 u_489) rfl hy_L_of rfl rfl (by decide) (Nat.le_of_ble_eq_true rfl) (show kc + 0 + 2 + 2 + 2 ≤ 250 ∧ ns + 0 + 12 + 12 + 12 ≤ 1500 by omega) ?_
        refine j_istore C dL_isSound_85 (by decide) [(11, .int (r74)), (5, .int ((l5 + r70))), (4, .int ((l4 + r67))), (0, .ref (G.2.2 (o0))), (1, .int (l1)), (2, .int (l2)), (3, .int (l3)), (6, .int (l6)), (7, .int (l7)), (8, .int (l8)), (9, .int (l9)), (10, .int (l10))] rfl ?_
        refine j_iload_n C dL_isSound_87 5 rfl ?_
        refine j_aload_n C dL_isSound_88 3 rfl ?_
        refine j_iload C dL_isSound_89 11 rfl ?_
        refine j_iconst C dL_isSound_91 ((3 : Int32)) (by decide) ?_
        obtain ⟨⟨r77, σ78⟩, h79, h⟩ := ob h
        try dsimp only at h
        refine j_callSX C X (c_L_of n G σ75 o0 l10 ((3 : Int32)) ho0 _ _ h79) dL_isSound_92 (gSX u_488 u_490 u_480 u_489) rfl hy_L_of rfl rfl (by decide) (Nat.le_of_ble_eq_true rfl) (show kc + 0 + 2 + 2 + 2 + 2 ≤ 250 ∧ ns + 0 + 12 + 12 + 12 + 12 ≤ 1500 by omega) ?_
        refine j_iadd C dL_isSound_95 ?_
        refine j_istore_n C dL_isSound_96 (by decide) [(2, .int ((l2 + r77))), (11, .int (r74)), (5, .int ((l5 + r70))), (4, .int ((l4 + r67))), (0, .ref (G.2.2 (o0))), (1, .int (l1)), (3, .int (l3)), (6, .int (l6)), (7, .int (l7)), (8, .int (l8)), (9, .int (l9)), (10, .int (l10))] rfl ?_
        refine j_iload_n C dL_isSound_97 6 rfl ?_
        refine j_iload C dL_isSound_98 1 rfl ?_
        refine j_iadd C dL_isSound_100 ?_
        refine j_istore_n C dL_isSound_101 (by decide) [(3, .int ((l3 + r74))), (2, .int ((l2 + r77))), (11, .int (r74)), (5, .int ((l5 + r70))), (4, .int ((l4 + r67))), (0, .ref (G.2.2 (o0))), (1, .int (l1)), (6, .int (l6)), (7, .int (l7)), (8, .int (l8)), (9, .int (l9)), (10, .int (l10))] rfl ?_
        refine j_iload C dL_isSound_102 8 rfl ?_
        refine j_if_ne C dL_isSound_104 112 (by decide) (fun c80 => ?_) (fun c80 => ?_)
        · have h := (if_neg c80).symm.trans h
          refine j_iconst C dL_isSound_112 ((1 : Int32)) (by decide) ?_
          refine j_goto C dL_isSound_113 117 (by decide) ?_
          refine j_sub [5, 6, 1, 0, 4, 3, 7, 8, 9, 10, 11, 2] [(0, .ref (G.2.2 (o0))), (1, .int (l1)), (2, .int ((l2 + r77))), (3, .int ((l3 + r74))), (4, .int ((l4 + r67))), (5, .int ((l5 + r70))), (6, .int (l6)), (7, .int (l7)), (8, .int (l8)), (9, .int (l9)), (10, .int (l10)), (11, .int (r74))] rfl ?_
          exact JP117 (250 - 8 - 24 * k) (by omega) (fun σ l1 l2 l3 l4 l5 l6 l7 l8 l9 l10 => lp_L_isSound_38 n o0 a1 k σ l1 l2 l3 l4 l5 l6 l7 l8 l9 l10) (fun σ l1 l2 l3 l4 l5 l6 l7 l8 l9 l10 kc9 ns9 h1 h2 h3 => ih σ l1 l2 l3 l4 l5 l6 l7 l8 l9 l10 kc9 ns9 (by omega) (by omega) h3) σ78 l1 ((l2 + r77)) ((l3 + r74)) ((l4 + r67)) ((l5 + r70)) l6 l7 l8 l9 l10 r74 ((1 : Int32)) (kc + 0 + 2 + 2 + 2 + 2) (ns + 0 + 12 + 12 + 12 + 12) (by omega) (by omega) h
        · have h := (if_pos c80).symm.trans h
          refine j_iload C dL_isSound_107 2 rfl ?_
          refine j_if_le C dL_isSound_109 116 (by decide) (fun c113 => ?_) (fun c113 => ?_)
          · have h := (if_pos c113).symm.trans h
            refine j_iconst C dL_isSound_116 ((0 : Int32)) (by decide) ?_
            refine j_sub [5, 6, 1, 0, 4, 3, 7, 8, 9, 10, 11, 2] [(0, .ref (G.2.2 (o0))), (1, .int (l1)), (2, .int ((l2 + r77))), (3, .int ((l3 + r74))), (4, .int ((l4 + r67))), (5, .int ((l5 + r70))), (6, .int (l6)), (7, .int (l7)), (8, .int (l8)), (9, .int (l9)), (10, .int (l10)), (11, .int (r74))] rfl ?_
            exact JP117 (250 - 8 - 24 * k) (by omega) (fun σ l1 l2 l3 l4 l5 l6 l7 l8 l9 l10 => lp_L_isSound_38 n o0 a1 k σ l1 l2 l3 l4 l5 l6 l7 l8 l9 l10) (fun σ l1 l2 l3 l4 l5 l6 l7 l8 l9 l10 kc9 ns9 h1 h2 h3 => ih σ l1 l2 l3 l4 l5 l6 l7 l8 l9 l10 kc9 ns9 (by omega) (by omega) h3) σ78 l1 ((l2 + r77)) ((l3 + r74)) ((l4 + r67)) ((l5 + r70)) l6 l7 l8 l9 l10 r74 ((0 : Int32)) (kc + 0 + 2 + 2 + 2 + 2) (ns + 0 + 12 + 12 + 12 + 12) (by omega) (by omega) h
          · have h := (if_neg c113).symm.trans h
            refine j_iconst C dL_isSound_112 ((1 : Int32)) (by decide) ?_
            refine j_goto C dL_isSound_113 117 (by decide) ?_
            refine j_sub [5, 6, 1, 0, 4, 3, 7, 8, 9, 10, 11, 2] [(0, .ref (G.2.2 (o0))), (1, .int (l1)), (2, .int ((l2 + r77))), (3, .int ((l3 + r74))), (4, .int ((l4 + r67))), (5, .int ((l5 + r70))), (6, .int (l6)), (7, .int (l7)), (8, .int (l8)), (9, .int (l9)), (10, .int (l10)), (11, .int (r74))] rfl ?_
            exact JP117 (250 - 8 - 24 * k) (by omega) (fun σ l1 l2 l3 l4 l5 l6 l7 l8 l9 l10 => lp_L_isSound_38 n o0 a1 k σ l1 l2 l3 l4 l5 l6 l7 l8 l9 l10) (fun σ l1 l2 l3 l4 l5 l6 l7 l8 l9 l10 kc9 ns9 h1 h2 h3 => ih σ l1 l2 l3 l4 l5 l6 l7 l8 l9 l10 kc9 ns9 (by omega) (by omega) h3) σ78 l1 ((l2 + r77)) ((l3 + r74)) ((l4 + r67)) ((l5 + r70)) l6 l7 l8 l9 l10 r74 ((1 : Int32)) (kc + 0 + 2 + 2 + 2 + 2) (ns + 0 + 12 + 12 + 12 + 12) (by omega) (by omega) h
  unfold sp_L_isSound at h
  show J x [(0, .ref (G.2.2 (o0))), (1, .int (a1))] [] σ 0 0 0
  refine j_iconst C dL_isSound_0 ((0 : Int32)) (by decide) ?_
  refine j_istore_n C dL_isSound_1 (by decide) [(2, .int ((0 : Int32))), (0, .ref (G.2.2 (o0))), (1, .int (a1))] rfl ?_
  refine j_iconst C dL_isSound_2 ((0 : Int32)) (by decide) ?_
  refine j_istore_n C dL_isSound_3 (by decide) [(3, .int ((0 : Int32))), (2, .int ((0 : Int32))), (0, .ref (G.2.2 (o0))), (1, .int (a1))] rfl ?_
  refine j_iconst C dL_isSound_4 ((0 : Int32)) (by decide) ?_
  refine j_istore C dL_isSound_5 (by decide) [(4, .int ((0 : Int32))), (3, .int ((0 : Int32))), (2, .int ((0 : Int32))), (0, .ref (G.2.2 (o0))), (1, .int (a1))] rfl ?_
  refine j_iconst C dL_isSound_7 ((0 : Int32)) (by decide) ?_
  refine j_istore C dL_isSound_8 (by decide) [(5, .int ((0 : Int32))), (4, .int ((0 : Int32))), (3, .int ((0 : Int32))), (2, .int ((0 : Int32))), (0, .ref (G.2.2 (o0))), (1, .int (a1))] rfl ?_
  refine j_iconst C dL_isSound_10 ((0 : Int32)) (by decide) ?_
  refine j_istore C dL_isSound_11 (by decide) [(6, .int ((0 : Int32))), (5, .int ((0 : Int32))), (4, .int ((0 : Int32))), (3, .int ((0 : Int32))), (2, .int ((0 : Int32))), (0, .ref (G.2.2 (o0))), (1, .int (a1))] rfl ?_
  refine j_iconst C dL_isSound_13 ((0 : Int32)) (by decide) ?_
  refine j_istore C dL_isSound_14 (by decide) [(7, .int ((0 : Int32))), (6, .int ((0 : Int32))), (5, .int ((0 : Int32))), (4, .int ((0 : Int32))), (3, .int ((0 : Int32))), (2, .int ((0 : Int32))), (0, .ref (G.2.2 (o0))), (1, .int (a1))] rfl ?_
  refine j_aload_n C dL_isSound_16 6 rfl ?_
  refine j_bipush C dL_isSound_17 ((102 : Int32)) (by decide) ?_
  refine j_iconst C dL_isSound_19 ((0 : Int32)) (by decide) ?_
  obtain ⟨⟨r1, σ2⟩, h3, h⟩ := ob h
  try dsimp only at h
  refine j_callSX C X (c_L_sets n G σ o0 ((102 : Int32)) ((0 : Int32)) ho0 _ _ h3) dL_isSound_20 (gSX u_491 u_493 u_480 u_492) rfl hy_L_sets rfl rfl (by decide) (Nat.le_of_ble_eq_true rfl) (show 0 + 1 ≤ 250 ∧ 0 + 6 ≤ 1500 by omega) ?_
  refine j_istore C dL_isSound_23 (by decide) [(8, .int (r1)), (7, .int ((0 : Int32))), (6, .int ((0 : Int32))), (5, .int ((0 : Int32))), (4, .int ((0 : Int32))), (3, .int ((0 : Int32))), (2, .int ((0 : Int32))), (0, .ref (G.2.2 (o0))), (1, .int (a1))] rfl ?_
  refine j_aload_n C dL_isSound_25 7 rfl ?_
  refine j_bipush C dL_isSound_26 ((102 : Int32)) (by decide) ?_
  refine j_iload C dL_isSound_28 0 rfl ?_
  obtain ⟨⟨r4, σ5⟩, h6, h⟩ := ob h
  try dsimp only at h
  refine j_callSX C X (c_L_sets n G σ2 o0 ((102 : Int32)) r1 ho0 _ _ h6) dL_isSound_30 (gSX u_491 u_493 u_480 u_492) rfl hy_L_sets rfl rfl (by decide) (Nat.le_of_ble_eq_true rfl) (show 0 + 1 + 1 ≤ 250 ∧ 0 + 6 + 6 ≤ 1500 by omega) ?_
  refine j_istore C dL_isSound_33 (by decide) [(9, .int (r4)), (8, .int (r1)), (7, .int ((0 : Int32))), (6, .int ((0 : Int32))), (5, .int ((0 : Int32))), (4, .int ((0 : Int32))), (3, .int ((0 : Int32))), (2, .int ((0 : Int32))), (0, .ref (G.2.2 (o0))), (1, .int (a1))] rfl ?_
  refine j_iconst C dL_isSound_35 ((0 : Int32)) (by decide) ?_
  refine j_istore C dL_isSound_36 (by decide) [(10, .int ((0 : Int32))), (9, .int (r4)), (8, .int (r1)), (7, .int ((0 : Int32))), (6, .int ((0 : Int32))), (5, .int ((0 : Int32))), (4, .int ((0 : Int32))), (3, .int ((0 : Int32))), (2, .int ((0 : Int32))), (0, .ref (G.2.2 (o0))), (1, .int (a1))] rfl ?_
  refine j_sub [9, 10, 8, 7, 6, 5, 4, 3, 2, 1, 0] [(0, .ref (G.2.2 (o0))), (1, .int (a1)), (2, .int ((0 : Int32))), (3, .int ((0 : Int32))), (4, .int ((0 : Int32))), (5, .int ((0 : Int32))), (6, .int ((0 : Int32))), (7, .int ((0 : Int32))), (8, .int (r1)), (9, .int (r4)), (10, .int ((0 : Int32)))] rfl ?_
  exact LP38 10 σ5 a1 ((0 : Int32)) ((0 : Int32)) ((0 : Int32)) ((0 : Int32)) ((0 : Int32)) ((0 : Int32)) r1 r4 ((0 : Int32)) (0 + 1 + 1) (0 + 6 + 6) (by omega) (by omega) h
