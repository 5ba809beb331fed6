def sp_X6_thrown (n : Nat) (σ : Mem) (o0 : Nat) : Option (Int32 × Mem) := some ((σ.1 o0 14), σ)
abbrev rm_X6_thrown : Room := ({ frames := 10, cells := 0, slots := 0, locals := 200 } : Room)
abbrev wu_X6_thrown : List Cond := (Cond.code yX6_thrown cX6_thrown 1 (some .int)) :: wsU
theorem hy_X6_thrown : hyOk yX6_thrown 0 := by decide +kernel
set_option maxRecDepth 20000 in
set_option maxHeartbeats 4000000 in
theorem c_X6_thrown (n : Nat) (G : Gt) (σ : Mem) (o0 : Nat) (ho0 : Ok o0 6) (r : Int32) (σ' : Mem) (h : sp_X6_thrown n σ o0 = some (r, σ')) : MM yX6_thrown wu_X6_thrown rm_X6_thrown [.ref (G.2.2 (o0))] G σ (.inl (some (.int r))) σ' := by
  refine mm_of (cc := cX6_thrown) (maxL := 1) (ret := (some .int)) (by decide +kernel) rfl (Nat.le_of_ble_eq_true rfl) (fun x C X hg => ?_)
  have C : Cx x cX6_thrown 1 RX6 (some .int) [] wu_X6_thrown rm_X6_thrown G.1 (tysF G) := C
  unfold sp_X6_thrown at h
  show J x [(0, .ref (G.2.2 (o0)))] [] σ 0 0 0
  refine j_aload_n C dX6_thrown_0 0 rfl ?_
  refine j_get C X dX6_thrown_1 ho0 rfl rfl 14 (by decide) (fin := false) rfl rfl in_X6 (mU u_312) ?_
  exact j_ireturn C dX6_thrown_4 (e_i h hg) (by decide) (by decide)
def sp_X6_raises (n : Nat) (σ : Mem) (o0 : Nat) (a1 : Int32) : Option (Int32 × Mem) := (lm (wi σ o0 14 a1) fun σ1 => some ((0 : Int32), σ1))
abbrev rm_X6_raises : Room := ({ frames := 10, cells := 0, slots := 0, locals := 200 } : Room)
abbrev wu_X6_raises : List Cond := (Cond.code yX6_raises cX6_raises 2 (some .int)) :: wsU
theorem hy_X6_raises : hyOk yX6_raises 1 := by decide +kernel
set_option maxRecDepth 20000 in
set_option maxHeartbeats 4000000 in
theorem c_X6_raises (n : Nat) (G : Gt) (σ : Mem) (o0 : Nat) (a1 : Int32) (ho0 : Ok o0 6) (r : Int32) (σ' : Mem) (h : sp_X6_raises n σ o0 a1 = some (r, σ')) : MM yX6_raises wu_X6_raises rm_X6_raises [.ref (G.2.2 (o0)), .int (a1)] G σ (.inl (some (.int r))) σ' := by
  refine mm_of (cc := cX6_raises) (maxL := 2) (ret := (some .int)) (by decide +kernel) rfl (Nat.le_of_ble_eq_true rfl) (fun x C X hg => ?_)
  have C : Cx x cX6_raises 2 RX6 (some .int) [] wu_X6_raises rm_X6_raises G.1 (tysF G) := C
  unfold sp_X6_raises at h
  show J x [(0, .ref (G.2.2 (o0))), (1, .int (a1))] [] σ 0 0 0
  refine j_aload_n C dX6_raises_0 0 rfl ?_
  refine j_iload_n C dX6_raises_1 1 rfl ?_
  obtain ⟨σ1, e2, h⟩ := lm_e h
  refine j_put C X dX6_raises_2 ho0 (ty0 := tyX6) rfl rfl 14 (by decide) rfl rfl (Nat.le_of_ble_eq_true rfl) tyX6_ok nmX6 (ty := .int) rfl rfl rfl in_X6 (mU u_312) e2 ?_
  refine j_iconst C dX6_raises_5 ((0 : Int32)) (by decide) ?_
  exact j_ireturn C dX6_raises_6 (e_i h hg) (by decide) (by decide)
def sp_X6_in (n : Nat) (σ : Mem) (a0 : Int32) (a1 : Int32) (a2 : Int32) : Option (Int32 × Mem) := if a0 < a1 then some ((0 : Int32), σ) else if a2 < a0 then some ((0 : Int32), σ) else some ((1 : Int32), σ)
abbrev rm_X6_in : Room := ({ frames := 10, cells := 0, slots := 0, locals := 200 } : Room)
abbrev wu_X6_in : List Cond := (Cond.code yX6_in cX6_in 3 (some .boolean)) :: wsU
theorem hy_X6_in : hyOk yX6_in 3 := by decide +kernel
set_option maxRecDepth 20000 in
set_option maxHeartbeats 4000000 in
theorem c_X6_in (n : Nat) (G : Gt) (σ : Mem) (a0 : Int32) (a1 : Int32) (a2 : Int32)  (r : Int32) (σ' : Mem) (h : sp_X6_in n σ a0 a1 a2 = some (r, σ')) : MM yX6_in wu_X6_in rm_X6_in [.int (a0), .int (a1), .int (a2)] G σ (.inl (some (.int r))) σ' := by
  refine mm_of (cc := cX6_in) (maxL := 3) (ret := (some .boolean)) (by decide +kernel) rfl (Nat.le_of_ble_eq_true rfl) (fun x C X hg => ?_)
  have C : Cx x cX6_in 3 RX6 (some .boolean) [] wu_X6_in rm_X6_in G.1 (tysF G) := C
  unfold sp_X6_in at h
  show J x [(0, .int (a0)), (1, .int (a1)), (2, .int (a2))] [] σ 0 0 0
  refine j_iload_n C dX6_in_0 0 rfl ?_
  refine j_iload_n C dX6_in_1 1 rfl ?_
  refine j_icmp_lt C dX6_in_2 14 (by decide) (fun c1 => ?_) (fun c1 => ?_)
  · have h := (if_pos c1).symm.trans h
    refine j_iconst C dX6_in_14 ((0 : Int32)) (by decide) ?_
    exact j_zreturn C (by decide) dX6_in_15 (e_i h hg) (by decide) (by decide)
  · have h := (if_neg c1).symm.trans h
    refine j_iload_n C dX6_in_5 0 rfl ?_
    refine j_iload_n C dX6_in_6 2 rfl ?_
    refine j_icmp_gt C dX6_in_7 14 (by decide) (fun c2 => ?_) (fun c2 => ?_)
    · have h := (if_pos c2).symm.trans h
      refine j_iconst C dX6_in_14 ((0 : Int32)) (by decide) ?_
      exact j_zreturn C (by decide) dX6_in_15 (e_i h hg) (by decide) (by decide)
    · have h := (if_neg c2).symm.trans h
      refine j_iconst C dX6_in_10 ((1 : Int32)) (by decide) ?_
      refine j_goto C dX6_in_11 15 (by decide) ?_
      exact j_zreturn C (by decide) dX6_in_15 (e_i h hg) (by decide) (by decide)
def sp_X6_isLevel (n : Nat) (σ : Mem) (o0 : Nat) (a1 : Int32) : Option (Int32 × Mem) := ((sp_X6_in n σ a1 ((1 : Int32)) ((σ.1 o0 0))).bind fun q => match q with | (r1, σ2) => if r1 = 0 ∨ r1 = 1 then some (r1, σ2) else none)
abbrev rm_X6_isLevel : Room := ({ frames := 11, cells := 0, slots := 0, locals := 222 } : Room)
abbrev wu_X6_isLevel : List Cond := (Cond.code yX6_isLevel cX6_isLevel 2 (some .boolean)) :: wsU
theorem hy_X6_isLevel : hyOk yX6_isLevel 1 := by decide +kernel
set_option maxRecDepth 20000 in
set_option maxHeartbeats 4000000 in
theorem c_X6_isLevel (n : Nat) (G : Gt) (σ : Mem) (o0 : Nat) (a1 : Int32) (ho0 : Ok o0 6) (r : Int32) (σ' : Mem) (h : sp_X6_isLevel n σ o0 a1 = some (r, σ')) : MM yX6_isLevel wu_X6_isLevel rm_X6_isLevel [.ref (G.2.2 (o0)), .int (a1)] G σ (.inl (some (.int r))) σ' := by
  refine mm_of (cc := cX6_isLevel) (maxL := 2) (ret := (some .boolean)) (by decide +kernel) rfl (Nat.le_of_ble_eq_true rfl) (fun x C X hg => ?_)
  have C : Cx x cX6_isLevel 2 RX6 (some .boolean) [] wu_X6_isLevel rm_X6_isLevel G.1 (tysF G) := C
  unfold sp_X6_isLevel at h
  show J x [(0, .ref (G.2.2 (o0))), (1, .int (a1))] [] σ 0 0 0
  refine j_iload_n C dX6_isLevel_0 1 rfl ?_
  refine j_iconst C dX6_isLevel_1 ((1 : Int32)) (by decide) ?_
  refine j_aload_n C dX6_isLevel_2 0 rfl ?_
  refine j_get C X dX6_isLevel_3 ho0 rfl rfl 0 (by decide) (fin := false) rfl rfl in_X6 (mU u_313) ?_
  obtain ⟨⟨r1, σ2⟩, h3, h⟩ := ob h
  try dsimp only at h
  refine j_callS C X (c_X6_in n G σ a1 ((1 : Int32)) ((σ.1 o0 0))  _ _ h3) dX6_isLevel_6 (gS u_314 u_317 u_315 u_316) rfl hy_X6_in rfl rfl (by decide) (Nat.le_of_ble_eq_true rfl) (by decide) ?_
  obtain ⟨g4, h⟩ := sg h
  exact j_zreturn C (nar_z g4).1 dX6_isLevel_9 (e_i h hg) (by decide) (by decide)
def sp_X6_lacks (n : Nat) (σ : Mem) (o0 : Nat) (a1 : Int32) : Option (Int32 × Mem) := ((sp_X6_isLevel n σ o0 a1).bind fun q => match q with | (r1, σ2) => if r1 = 0 then (lm (wi σ2 o0 14 (1 : Int32)) fun σ5 => if (σ5.1 o0 14) ≤ 0 then some ((0 : Int32), σ5) else some ((1 : Int32), σ5)) else (lm (wi σ2 o0 14 (0 : Int32)) fun σ8 => if (σ8.1 o0 14) ≤ 0 then some ((0 : Int32), σ8) else some ((1 : Int32), σ8)))
abbrev rm_X6_lacks : Room := ({ frames := 12, cells := 0, slots := 0, locals := 243 } : Room)
abbrev wu_X6_lacks : List Cond := (Cond.code yX6_lacks cX6_lacks 2 (some .boolean)) :: wsU
theorem hy_X6_lacks : hyOk yX6_lacks 1 := by decide +kernel
set_option maxRecDepth 20000 in
set_option maxHeartbeats 4000000 in
theorem c_X6_lacks (n : Nat) (G : Gt) (σ : Mem) (o0 : Nat) (a1 : Int32) (ho0 : Ok o0 6) (r : Int32) (σ' : Mem) (h : sp_X6_lacks n σ o0 a1 = some (r, σ')) : MM yX6_lacks wu_X6_lacks rm_X6_lacks [.ref (G.2.2 (o0)), .int (a1)] G σ (.inl (some (.int r))) σ' := by
  refine mm_of (cc := cX6_lacks) (maxL := 2) (ret := (some .boolean)) (by decide +kernel) rfl (Nat.le_of_ble_eq_true rfl) (fun x C X hg => ?_)
  have C : Cx x cX6_lacks 2 RX6 (some .boolean) [] wu_X6_lacks rm_X6_lacks G.1 (tysF G) := C
  unfold sp_X6_lacks at h
  show J x [(0, .ref (G.2.2 (o0))), (1, .int (a1))] [] σ 0 0 0
  refine j_aload_n C dX6_lacks_0 0 rfl ?_
  refine j_aload_n C dX6_lacks_1 0 rfl ?_
  refine j_iload_n C dX6_lacks_2 1 rfl ?_
  obtain ⟨⟨r1, σ2⟩, h3, h⟩ := ob h
  try dsimp only at h
  refine j_callV C X (c_X6_isLevel n G σ o0 a1 ho0 _ _ h3) dX6_lacks_3 (gV u_318 u_320 u_321 u_315 u_319) rfl hy_X6_isLevel rfl ho0 rfl (ci := 10) rfl rfl rfl (by decide) (Nat.le_of_ble_eq_true rfl) (by decide) ?_
  refine j_if_eq C dX6_lacks_6 13 (by decide) (fun c4 => ?_) (fun c4 => ?_)
  · have h := (if_pos c4).symm.trans h
    refine j_iconst C dX6_lacks_13 ((1 : Int32)) (by decide) ?_
    obtain ⟨σ5, e6, h⟩ := lm_e h
    refine j_put C X dX6_lacks_14 ho0 (ty0 := tyX6) rfl rfl 14 (by decide) rfl rfl (Nat.le_of_ble_eq_true rfl) tyX6_ok nmX6 (ty := .int) rfl rfl rfl in_X6 (mU u_312) e6 ?_
    refine j_aload_n C dX6_lacks_17 0 rfl ?_
    refine j_get C X dX6_lacks_18 ho0 rfl rfl 14 (by decide) (fin := false) rfl rfl in_X6 (mU u_312) ?_
    refine j_if_le C dX6_lacks_21 28 (by decide) (fun c7 => ?_) (fun c7 => ?_)
    · have h := (if_pos c7).symm.trans h
      refine j_iconst C dX6_lacks_28 ((0 : Int32)) (by decide) ?_
      exact j_zreturn C (by decide) dX6_lacks_29 (e_i h hg) (by decide) (by decide)
    · have h := (if_neg c7).symm.trans h
      refine j_iconst C dX6_lacks_24 ((1 : Int32)) (by decide) ?_
      refine j_goto C dX6_lacks_25 29 (by decide) ?_
      exact j_zreturn C (by decide) dX6_lacks_29 (e_i h hg) (by decide) (by decide)
  · have h := (if_neg c4).symm.trans h
    refine j_iconst C dX6_lacks_9 ((0 : Int32)) (by decide) ?_
    refine j_goto C dX6_lacks_10 14 (by decide) ?_
    obtain ⟨σ8, e9, h⟩ := lm_e h
    refine j_put C X dX6_lacks_14 ho0 (ty0 := tyX6) rfl rfl 14 (by decide) rfl rfl (Nat.le_of_ble_eq_true rfl) tyX6_ok nmX6 (ty := .int) rfl rfl rfl in_X6 (mU u_312) e9 ?_
    refine j_aload_n C dX6_lacks_17 0 rfl ?_
    refine j_get C X dX6_lacks_18 ho0 rfl rfl 14 (by decide) (fin := false) rfl rfl in_X6 (mU u_312) ?_
    refine j_if_le C dX6_lacks_21 28 (by decide) (fun c10 => ?_) (fun c10 => ?_)
    · have h := (if_pos c10).symm.trans h
      refine j_iconst C dX6_lacks_28 ((0 : Int32)) (by decide) ?_
      exact j_zreturn C (by decide) dX6_lacks_29 (e_i h hg) (by decide) (by decide)
    · have h := (if_neg c10).symm.trans h
      refine j_iconst C dX6_lacks_24 ((1 : Int32)) (by decide) ?_
      refine j_goto C dX6_lacks_25 29 (by decide) ?_
      exact j_zreturn C (by decide) dX6_lacks_29 (e_i h hg) (by decide) (by decide)
def sp_X6_lacksPlace (n : Nat) (σ : Mem) (o0 : Nat) (a1 : Int32) : Option (Int32 × Mem) := ((sp_X6_in n σ a1 ((0 : Int32)) ((σ.1 o0 0))).bind fun q => match q with | (r1, σ2) => if r1 = 0 then (lm (wi σ2 o0 14 (1 : Int32)) fun σ5 => if (σ5.1 o0 14) ≤ 0 then some ((0 : Int32), σ5) else some ((1 : Int32), σ5)) else (lm (wi σ2 o0 14 (0 : Int32)) fun σ8 => if (σ8.1 o0 14) ≤ 0 then some ((0 : Int32), σ8) else some ((1 : Int32), σ8)))
abbrev rm_X6_lacksPlace : Room := ({ frames := 11, cells := 0, slots := 0, locals := 222 } : Room)
abbrev wu_X6_lacksPlace : List Cond := (Cond.code yX6_lacksPlace cX6_lacksPlace 2 (some .boolean)) :: wsU
theorem hy_X6_lacksPlace : hyOk yX6_lacksPlace 1 := by decide +kernel
set_option maxRecDepth 20000 in
set_option maxHeartbeats 4000000 in
theorem c_X6_lacksPlace (n : Nat) (G : Gt) (σ : Mem) (o0 : Nat) (a1 : Int32) (ho0 : Ok o0 6) (r : Int32) (σ' : Mem) (h : sp_X6_lacksPlace n σ o0 a1 = some (r, σ')) : MM yX6_lacksPlace wu_X6_lacksPlace rm_X6_lacksPlace [.ref (G.2.2 (o0)), .int (a1)] G σ (.inl (some (.int r))) σ' := by
  refine mm_of (cc := cX6_lacksPlace) (maxL := 2) (ret := (some .boolean)) (by decide +kernel) rfl (Nat.le_of_ble_eq_true rfl) (fun x C X hg => ?_)
  have C : Cx x cX6_lacksPlace 2 RX6 (some .boolean) [] wu_X6_lacksPlace rm_X6_lacksPlace G.1 (tysF G) := C
  unfold sp_X6_lacksPlace at h
  show J x [(0, .ref (G.2.2 (o0))), (1, .int (a1))] [] σ 0 0 0
  refine j_aload_n C dX6_lacksPlace_0 0 rfl ?_
  refine j_iload_n C dX6_lacksPlace_1 1 rfl ?_
  refine j_iconst C dX6_lacksPlace_2 ((0 : Int32)) (by decide) ?_
  refine j_aload_n C dX6_lacksPlace_3 0 rfl ?_
  refine j_get C X dX6_lacksPlace_4 ho0 rfl rfl 0 (by decide) (fin := false) rfl rfl in_X6 (mU u_313) ?_
  obtain ⟨⟨r1, σ2⟩, h3, h⟩ := ob h
  try dsimp only at h
  refine j_callS C X (c_X6_in n G σ a1 ((0 : Int32)) ((σ.1 o0 0))  _ _ h3) dX6_lacksPlace_7 (gS u_314 u_317 u_315 u_316) rfl hy_X6_in rfl rfl (by decide) (Nat.le_of_ble_eq_true rfl) (by decide) ?_
  refine j_if_eq C dX6_lacksPlace_10 17 (by decide) (fun c4 => ?_) (fun c4 => ?_)
  · have h := (if_pos c4).symm.trans h
    refine j_iconst C dX6_lacksPlace_17 ((1 : Int32)) (by decide) ?_
    obtain ⟨σ5, e6, h⟩ := lm_e h
    refine j_put C X dX6_lacksPlace_18 ho0 (ty0 := tyX6) rfl rfl 14 (by decide) rfl rfl (Nat.le_of_ble_eq_true rfl) tyX6_ok nmX6 (ty := .int) rfl rfl rfl in_X6 (mU u_312) e6 ?_
    refine j_aload_n C dX6_lacksPlace_21 0 rfl ?_
    refine j_get C X dX6_lacksPlace_22 ho0 rfl rfl 14 (by decide) (fin := false) rfl rfl in_X6 (mU u_312) ?_
    refine j_if_le C dX6_lacksPlace_25 32 (by decide) (fun c7 => ?_) (fun c7 => ?_)
    · have h := (if_pos c7).symm.trans h
      refine j_iconst C dX6_lacksPlace_32 ((0 : Int32)) (by decide) ?_
      exact j_zreturn C (by decide) dX6_lacksPlace_33 (e_i h hg) (by decide) (by decide)
    · have h := (if_neg c7).symm.trans h
      refine j_iconst C dX6_lacksPlace_28 ((1 : Int32)) (by decide) ?_
      refine j_goto C dX6_lacksPlace_29 33 (by decide) ?_
      exact j_zreturn C (by decide) dX6_lacksPlace_33 (e_i h hg) (by decide) (by decide)
  · have h := (if_neg c4).symm.trans h
    refine j_iconst C dX6_lacksPlace_13 ((0 : Int32)) (by decide) ?_
    refine j_goto C dX6_lacksPlace_14 18 (by decide) ?_
    obtain ⟨σ8, e9, h⟩ := lm_e h
    refine j_put C X dX6_lacksPlace_18 ho0 (ty0 := tyX6) rfl rfl 14 (by decide) rfl rfl (Nat.le_of_ble_eq_true rfl) tyX6_ok nmX6 (ty := .int) rfl rfl rfl in_X6 (mU u_312) e9 ?_
    refine j_aload_n C dX6_lacksPlace_21 0 rfl ?_
    refine j_get C X dX6_lacksPlace_22 ho0 rfl rfl 14 (by decide) (fin := false) rfl rfl in_X6 (mU u_312) ?_
    refine j_if_le C dX6_lacksPlace_25 32 (by decide) (fun c10 => ?_) (fun c10 => ?_)
    · have h := (if_pos c10).symm.trans h
      refine j_iconst C dX6_lacksPlace_32 ((0 : Int32)) (by decide) ?_
      exact j_zreturn C (by decide) dX6_lacksPlace_33 (e_i h hg) (by decide) (by decide)
    · have h := (if_neg c10).symm.trans h
      refine j_iconst C dX6_lacksPlace_28 ((1 : Int32)) (by decide) ?_
      refine j_goto C dX6_lacksPlace_29 33 (by decide) ?_
      exact j_zreturn C (by decide) dX6_lacksPlace_33 (e_i h hg) (by decide) (by decide)
def lp_X6_addLevel_98 (n : Nat) (o0 : Nat) (a1 : Int32) (a2 : Int32) (a3 : Int32) (a4 : Int32) (σ : Mem) (l1 : Int32) (l2 : Int32) (l3 : Int32) (l4 : Int32) (l5 : Int32) (s0 : Int32) : Option (Int32 × Mem) := (lm (wi σ o0 14 s0) fun σ7 => if (σ7.1 o0 14) ≤ 0 then (lm (wi σ7 o0 0 ((σ7.1 o0 0) + (1 : Int32))) fun σ10 => if inR (σ10.1 o0 0) 7 then (lm (wi σ10 (rf o0 1) ((σ10.1 o0 0)).toNatClampNeg l1) fun σ13 => if inR (σ13.1 o0 0) 7 then (lm (wi σ13 (rf o0 2) ((σ13.1 o0 0)).toNatClampNeg l2) fun σ16 => if inR (σ16.1 o0 0) 7 then (lm (wi σ16 (rf o0 3) ((σ16.1 o0 0)).toNatClampNeg l3) fun σ19 => if inR (σ19.1 o0 0) 7 then (lm (wi σ19 (rf o0 4) ((σ19.1 o0 0)).toNatClampNeg l4) fun σ22 => if inR (σ22.1 o0 0) 7 then (lm (wi σ22 (rf o0 5) ((σ22.1 o0 0)).toNatClampNeg (vp_nar .boolean (1 : Int32))) fun σ25 => some ((σ25.1 o0 0), σ25)) else none) else none) else none) else none) else none) else some ((0 : Int32), σ7))
def lp_X6_addLevel_62 (n : Nat) (o0 : Nat) (a1 : Int32) (a2 : Int32) (a3 : Int32) (a4 : Int32) (σ : Mem) (l1 : Int32) (l2 : Int32) (l3 : Int32) (l4 : Int32) (s0 : Int32) : Option (Int32 × Mem) := if s0 = 0 then lp_X6_addLevel_98 n o0 a1 a2 a3 a4 σ l1 l2 l3 l4 s0 ((1 : Int32)) else if (σ.1 o0 0) = (6 : Int32) then lp_X6_addLevel_98 n o0 a1 a2 a3 a4 σ l1 l2 l3 l4 s0 ((2 : Int32)) else if inR (61 : Int32) 73 then if (σ.1 (rf o0 11) ((61 : Int32)).toNatClampNeg) ≤ 0 then lp_X6_addLevel_98 n o0 a1 a2 a3 a4 σ l1 l2 l3 l4 s0 ((0 : Int32)) else lp_X6_addLevel_98 n o0 a1 a2 a3 a4 σ l1 l2 l3 l4 s0 ((2 : Int32)) else none
def sp_X6_addLevel (n : Nat) (σ : Mem) (o0 : Nat) (a1 : Int32) (a2 : Int32) (a3 : Int32) (a4 : Int32) : Option (Int32 × Mem) := ((sp_X6_in n σ a1 ((10 : Int32)) ((2000 : Int32))).bind fun q => match q with | (r1, σ2) => if r1 = 0 then lp_X6_addLevel_62 n o0 a1 a2 a3 a4 σ2 a1 a2 a3 a4 ((0 : Int32)) else ((sp_X6_in n σ2 a2 ((1 : Int32)) ((500 : Int32))).bind fun q => match q with | (r29, σ30) => if r29 = 0 then lp_X6_addLevel_62 n o0 a1 a2 a3 a4 σ30 a1 a2 a3 a4 ((0 : Int32)) else ((sp_X6_in n σ30 a3 ((1 : Int32)) ((20 : Int32))).bind fun q => match q with | (r33, σ34) => if r33 = 0 then lp_X6_addLevel_62 n o0 a1 a2 a3 a4 σ34 a1 a2 a3 a4 ((0 : Int32)) else ((sp_X6_in n σ34 a4 ((0 : Int32)) ((50 : Int32))).bind fun q => match q with | (r37, σ38) => if r37 = 0 then lp_X6_addLevel_62 n o0 a1 a2 a3 a4 σ38 a1 a2 a3 a4 ((0 : Int32)) else if inR (σ38.1 o0 0) 7 then if a1 ≤ (σ38.1 (rf o0 1) ((σ38.1 o0 0)).toNatClampNeg) then lp_X6_addLevel_62 n o0 a1 a2 a3 a4 σ38 a1 a2 a3 a4 ((0 : Int32)) else lp_X6_addLevel_62 n o0 a1 a2 a3 a4 σ38 a1 a2 a3 a4 ((1 : Int32)) else none))))
abbrev rm_X6_addLevel : Room := ({ frames := 11, cells := 0, slots := 0, locals := 222 } : Room)
abbrev wu_X6_addLevel : List Cond := (Cond.code yX6_addLevel cX6_addLevel 6 (some .int)) :: wsU
theorem hy_X6_addLevel : hyOk yX6_addLevel 4 := by decide +kernel
set_option maxRecDepth 20000 in
set_option maxHeartbeats 4000000 in
theorem c_X6_addLevel (n : Nat) (G : Gt) (σ : Mem) (o0 : Nat) (a1 : Int32) (a2 : Int32) (a3 : Int32) (a4 : Int32) (ho0 : Ok o0 6) (r : Int32) (σ' : Mem) (h : sp_X6_addLevel n σ o0 a1 a2 a3 a4 = some (r, σ')) : MM yX6_addLevel wu_X6_addLevel rm_X6_addLevel [.ref (G.2.2 (o0)), .int (a1), .int (a2), .int (a3), .int (a4)] G σ (.inl (some (.int r))) σ' := by
  refine mm_of (cc := cX6_addLevel) (maxL := 6) (ret := (some .int)) (by decide +kernel) rfl (Nat.le_of_ble_eq_true rfl) (fun x C X hg => ?_)
  have C : Cx x cX6_addLevel 6 RX6 (some .int) [] wu_X6_addLevel rm_X6_addLevel G.1 (tysF G) := C
  have JP98 : ∀ (σ : Mem) (l1 : Int32) (l2 : Int32) (l3 : Int32) (l4 : Int32) (l5 : Int32) (s0 : Int32), lp_X6_addLevel_98 n o0 a1 a2 a3 a4 σ l1 l2 l3 l4 l5 s0 = some (r, σ') → J x [(0, .ref (G.2.2 (o0))), (1, .int (l1)), (2, .int (l2)), (3, .int (l3)), (4, .int (l4)), (5, .int (l5))] [.int (s0), .ref (G.2.2 (o0))] σ 98 0 0 := by
    intro σ l1 l2 l3 l4 l5 s0  h
    unfold lp_X6_addLevel_98 at h
    obtain ⟨σ7, e8, h⟩ := lm_e h
    refine j_put C X dX6_addLevel_98 ho0 (ty0 := tyX6) rfl rfl 14 (by decide) rfl rfl (Nat.le_of_ble_eq_true rfl) tyX6_ok nmX6 (ty := .int) rfl rfl rfl in_X6 (mU u_312) e8 ?_
    refine j_aload_n C dX6_addLevel_101 0 rfl ?_
    refine j_get C X dX6_addLevel_102 ho0 rfl rfl 14 (by decide) (fin := false) rfl rfl in_X6 (mU u_312) ?_
    refine j_if_le C dX6_addLevel_105 110 (by decide) (fun c9 => ?_) (fun c9 => ?_)
    · have h := (if_pos c9).symm.trans h
      refine j_aload_n C dX6_addLevel_110 0 rfl ?_
      refine j_dup C dX6_addLevel_111 rfl ?_
      refine j_get C X dX6_addLevel_112 ho0 rfl rfl 0 (by decide) (fin := false) rfl rfl in_X6 (mU u_313) ?_
      refine j_iconst C dX6_addLevel_115 ((1 : Int32)) (by decide) ?_
      refine j_iadd C dX6_addLevel_116 ?_
      obtain ⟨σ10, e11, h⟩ := lm_e h
      refine j_put C X dX6_addLevel_117 ho0 (ty0 := tyX6) rfl rfl 0 (by decide) rfl rfl (Nat.le_of_ble_eq_true rfl) tyX6_ok nmX6 (ty := .int) rfl rfl rfl in_X6 (mU u_313) e11 ?_
      refine j_aload_n C dX6_addLevel_120 0 rfl ?_
      refine j_get C X dX6_addLevel_121 ho0 rfl rfl 1 (by decide) (fin := true) rfl rfl in_X6 (mU u_322) ?_
      refine j_aload_n C dX6_addLevel_124 0 rfl ?_
      refine j_get C X dX6_addLevel_125 ho0 rfl rfl 0 (by decide) (fin := false) rfl rfl in_X6 (mU u_313) ?_
      refine j_iload_n C dX6_addLevel_128 1 rfl ?_
      obtain ⟨g12, h⟩ := sg h
      obtain ⟨σ13, e14, h⟩ := lm_e h
      refine j_iast C X dX6_addLevel_129 (sh_6_1 ho0) (n := 7) (fun _ => rfl) g12 e14 ?_
      refine j_aload_n C dX6_addLevel_130 0 rfl ?_
      refine j_get C X dX6_addLevel_131 ho0 rfl rfl 2 (by decide) (fin := true) rfl rfl in_X6 (mU u_323) ?_
      refine j_aload_n C dX6_addLevel_134 0 rfl ?_
      refine j_get C X dX6_addLevel_135 ho0 rfl rfl 0 (by decide) (fin := false) rfl rfl in_X6 (mU u_313) ?_
      refine j_iload_n C dX6_addLevel_138 2 rfl ?_
      obtain ⟨g15, h⟩ := sg h
      obtain ⟨σ16, e17, h⟩ := lm_e h
      refine j_iast C X dX6_addLevel_139 (sh_6_2 ho0) (n := 7) (fun _ => rfl) g15 e17 ?_
      refine j_aload_n C dX6_addLevel_140 0 rfl ?_
      refine j_get C X dX6_addLevel_141 ho0 rfl rfl 3 (by decide) (fin := true) rfl rfl in_X6 (mU u_324) ?_
      refine j_aload_n C dX6_addLevel_144 0 rfl ?_
      refine j_get C X dX6_addLevel_145 ho0 rfl rfl 0 (by decide) (fin := false) rfl rfl in_X6 (mU u_313) ?_
      refine j_iload_n C dX6_addLevel_148 3 rfl ?_
      obtain ⟨g18, h⟩ := sg h
      obtain ⟨σ19, e20, h⟩ := lm_e h
      refine j_iast C X dX6_addLevel_149 (sh_6_3 ho0) (n := 7) (fun _ => rfl) g18 e20 ?_
      refine j_aload_n C dX6_addLevel_150 0 rfl ?_
      refine j_get C X dX6_addLevel_151 ho0 rfl rfl 4 (by decide) (fin := true) rfl rfl in_X6 (mU u_325) ?_
      refine j_aload_n C dX6_addLevel_154 0 rfl ?_
      refine j_get C X dX6_addLevel_155 ho0 rfl rfl 0 (by decide) (fin := false) rfl rfl in_X6 (mU u_313) ?_
      refine j_iload C dX6_addLevel_158 4 rfl ?_
      obtain ⟨g21, h⟩ := sg h
      obtain ⟨σ22, e23, h⟩ := lm_e h
      refine j_iast C X dX6_addLevel_160 (sh_6_4 ho0) (n := 7) (fun _ => rfl) g21 e23 ?_
      refine j_aload_n C dX6_addLevel_161 0 rfl ?_
      refine j_get C X dX6_addLevel_162 ho0 rfl rfl 5 (by decide) (fin := true) rfl rfl in_X6 (mU u_326) ?_
      refine j_aload_n C dX6_addLevel_165 0 rfl ?_
      refine j_get C X dX6_addLevel_166 ho0 rfl rfl 0 (by decide) (fin := false) rfl rfl in_X6 (mU u_313) ?_
      refine j_iconst C dX6_addLevel_169 ((1 : Int32)) (by decide) ?_
      obtain ⟨g24, h⟩ := sg h
      obtain ⟨σ25, e26, h⟩ := lm_e h
      refine j_zast C X dX6_addLevel_170 (sh_6_5 ho0) (n := 7) (fun _ => rfl) g24 e26 ?_
      refine j_aload_n C dX6_addLevel_171 0 rfl ?_
      refine j_get C X dX6_addLevel_172 ho0 rfl rfl 0 (by decide) (fin := false) rfl rfl in_X6 (mU u_313) ?_
      exact j_ireturn C dX6_addLevel_175 (e_i h hg) (by decide) (by decide)
    · have h := (if_neg c9).symm.trans h
      refine j_iconst C dX6_addLevel_108 ((0 : Int32)) (by decide) ?_
      exact j_ireturn C dX6_addLevel_109 (e_i h hg) (by decide) (by decide)
  have JP62 : ∀ (σ : Mem) (l1 : Int32) (l2 : Int32) (l3 : Int32) (l4 : Int32) (s0 : Int32), lp_X6_addLevel_62 n o0 a1 a2 a3 a4 σ l1 l2 l3 l4 s0 = some (r, σ') → J x [(0, .ref (G.2.2 (o0))), (1, .int (l1)), (2, .int (l2)), (3, .int (l3)), (4, .int (l4))] [.int (s0)] σ 62 0 0 := by
    intro σ l1 l2 l3 l4 s0  h
    unfold lp_X6_addLevel_62 at h
    refine j_istore C dX6_addLevel_62 (by decide) [(5, .int (s0)), (0, .ref (G.2.2 (o0))), (1, .int (l1)), (2, .int (l2)), (3, .int (l3)), (4, .int (l4))] rfl ?_
    refine j_aload_n C dX6_addLevel_64 1 rfl ?_
    refine j_iload C dX6_addLevel_65 0 rfl ?_
    refine j_if_ne C dX6_addLevel_67 74 (by decide) (fun c5 => ?_) (fun c5 => ?_)
    · have h := (if_neg c5).symm.trans h
      refine j_aload_n C dX6_addLevel_74 1 rfl ?_
      refine j_get C X dX6_addLevel_75 ho0 rfl rfl 0 (by decide) (fin := false) rfl rfl in_X6 (mU u_313) ?_
      refine j_bipush C dX6_addLevel_78 ((6 : Int32)) (by decide) ?_
      refine j_icmp_eq C dX6_addLevel_80 93 (by decide) (fun c6 => ?_) (fun c6 => ?_)
      · have h := (if_pos c6).symm.trans h
        refine j_iconst C dX6_addLevel_93 ((2 : Int32)) (by decide) ?_
        refine j_goto C dX6_addLevel_94 98 (by decide) ?_
        refine j_sub [1, 2, 3, 4, 5, 0] [(0, .ref (G.2.2 (o0))), (1, .int (l1)), (2, .int (l2)), (3, .int (l3)), (4, .int (l4)), (5, .int (s0))] rfl ?_
        exact JP98 σ l1 l2 l3 l4 s0 ((2 : Int32))  h
      · have h := (if_neg c6).symm.trans h
        refine j_aload_n C dX6_addLevel_83 1 rfl ?_
        refine j_get C X dX6_addLevel_84 ho0 rfl rfl 11 (by decide) (fin := false) rfl rfl in_X6 (mU u_327) ?_
        refine j_bipush C dX6_addLevel_87 ((61 : Int32)) (by decide) ?_
        obtain ⟨g27, h⟩ := sg h
        refine j_iald C X dX6_addLevel_89 (sh_6_11 ho0) (n := 73) rfl g27 ?_
        refine j_if_le C dX6_addLevel_90 97 (by decide) (fun c28 => ?_) (fun c28 => ?_)
        · have h := (if_pos c28).symm.trans h
          refine j_iconst C dX6_addLevel_97 ((0 : Int32)) (by decide) ?_
          refine j_sub [1, 2, 3, 4, 5, 0] [(0, .ref (G.2.2 (o0))), (1, .int (l1)), (2, .int (l2)), (3, .int (l3)), (4, .int (l4)), (5, .int (s0))] rfl ?_
          exact JP98 σ l1 l2 l3 l4 s0 ((0 : Int32))  h
        · have h := (if_neg c28).symm.trans h
          refine j_iconst C dX6_addLevel_93 ((2 : Int32)) (by decide) ?_
          refine j_goto C dX6_addLevel_94 98 (by decide) ?_
          refine j_sub [1, 2, 3, 4, 5, 0] [(0, .ref (G.2.2 (o0))), (1, .int (l1)), (2, .int (l2)), (3, .int (l3)), (4, .int (l4)), (5, .int (s0))] rfl ?_
          exact JP98 σ l1 l2 l3 l4 s0 ((2 : Int32))  h
    · have h := (if_pos c5).symm.trans h
      refine j_iconst C dX6_addLevel_70 ((1 : Int32)) (by decide) ?_
      refine j_goto C dX6_addLevel_71 98 (by decide) ?_
      refine j_sub [1, 2, 3, 4, 5, 0] [(0, .ref (G.2.2 (o0))), (1, .int (l1)), (2, .int (l2)), (3, .int (l3)), (4, .int (l4)), (5, .int (s0))] rfl ?_
      exact JP98 σ l1 l2 l3 l4 s0 ((1 : Int32))  h
  unfold sp_X6_addLevel at h
  show J x [(0, .ref (G.2.2 (o0))), (1, .int (a1)), (2, .int (a2)), (3, .int (a3)), (4, .int (a4))] [] σ 0 0 0
  refine j_iload_n C dX6_addLevel_0 1 rfl ?_
  refine j_bipush C dX6_addLevel_1 ((10 : Int32)) (by decide) ?_
  refine j_sipush C dX6_addLevel_3 ((2000 : Int32)) (by decide) ?_
  obtain ⟨⟨r1, σ2⟩, h3, h⟩ := ob h
  try dsimp only at h
  refine j_callS C X (c_X6_in n G σ a1 ((10 : Int32)) ((2000 : Int32))  _ _ h3) dX6_addLevel_6 (gS u_314 u_317 u_315 u_316) rfl hy_X6_in rfl rfl (by decide) (Nat.le_of_ble_eq_true rfl) (by decide) ?_
  refine j_if_eq C dX6_addLevel_9 61 (by decide) (fun c4 => ?_) (fun c4 => ?_)
  · have h := (if_pos c4).symm.trans h
    refine j_iconst C dX6_addLevel_61 ((0 : Int32)) (by decide) ?_
    refine j_sub [0, 1, 2, 3, 4] [(0, .ref (G.2.2 (o0))), (1, .int (a1)), (2, .int (a2)), (3, .int (a3)), (4, .int (a4))] rfl ?_
    exact JP62 σ2 a1 a2 a3 a4 ((0 : Int32))  h
  · have h := (if_neg c4).symm.trans h
    refine j_iload_n C dX6_addLevel_12 2 rfl ?_
    refine j_iconst C dX6_addLevel_13 ((1 : Int32)) (by decide) ?_
    refine j_sipush C dX6_addLevel_14 ((500 : Int32)) (by decide) ?_
    obtain ⟨⟨r29, σ30⟩, h31, h⟩ := ob h
    try dsimp only at h
    refine j_callS C X (c_X6_in n G σ2 a2 ((1 : Int32)) ((500 : Int32))  _ _ h31) dX6_addLevel_17 (gS u_314 u_317 u_315 u_316) rfl hy_X6_in rfl rfl (by decide) (Nat.le_of_ble_eq_true rfl) (by decide) ?_
    refine j_if_eq C dX6_addLevel_20 61 (by decide) (fun c32 => ?_) (fun c32 => ?_)
    · have h := (if_pos c32).symm.trans h
      refine j_iconst C dX6_addLevel_61 ((0 : Int32)) (by decide) ?_
      refine j_sub [0, 1, 2, 3, 4] [(0, .ref (G.2.2 (o0))), (1, .int (a1)), (2, .int (a2)), (3, .int (a3)), (4, .int (a4))] rfl ?_
      exact JP62 σ30 a1 a2 a3 a4 ((0 : Int32))  h
    · have h := (if_neg c32).symm.trans h
      refine j_iload_n C dX6_addLevel_23 3 rfl ?_
      refine j_iconst C dX6_addLevel_24 ((1 : Int32)) (by decide) ?_
      refine j_bipush C dX6_addLevel_25 ((20 : Int32)) (by decide) ?_
      obtain ⟨⟨r33, σ34⟩, h35, h⟩ := ob h
      try dsimp only at h
      refine j_callS C X (c_X6_in n G σ30 a3 ((1 : Int32)) ((20 : Int32))  _ _ h35) dX6_addLevel_27 (gS u_314 u_317 u_315 u_316) rfl hy_X6_in rfl rfl (by decide) (Nat.le_of_ble_eq_true rfl) (by decide) ?_
      refine j_if_eq C dX6_addLevel_30 61 (by decide) (fun c36 => ?_) (fun c36 => ?_)
      · have h := (if_pos c36).symm.trans h
        refine j_iconst C dX6_addLevel_61 ((0 : Int32)) (by decide) ?_
        refine j_sub [0, 1, 2, 3, 4] [(0, .ref (G.2.2 (o0))), (1, .int (a1)), (2, .int (a2)), (3, .int (a3)), (4, .int (a4))] rfl ?_
        exact JP62 σ34 a1 a2 a3 a4 ((0 : Int32))  h
      · have h := (if_neg c36).symm.trans h
        refine j_iload C dX6_addLevel_33 4 rfl ?_
        refine j_iconst C dX6_addLevel_35 ((0 : Int32)) (by decide) ?_
        refine j_bipush C dX6_addLevel_36 ((50 : Int32)) (by decide) ?_
        obtain ⟨⟨r37, σ38⟩, h39, h⟩ := ob h
        try dsimp only at h
        refine j_callS C X (c_X6_in n G σ34 a4 ((0 : Int32)) ((50 : Int32))  _ _ h39) dX6_addLevel_38 (gS u_314 u_317 u_315 u_316) rfl hy_X6_in rfl rfl (by decide) (Nat.le_of_ble_eq_true rfl) (by decide) ?_
        refine j_if_eq C dX6_addLevel_41 61 (by decide) (fun c40 => ?_) (fun c40 => ?_)
        · have h := (if_pos c40).symm.trans h
          refine j_iconst C dX6_addLevel_61 ((0 : Int32)) (by decide) ?_
          refine j_sub [0, 1, 2, 3, 4] [(0, .ref (G.2.2 (o0))), (1, .int (a1)), (2, .int (a2)), (3, .int (a3)), (4, .int (a4))] rfl ?_
          exact JP62 σ38 a1 a2 a3 a4 ((0 : Int32))  h
        · have h := (if_neg c40).symm.trans h
          refine j_iload_n C dX6_addLevel_44 1 rfl ?_
          refine j_aload_n C dX6_addLevel_45 0 rfl ?_
          refine j_get C X dX6_addLevel_46 ho0 rfl rfl 1 (by decide) (fin := true) rfl rfl in_X6 (mU u_322) ?_
          refine j_aload_n C dX6_addLevel_49 0 rfl ?_
          refine j_get C X dX6_addLevel_50 ho0 rfl rfl 0 (by decide) (fin := false) rfl rfl in_X6 (mU u_313) ?_
          obtain ⟨g41, h⟩ := sg h
          refine j_iald C X dX6_addLevel_53 (sh_6_1 ho0) (n := 7) rfl g41 ?_
          refine j_icmp_le C dX6_addLevel_54 61 (by decide) (fun c42 => ?_) (fun c42 => ?_)
          · have h := (if_pos c42).symm.trans h
            refine j_iconst C dX6_addLevel_61 ((0 : Int32)) (by decide) ?_
            refine j_sub [0, 1, 2, 3, 4] [(0, .ref (G.2.2 (o0))), (1, .int (a1)), (2, .int (a2)), (3, .int (a3)), (4, .int (a4))] rfl ?_
            exact JP62 σ38 a1 a2 a3 a4 ((0 : Int32))  h
          · have h := (if_neg c42).symm.trans h
            refine j_iconst C dX6_addLevel_57 ((1 : Int32)) (by decide) ?_
            refine j_goto C dX6_addLevel_58 62 (by decide) ?_
            refine j_sub [0, 1, 2, 3, 4] [(0, .ref (G.2.2 (o0))), (1, .int (a1)), (2, .int (a2)), (3, .int (a3)), (4, .int (a4))] rfl ?_
            exact JP62 σ38 a1 a2 a3 a4 ((1 : Int32))  h
def sp_X6_levelCount (n : Nat) (σ : Mem) (o0 : Nat) : Option (Int32 × Mem) := (lm (wi σ o0 14 (0 : Int32)) fun σ1 => some ((σ1.1 o0 0), σ1))
abbrev rm_X6_levelCount : Room := ({ frames := 10, cells := 0, slots := 0, locals := 200 } : Room)
abbrev wu_X6_levelCount : List Cond := (Cond.code yX6_levelCount cX6_levelCount 1 (some .int)) :: wsU
theorem hy_X6_levelCount : hyOk yX6_levelCount 0 := by decide +kernel
set_option maxRecDepth 20000 in
set_option maxHeartbeats 4000000 in
theorem c_X6_levelCount (n : Nat) (G : Gt) (σ : Mem) (o0 : Nat) (ho0 : Ok o0 6) (r : Int32) (σ' : Mem) (h : sp_X6_levelCount n σ o0 = some (r, σ')) : MM yX6_levelCount wu_X6_levelCount rm_X6_levelCount [.ref (G.2.2 (o0))] G σ (.inl (some (.int r))) σ' := by
  refine mm_of (cc := cX6_levelCount) (maxL := 1) (ret := (some .int)) (by decide +kernel) rfl (Nat.le_of_ble_eq_true rfl) (fun x C X hg => ?_)
  have C : Cx x cX6_levelCount 1 RX6 (some .int) [] wu_X6_levelCount rm_X6_levelCount G.1 (tysF G) := C
  unfold sp_X6_levelCount at h
  show J x [(0, .ref (G.2.2 (o0)))] [] σ 0 0 0
  refine j_aload_n C dX6_levelCount_0 0 rfl ?_
  refine j_iconst C dX6_levelCount_1 ((0 : Int32)) (by decide) ?_
  obtain ⟨σ1, e2, h⟩ := lm_e h
  refine j_put C X dX6_levelCount_2 ho0 (ty0 := tyX6) rfl rfl 14 (by decide) rfl rfl (Nat.le_of_ble_eq_true rfl) tyX6_ok nmX6 (ty := .int) rfl rfl rfl in_X6 (mU u_312) e2 ?_
  refine j_aload_n C dX6_levelCount_5 0 rfl ?_
  refine j_get C X dX6_levelCount_6 ho0 rfl rfl 0 (by decide) (fin := false) rfl rfl in_X6 (mU u_313) ?_
  exact j_ireturn C dX6_levelCount_9 (e_i h hg) (by decide) (by decide)
def sp_X6_depthOf (n : Nat) (σ : Mem) (o0 : Nat) (a1 : Int32) : Option (Int32 × Mem) := ((sp_X6_lacksPlace n σ o0 a1).bind fun q => match q with | (r1, σ2) => if r1 = 0 then if inR a1 7 then some ((σ2.1 (rf o0 1) (a1).toNatClampNeg), σ2) else none else some ((0 : Int32), σ2))
abbrev rm_X6_depthOf : Room := ({ frames := 12, cells := 0, slots := 0, locals := 243 } : Room)
abbrev wu_X6_depthOf : List Cond := (Cond.code yX6_depthOf cX6_depthOf 2 (some .int)) :: wsU
theorem hy_X6_depthOf : hyOk yX6_depthOf 1 := by decide +kernel
set_option maxRecDepth 20000 in
set_option maxHeartbeats 4000000 in
theorem c_X6_depthOf (n : Nat) (G : Gt) (σ : Mem) (o0 : Nat) (a1 : Int32) (ho0 : Ok o0 6) (r : Int32) (σ' : Mem) (h : sp_X6_depthOf n σ o0 a1 = some (r, σ')) : MM yX6_depthOf wu_X6_depthOf rm_X6_depthOf [.ref (G.2.2 (o0)), .int (a1)] G σ (.inl (some (.int r))) σ' := by
  refine mm_of (cc := cX6_depthOf) (maxL := 2) (ret := (some .int)) (by decide +kernel) rfl (Nat.le_of_ble_eq_true rfl) (fun x C X hg => ?_)
  have C : Cx x cX6_depthOf 2 RX6 (some .int) [] wu_X6_depthOf rm_X6_depthOf G.1 (tysF G) := C
  unfold sp_X6_depthOf at h
  show J x [(0, .ref (G.2.2 (o0))), (1, .int (a1))] [] σ 0 0 0
  refine j_aload_n C dX6_depthOf_0 0 rfl ?_
  refine j_iload_n C dX6_depthOf_1 1 rfl ?_
  obtain ⟨⟨r1, σ2⟩, h3, h⟩ := ob h
  try dsimp only at h
  refine j_callV C X (c_X6_lacksPlace n G σ o0 a1 ho0 _ _ h3) dX6_depthOf_2 (gV u_328 u_330 u_331 u_315 u_329) rfl hy_X6_lacksPlace rfl ho0 rfl (ci := 10) rfl rfl rfl (by decide) (Nat.le_of_ble_eq_true rfl) (by decide) ?_
  refine j_if_eq C dX6_depthOf_5 12 (by decide) (fun c4 => ?_) (fun c4 => ?_)
  · have h := (if_pos c4).symm.trans h
    refine j_aload_n C dX6_depthOf_12 0 rfl ?_
    refine j_get C X dX6_depthOf_13 ho0 rfl rfl 1 (by decide) (fin := true) rfl rfl in_X6 (mU u_322) ?_
    refine j_iload_n C dX6_depthOf_16 1 rfl ?_
    obtain ⟨g5, h⟩ := sg h
    refine j_iald C X dX6_depthOf_17 (sh_6_1 ho0) (n := 7) rfl g5 ?_
    exact j_ireturn C dX6_depthOf_18 (e_i h hg) (by decide) (by decide)
  · have h := (if_neg c4).symm.trans h
    refine j_iconst C dX6_depthOf_8 ((0 : Int32)) (by decide) ?_
    refine j_goto C dX6_depthOf_9 18 (by decide) ?_
    exact j_ireturn C dX6_depthOf_18 (e_i h hg) (by decide) (by decide)
def sp_X6_setFan (n : Nat) (σ : Mem) (o0 : Nat) (a1 : Int32) : Option (Int32 × Mem) := ((sp_X6_in n σ a1 ((0 : Int32)) ((1000 : Int32))).bind fun q => match q with | (r1, σ2) => if r1 = 0 then (lm (wi σ2 o0 14 (1 : Int32)) fun σ5 => if (σ5.1 o0 14) ≤ 0 then (lm (wi σ5 o0 6 a1) fun σ8 => some ((σ5.1 o0 6), σ8)) else some ((0 : Int32), σ5)) else (lm (wi σ2 o0 14 (0 : Int32)) fun σ10 => if (σ10.1 o0 14) ≤ 0 then (lm (wi σ10 o0 6 a1) fun σ13 => some ((σ10.1 o0 6), σ13)) else some ((0 : Int32), σ10)))
abbrev rm_X6_setFan : Room := ({ frames := 11, cells := 0, slots := 0, locals := 222 } : Room)
abbrev wu_X6_setFan : List Cond := (Cond.code yX6_setFan cX6_setFan 3 (some .int)) :: wsU
theorem hy_X6_setFan : hyOk yX6_setFan 1 := by decide +kernel
set_option maxRecDepth 20000 in
set_option maxHeartbeats 4000000 in
theorem c_X6_setFan (n : Nat) (G : Gt) (σ : Mem) (o0 : Nat) (a1 : Int32) (ho0 : Ok o0 6) (r : Int32) (σ' : Mem) (h : sp_X6_setFan n σ o0 a1 = some (r, σ')) : MM yX6_setFan wu_X6_setFan rm_X6_setFan [.ref (G.2.2 (o0)), .int (a1)] G σ (.inl (some (.int r))) σ' := by
  refine mm_of (cc := cX6_setFan) (maxL := 3) (ret := (some .int)) (by decide +kernel) rfl (Nat.le_of_ble_eq_true rfl) (fun x C X hg => ?_)
  have C : Cx x cX6_setFan 3 RX6 (some .int) [] wu_X6_setFan rm_X6_setFan G.1 (tysF G) := C
  unfold sp_X6_setFan at h
  show J x [(0, .ref (G.2.2 (o0))), (1, .int (a1))] [] σ 0 0 0
  refine j_aload_n C dX6_setFan_0 0 rfl ?_
  refine j_iload_n C dX6_setFan_1 1 rfl ?_
  refine j_iconst C dX6_setFan_2 ((0 : Int32)) (by decide) ?_
  refine j_sipush C dX6_setFan_3 ((1000 : Int32)) (by decide) ?_
  obtain ⟨⟨r1, σ2⟩, h3, h⟩ := ob h
  try dsimp only at h
  refine j_callS C X (c_X6_in n G σ a1 ((0 : Int32)) ((1000 : Int32))  _ _ h3) dX6_setFan_6 (gS u_314 u_317 u_315 u_316) rfl hy_X6_in rfl rfl (by decide) (Nat.le_of_ble_eq_true rfl) (by decide) ?_
  refine j_if_eq C dX6_setFan_9 16 (by decide) (fun c4 => ?_) (fun c4 => ?_)
  · have h := (if_pos c4).symm.trans h
    refine j_iconst C dX6_setFan_16 ((1 : Int32)) (by decide) ?_
    obtain ⟨σ5, e6, h⟩ := lm_e h
    refine j_put C X dX6_setFan_17 ho0 (ty0 := tyX6) rfl rfl 14 (by decide) rfl rfl (Nat.le_of_ble_eq_true rfl) tyX6_ok nmX6 (ty := .int) rfl rfl rfl in_X6 (mU u_312) e6 ?_
    refine j_aload_n C dX6_setFan_20 0 rfl ?_
    refine j_get C X dX6_setFan_21 ho0 rfl rfl 14 (by decide) (fin := false) rfl rfl in_X6 (mU u_312) ?_
    refine j_if_le C dX6_setFan_24 29 (by decide) (fun c7 => ?_) (fun c7 => ?_)
    · have h := (if_pos c7).symm.trans h
      refine j_aload_n C dX6_setFan_29 0 rfl ?_
      refine j_get C X dX6_setFan_30 ho0 rfl rfl 6 (by decide) (fin := false) rfl rfl in_X6 (mU u_332) ?_
      refine j_istore_n C dX6_setFan_33 (by decide) [(2, .int ((σ5.1 o0 6))), (0, .ref (G.2.2 (o0))), (1, .int (a1))] rfl ?_
      refine j_aload_n C dX6_setFan_34 1 rfl ?_
      refine j_iload_n C dX6_setFan_35 2 rfl ?_
      obtain ⟨σ8, e9, h⟩ := lm_e h
      refine j_put C X dX6_setFan_36 ho0 (ty0 := tyX6) rfl rfl 6 (by decide) rfl rfl (Nat.le_of_ble_eq_true rfl) tyX6_ok nmX6 (ty := .int) rfl rfl rfl in_X6 (mU u_332) e9 ?_
      refine j_iload_n C dX6_setFan_39 0 rfl ?_
      exact j_ireturn C dX6_setFan_40 (e_i h hg) (by decide) (by decide)
    · have h := (if_neg c7).symm.trans h
      refine j_iconst C dX6_setFan_27 ((0 : Int32)) (by decide) ?_
      exact j_ireturn C dX6_setFan_28 (e_i h hg) (by decide) (by decide)
  · have h := (if_neg c4).symm.trans h
    refine j_iconst C dX6_setFan_12 ((0 : Int32)) (by decide) ?_
    refine j_goto C dX6_setFan_13 17 (by decide) ?_
    obtain ⟨σ10, e11, h⟩ := lm_e h
    refine j_put C X dX6_setFan_17 ho0 (ty0 := tyX6) rfl rfl 14 (by decide) rfl rfl (Nat.le_of_ble_eq_true rfl) tyX6_ok nmX6 (ty := .int) rfl rfl rfl in_X6 (mU u_312) e11 ?_
    refine j_aload_n C dX6_setFan_20 0 rfl ?_
    refine j_get C X dX6_setFan_21 ho0 rfl rfl 14 (by decide) (fin := false) rfl rfl in_X6 (mU u_312) ?_
    refine j_if_le C dX6_setFan_24 29 (by decide) (fun c12 => ?_) (fun c12 => ?_)
    · have h := (if_pos c12).symm.trans h
      refine j_aload_n C dX6_setFan_29 0 rfl ?_
      refine j_get C X dX6_setFan_30 ho0 rfl rfl 6 (by decide) (fin := false) rfl rfl in_X6 (mU u_332) ?_
      refine j_istore_n C dX6_setFan_33 (by decide) [(2, .int ((σ10.1 o0 6))), (0, .ref (G.2.2 (o0))), (1, .int (a1))] rfl ?_
      refine j_aload_n C dX6_setFan_34 1 rfl ?_
      refine j_iload_n C dX6_setFan_35 2 rfl ?_
      obtain ⟨σ13, e14, h⟩ := lm_e h
      refine j_put C X dX6_setFan_36 ho0 (ty0 := tyX6) rfl rfl 6 (by decide) rfl rfl (Nat.le_of_ble_eq_true rfl) tyX6_ok nmX6 (ty := .int) rfl rfl rfl in_X6 (mU u_332) e14 ?_
      refine j_iload_n C dX6_setFan_39 0 rfl ?_
      exact j_ireturn C dX6_setFan_40 (e_i h hg) (by decide) (by decide)
    · have h := (if_neg c12).symm.trans h
      refine j_iconst C dX6_setFan_27 ((0 : Int32)) (by decide) ?_
      exact j_ireturn C dX6_setFan_28 (e_i h hg) (by decide) (by decide)
def sp_X6_setDoor (n : Nat) (σ : Mem) (o0 : Nat) (a1 : Int32) (a2 : Int32) : Option (Int32 × Mem) := ((sp_X6_lacks n σ o0 a1).bind fun q => match q with | (r1, σ2) => if r1 = 0 then if inR a1 7 then if inR a1 7 then (lm (wi σ2 (rf o0 5) (a1).toNatClampNeg (vp_nar .boolean a2)) fun σ7 => if (σ2.1 (rf o0 5) (a1).toNatClampNeg) = 0 ∨ (σ2.1 (rf o0 5) (a1).toNatClampNeg) = 1 then some ((σ2.1 (rf o0 5) (a1).toNatClampNeg), σ7) else none) else none else none else some ((0 : Int32), σ2))
abbrev rm_X6_setDoor : Room := ({ frames := 13, cells := 0, slots := 0, locals := 264 } : Room)
abbrev wu_X6_setDoor : List Cond := (Cond.code yX6_setDoor cX6_setDoor 4 (some .boolean)) :: wsU
theorem hy_X6_setDoor : hyOk yX6_setDoor 2 := by decide +kernel
set_option maxRecDepth 20000 in
set_option maxHeartbeats 4000000 in
theorem c_X6_setDoor (n : Nat) (G : Gt) (σ : Mem) (o0 : Nat) (a1 : Int32) (a2 : Int32) (ho0 : Ok o0 6) (r : Int32) (σ' : Mem) (h : sp_X6_setDoor n σ o0 a1 a2 = some (r, σ')) : MM yX6_setDoor wu_X6_setDoor rm_X6_setDoor [.ref (G.2.2 (o0)), .int (a1), .int (a2)] G σ (.inl (some (.int r))) σ' := by
  refine mm_of (cc := cX6_setDoor) (maxL := 4) (ret := (some .boolean)) (by decide +kernel) rfl (Nat.le_of_ble_eq_true rfl) (fun x C X hg => ?_)
  have C : Cx x cX6_setDoor 4 RX6 (some .boolean) [] wu_X6_setDoor rm_X6_setDoor G.1 (tysF G) := C
  unfold sp_X6_setDoor at h
  show J x [(0, .ref (G.2.2 (o0))), (1, .int (a1)), (2, .int (a2))] [] σ 0 0 0
  refine j_aload_n C dX6_setDoor_0 0 rfl ?_
  refine j_iload_n C dX6_setDoor_1 1 rfl ?_
  obtain ⟨⟨r1, σ2⟩, h3, h⟩ := ob h
  try dsimp only at h
  refine j_callV C X (c_X6_lacks n G σ o0 a1 ho0 _ _ h3) dX6_setDoor_2 (gV u_333 u_335 u_336 u_315 u_334) rfl hy_X6_lacks rfl ho0 rfl (ci := 10) rfl rfl rfl (by decide) (Nat.le_of_ble_eq_true rfl) (by decide) ?_
  refine j_if_eq C dX6_setDoor_5 10 (by decide) (fun c4 => ?_) (fun c4 => ?_)
  · have h := (if_pos c4).symm.trans h
    refine j_aload_n C dX6_setDoor_10 0 rfl ?_
    refine j_get C X dX6_setDoor_11 ho0 rfl rfl 5 (by decide) (fin := true) rfl rfl in_X6 (mU u_326) ?_
    refine j_iload_n C dX6_setDoor_14 1 rfl ?_
    obtain ⟨g5, h⟩ := sg h
    refine j_zald C X dX6_setDoor_15 (sh_6_5 ho0) (n := 7) rfl g5 ?_
    refine j_istore_n C dX6_setDoor_16 (by decide) [(3, .int ((σ2.1 (rf o0 5) (a1).toNatClampNeg))), (0, .ref (G.2.2 (o0))), (1, .int (a1)), (2, .int (a2))] rfl ?_
    refine j_aload_n C dX6_setDoor_17 1 rfl ?_
    refine j_get C X dX6_setDoor_18 ho0 rfl rfl 5 (by decide) (fin := true) rfl rfl in_X6 (mU u_326) ?_
    refine j_iload_n C dX6_setDoor_21 2 rfl ?_
    refine j_iload_n C dX6_setDoor_22 3 rfl ?_
    obtain ⟨g6, h⟩ := sg h
    obtain ⟨σ7, e8, h⟩ := lm_e h
    refine j_zast C X dX6_setDoor_23 (sh_6_5 ho0) (n := 7) (fun _ => rfl) g6 e8 ?_
    refine j_iload_n C dX6_setDoor_24 0 rfl ?_
    obtain ⟨g9, h⟩ := sg h
    exact j_zreturn C (nar_z g9).1 dX6_setDoor_25 (e_i h hg) (by decide) (by decide)
  · have h := (if_neg c4).symm.trans h
    refine j_iconst C dX6_setDoor_8 ((0 : Int32)) (by decide) ?_
    exact j_zreturn C (by decide) dX6_setDoor_9 (e_i h hg) (by decide) (by decide)
def lp_X6_widthsBelow_6 (n : Nat) (o0 : Nat) (a1 : Int32) : Nat → Mem → Int32 → Int32 → Int32 → Option (Int32 × Mem)
  | 0, _, _, _, _ => none
  | k + 1, σ, l1, l2, l3 => if (σ.1 o0 0) < l3 then some (l2, σ) else if inR l3 7 then if (σ.1 (rf o0 5) (l3).toNatClampNeg) = 0 then lp_X6_widthsBelow_6 n o0 a1 k σ l1 ((l2 + (0 : Int32))) ((l3 + (1 : Int32))) else if inR l3 7 then lp_X6_widthsBelow_6 n o0 a1 k σ l1 ((l2 + (σ.1 (rf o0 3) (l3).toNatClampNeg))) ((l3 + (1 : Int32))) else none else none
theorem lp_X6_widthsBelow_6_s (n : Nat) (o0 : Nat) (a1 : Int32) (k : Nat) (σ : Mem) (l1 : Int32) (l2 : Int32) (l3 : Int32) : lp_X6_widthsBelow_6 n o0 a1 (k + 1) σ l1 l2 l3 = (if (σ.1 o0 0) < l3 then some (l2, σ) else if inR l3 7 then if (σ.1 (rf o0 5) (l3).toNatClampNeg) = 0 then lp_X6_widthsBelow_6 n o0 a1 k σ l1 ((l2 + (0 : Int32))) ((l3 + (1 : Int32))) else if inR l3 7 then lp_X6_widthsBelow_6 n o0 a1 k σ l1 ((l2 + (σ.1 (rf o0 3) (l3).toNatClampNeg))) ((l3 + (1 : Int32))) else none else none) := rfl
def sp_X6_widthsBelow (n : Nat) (σ : Mem) (o0 : Nat) (a1 : Int32) : Option (Int32 × Mem) := lp_X6_widthsBelow_6 n o0 a1 n σ a1 ((0 : Int32)) ((a1 + (1 : Int32)))
abbrev rm_X6_widthsBelow : Room := ({ frames := 10, cells := 0, slots := 0, locals := 200 } : Room)
abbrev wu_X6_widthsBelow : List Cond := (Cond.code yX6_widthsBelow cX6_widthsBelow 4 (some .int)) :: wsU
theorem hy_X6_widthsBelow : hyOk yX6_widthsBelow 1 := by decide +kernel
set_option maxRecDepth 20000 in
set_option maxHeartbeats 4000000 in
theorem c_X6_widthsBelow (n : Nat) (G : Gt) (σ : Mem) (o0 : Nat) (a1 : Int32) (ho0 : Ok o0 6) (r : Int32) (σ' : Mem) (h : sp_X6_widthsBelow n σ o0 a1 = some (r, σ')) : MM yX6_widthsBelow wu_X6_widthsBelow rm_X6_widthsBelow [.ref (G.2.2 (o0)), .int (a1)] G σ (.inl (some (.int r))) σ' := by
  refine mm_of (cc := cX6_widthsBelow) (maxL := 4) (ret := (some .int)) (by decide +kernel) rfl (Nat.le_of_ble_eq_true rfl) (fun x C X hg => ?_)
  have C : Cx x cX6_widthsBelow 4 RX6 (some .int) [] wu_X6_widthsBelow rm_X6_widthsBelow G.1 (tysF G) := C
  have LP6 : ∀ (k : Nat) (σ : Mem) (l1 : Int32) (l2 : Int32) (l3 : Int32), lp_X6_widthsBelow_6 n o0 a1 k σ l1 l2 l3 = some (r, σ') → J x [(0, .ref (G.2.2 (o0))), (1, .int (l1)), (2, .int (l2)), (3, .int (l3))] [] σ 6 0 0 := by
    intro k
    induction k with
    | zero => intro σ l1 l2 l3  h; cases h
    | succ k ih =>
    intro σ l1 l2 l3  h
    rw [lp_X6_widthsBelow_6_s] at h
    refine j_iload_n C dX6_widthsBelow_6 3 rfl ?_
    refine j_aload_n C dX6_widthsBelow_7 0 rfl ?_
    refine j_get C X dX6_widthsBelow_8 ho0 rfl rfl 0 (by decide) (fin := false) rfl rfl in_X6 (mU u_313) ?_
    refine j_icmp_gt C dX6_widthsBelow_11 42 (by decide) (fun c1 => ?_) (fun c1 => ?_)
    · have h := (if_pos c1).symm.trans h
      refine j_iload_n C dX6_widthsBelow_42 2 rfl ?_
      exact j_ireturn C dX6_widthsBelow_43 (e_i h hg) (by decide) (by decide)
    · have h := (if_neg c1).symm.trans h
      refine j_iload_n C dX6_widthsBelow_14 2 rfl ?_
      refine j_aload_n C dX6_widthsBelow_15 0 rfl ?_
      refine j_get C X dX6_widthsBelow_16 ho0 rfl rfl 5 (by decide) (fin := true) rfl rfl in_X6 (mU u_326) ?_
      refine j_iload_n C dX6_widthsBelow_19 3 rfl ?_
      obtain ⟨g2, h⟩ := sg h
      refine j_zald C X dX6_widthsBelow_20 (sh_6_5 ho0) (n := 7) rfl g2 ?_
      refine j_if_eq C dX6_widthsBelow_21 33 (by decide) (fun c3 => ?_) (fun c3 => ?_)
      · have h := (if_pos c3).symm.trans h
        refine j_iconst C dX6_widthsBelow_33 ((0 : Int32)) (by decide) ?_
        refine j_iadd C dX6_widthsBelow_34 ?_
        refine j_istore_n C dX6_widthsBelow_35 (by decide) [(2, .int ((l2 + (0 : Int32)))), (0, .ref (G.2.2 (o0))), (1, .int (l1)), (3, .int (l3))] rfl ?_
        refine j_iinc C dX6_widthsBelow_36 3 rfl ((1 : Int32)) (by decide) (by decide) [(3, .int ((l3 + (1 : Int32)))), (2, .int ((l2 + (0 : Int32)))), (0, .ref (G.2.2 (o0))), (1, .int (l1))] rfl ?_
        refine j_goto C dX6_widthsBelow_39 6 (by decide) ?_
        refine j_sub [2, 3, 1, 0] [(0, .ref (G.2.2 (o0))), (1, .int (l1)), (2, .int ((l2 + (0 : Int32)))), (3, .int ((l3 + (1 : Int32))))] rfl ?_
        exact ih σ l1 ((l2 + (0 : Int32))) ((l3 + (1 : Int32)))  h
      · have h := (if_neg c3).symm.trans h
        refine j_aload_n C dX6_widthsBelow_24 0 rfl ?_
        refine j_get C X dX6_widthsBelow_25 ho0 rfl rfl 3 (by decide) (fin := true) rfl rfl in_X6 (mU u_324) ?_
        refine j_iload_n C dX6_widthsBelow_28 3 rfl ?_
        obtain ⟨g4, h⟩ := sg h
        refine j_iald C X dX6_widthsBelow_29 (sh_6_3 ho0) (n := 7) rfl g4 ?_
        refine j_goto C dX6_widthsBelow_30 34 (by decide) ?_
        refine j_iadd C dX6_widthsBelow_34 ?_
        refine j_istore_n C dX6_widthsBelow_35 (by decide) [(2, .int ((l2 + (σ.1 (rf o0 3) (l3).toNatClampNeg)))), (0, .ref (G.2.2 (o0))), (1, .int (l1)), (3, .int (l3))] rfl ?_
        refine j_iinc C dX6_widthsBelow_36 3 rfl ((1 : Int32)) (by decide) (by decide) [(3, .int ((l3 + (1 : Int32)))), (2, .int ((l2 + (σ.1 (rf o0 3) (l3).toNatClampNeg)))), (0, .ref (G.2.2 (o0))), (1, .int (l1))] rfl ?_
        refine j_goto C dX6_widthsBelow_39 6 (by decide) ?_
        refine j_sub [2, 3, 1, 0] [(0, .ref (G.2.2 (o0))), (1, .int (l1)), (2, .int ((l2 + (σ.1 (rf o0 3) (l3).toNatClampNeg)))), (3, .int ((l3 + (1 : Int32))))] rfl ?_
        exact ih σ l1 ((l2 + (σ.1 (rf o0 3) (l3).toNatClampNeg))) ((l3 + (1 : Int32)))  h
  unfold sp_X6_widthsBelow at h
  show J x [(0, .ref (G.2.2 (o0))), (1, .int (a1))] [] σ 0 0 0
  refine j_iconst C dX6_widthsBelow_0 ((0 : Int32)) (by decide) ?_
  refine j_istore_n C dX6_widthsBelow_1 (by decide) [(2, .int ((0 : Int32))), (0, .ref (G.2.2 (o0))), (1, .int (a1))] rfl ?_
  refine j_iload_n C dX6_widthsBelow_2 2 rfl ?_
  refine j_iconst C dX6_widthsBelow_3 ((1 : Int32)) (by decide) ?_
  refine j_iadd C dX6_widthsBelow_4 ?_
  refine j_istore_n C dX6_widthsBelow_5 (by decide) [(3, .int ((a1 + (1 : Int32)))), (2, .int ((0 : Int32))), (0, .ref (G.2.2 (o0))), (1, .int (a1))] rfl ?_
  refine j_sub [2, 3, 1, 0] [(0, .ref (G.2.2 (o0))), (1, .int (a1)), (2, .int ((0 : Int32))), (3, .int ((a1 + (1 : Int32))))] rfl ?_
  exact LP6 n σ a1 ((0 : Int32)) ((a1 + (1 : Int32)))  h
def lp_X6_air_7 (n : Nat) (o0 : Nat) (a1 : Int32) : Nat → Mem → Int32 → Int32 → Int32 → Option (Int32 × Mem)
  | 0, _, _, _, _ => none
  | k + 1, σ, l1, l2, l3 => if l1 < l3 then some ((0 : Int32), σ) else ((sp_X6_widthsBelow n σ o0 l3).bind fun q => match q with | (r2, σ3) => if inR l3 7 then if (σ3.1 (rf o0 5) (l3).toNatClampNeg) = 0 then if l3 = l1 then some ((0 : Int32), σ3) else lp_X6_air_7 n o0 a1 k σ3 l1 ((l2 - (0 : Int32))) ((l3 + (1 : Int32))) else if r2 = 0 then if l3 = l1 then some (l2, σ3) else lp_X6_air_7 n o0 a1 k σ3 l1 ((l2 - l2)) ((l3 + (1 : Int32))) else if inR l3 7 then if inR l3 7 then if ¬ ((σ3.1 (rf o0 3) (l3).toNatClampNeg) + r2) = 0 then if l3 = l1 then some (((l2 * (σ3.1 (rf o0 3) (l3).toNatClampNeg)) / ((σ3.1 (rf o0 3) (l3).toNatClampNeg) + r2)), σ3) else lp_X6_air_7 n o0 a1 k σ3 l1 ((l2 - ((l2 * (σ3.1 (rf o0 3) (l3).toNatClampNeg)) / ((σ3.1 (rf o0 3) (l3).toNatClampNeg) + r2)))) ((l3 + (1 : Int32))) else none else none else none else none)
theorem lp_X6_air_7_s (n : Nat) (o0 : Nat) (a1 : Int32) (k : Nat) (σ : Mem) (l1 : Int32) (l2 : Int32) (l3 : Int32) : lp_X6_air_7 n o0 a1 (k + 1) σ l1 l2 l3 = (if l1 < l3 then some ((0 : Int32), σ) else ((sp_X6_widthsBelow n σ o0 l3).bind fun q => match q with | (r2, σ3) => if inR l3 7 then if (σ3.1 (rf o0 5) (l3).toNatClampNeg) = 0 then if l3 = l1 then some ((0 : Int32), σ3) else lp_X6_air_7 n o0 a1 k σ3 l1 ((l2 - (0 : Int32))) ((l3 + (1 : Int32))) else if r2 = 0 then if l3 = l1 then some (l2, σ3) else lp_X6_air_7 n o0 a1 k σ3 l1 ((l2 - l2)) ((l3 + (1 : Int32))) else if inR l3 7 then if inR l3 7 then if ¬ ((σ3.1 (rf o0 3) (l3).toNatClampNeg) + r2) = 0 then if l3 = l1 then some (((l2 * (σ3.1 (rf o0 3) (l3).toNatClampNeg)) / ((σ3.1 (rf o0 3) (l3).toNatClampNeg) + r2)), σ3) else lp_X6_air_7 n o0 a1 k σ3 l1 ((l2 - ((l2 * (σ3.1 (rf o0 3) (l3).toNatClampNeg)) / ((σ3.1 (rf o0 3) (l3).toNatClampNeg) + r2)))) ((l3 + (1 : Int32))) else none else none else none else none)) := rfl
def sp_X6_air (n : Nat) (σ : Mem) (o0 : Nat) (a1 : Int32) : Option (Int32 × Mem) := lp_X6_air_7 n o0 a1 n σ a1 ((σ.1 o0 6)) ((1 : Int32))
abbrev rm_X6_air : Room := ({ frames := 11, cells := 0, slots := 0, locals := 223 } : Room)
abbrev wu_X6_air : List Cond := (Cond.code yX6_air cX6_air 6 (some .int)) :: wsU
theorem hy_X6_air : hyOk yX6_air 1 := by decide +kernel
set_option maxRecDepth 20000 in
set_option maxHeartbeats 4000000 in
theorem c_X6_air (n : Nat) (G : Gt) (σ : Mem) (o0 : Nat) (a1 : Int32) (ho0 : Ok o0 6) (r : Int32) (σ' : Mem) (h : sp_X6_air n σ o0 a1 = some (r, σ')) : MM yX6_air wu_X6_air rm_X6_air [.ref (G.2.2 (o0)), .int (a1)] G σ (.inl (some (.int r))) σ' := by
  refine mm_of (cc := cX6_air) (maxL := 6) (ret := (some .int)) (by decide +kernel) rfl (Nat.le_of_ble_eq_true rfl) (fun x C X hg => ?_)
  have C : Cx x cX6_air 6 RX6 (some .int) [] wu_X6_air rm_X6_air G.1 (tysF G) := C
  have LP7 : ∀ (k : Nat) (σ : Mem) (l1 : Int32) (l2 : Int32) (l3 : Int32), lp_X6_air_7 n o0 a1 k σ l1 l2 l3 = some (r, σ') → J x [(0, .ref (G.2.2 (o0))), (1, .int (l1)), (2, .int (l2)), (3, .int (l3))] [] σ 7 0 0 := by
    intro k
    induction k with
    | zero => intro σ l1 l2 l3  h; cases h
    | succ k ih =>
    intro σ l1 l2 l3  h
    rw [lp_X6_air_7_s] at h
    refine j_iload_n C dX6_air_7 3 rfl ?_
    refine j_iload_n C dX6_air_8 1 rfl ?_
    refine j_icmp_gt C dX6_air_9 80 (by decide) (fun c1 => ?_) (fun c1 => ?_)
    · have h := (if_pos c1).symm.trans h
      refine j_iconst C dX6_air_80 ((0 : Int32)) (by decide) ?_
      exact j_ireturn C dX6_air_81 (e_i h hg) (by decide) (by decide)
    · have h := (if_neg c1).symm.trans h
      refine j_aload_n C dX6_air_12 0 rfl ?_
      refine j_iload_n C dX6_air_13 3 rfl ?_
      obtain ⟨⟨r2, σ3⟩, h4, h⟩ := ob h
      try dsimp only at h
      refine j_callV C X (c_X6_widthsBelow n G σ o0 l3 ho0 _ _ h4) dX6_air_14 (gV u_337 u_339 u_340 u_315 u_338) rfl hy_X6_widthsBelow rfl ho0 rfl (ci := 10) rfl rfl rfl (by decide) (Nat.le_of_ble_eq_true rfl) (by decide) ?_
      refine j_istore C dX6_air_17 (by decide) [(4, .int (r2)), (0, .ref (G.2.2 (o0))), (1, .int (l1)), (2, .int (l2)), (3, .int (l3))] rfl ?_
      refine j_aload_n C dX6_air_19 1 rfl ?_
      refine j_get C X dX6_air_20 ho0 rfl rfl 5 (by decide) (fin := true) rfl rfl in_X6 (mU u_326) ?_
      refine j_iload_n C dX6_air_23 4 rfl ?_
      obtain ⟨g5, h⟩ := sg h
      refine j_zald C X dX6_air_24 (sh_6_5 ho0) (n := 7) rfl g5 ?_
      refine j_if_ne C dX6_air_25 32 (by decide) (fun c6 => ?_) (fun c6 => ?_)
      · have h := (if_neg c6).symm.trans h
        refine j_iload C dX6_air_32 0 rfl ?_
        refine j_if_ne C dX6_air_34 41 (by decide) (fun c7 => ?_) (fun c7 => ?_)
        · have h := (if_neg c7).symm.trans h
          refine j_iload_n C dX6_air_41 3 rfl ?_
          refine j_aload_n C dX6_air_42 1 rfl ?_
          refine j_get C X dX6_air_43 ho0 rfl rfl 3 (by decide) (fin := true) rfl rfl in_X6 (mU u_324) ?_
          refine j_iload_n C dX6_air_46 4 rfl ?_
          obtain ⟨g8, h⟩ := sg h
          refine j_iald C X dX6_air_47 (sh_6_3 ho0) (n := 7) rfl g8 ?_
          refine j_imul C dX6_air_48 ?_
          refine j_aload_n C dX6_air_49 1 rfl ?_
          refine j_get C X dX6_air_50 ho0 rfl rfl 3 (by decide) (fin := true) rfl rfl in_X6 (mU u_324) ?_
          refine j_iload_n C dX6_air_53 4 rfl ?_
          obtain ⟨g9, h⟩ := sg h
          refine j_iald C X dX6_air_54 (sh_6_3 ho0) (n := 7) rfl g9 ?_
          refine j_iload C dX6_air_55 0 rfl ?_
          refine j_iadd C dX6_air_57 ?_
          obtain ⟨g10, h⟩ := sg h
          refine j_idiv C dX6_air_58 g10 ?_
          refine j_istore C dX6_air_59 (by decide) [(5, .int (((l2 * (σ3.1 (rf o0 3) (l3).toNatClampNeg)) / ((σ3.1 (rf o0 3) (l3).toNatClampNeg) + r2)))), (4, .int (r2)), (0, .ref (G.2.2 (o0))), (1, .int (l1)), (2, .int (l2)), (3, .int (l3))] rfl ?_
          refine j_iload_n C dX6_air_61 5 rfl ?_
          refine j_iload_n C dX6_air_62 3 rfl ?_
          refine j_icmp_ne C dX6_air_63 69 (by decide) (fun c11 => ?_) (fun c11 => ?_)
          · have h := (if_neg c11).symm.trans h
            refine j_iload_n C dX6_air_69 4 rfl ?_
            refine j_iload C dX6_air_70 0 rfl ?_
            refine j_isub C dX6_air_72 ?_
            refine j_istore_n C dX6_air_73 (by decide) [(2, .int ((l2 - ((l2 * (σ3.1 (rf o0 3) (l3).toNatClampNeg)) / ((σ3.1 (rf o0 3) (l3).toNatClampNeg) + r2))))), (5, .int (((l2 * (σ3.1 (rf o0 3) (l3).toNatClampNeg)) / ((σ3.1 (rf o0 3) (l3).toNatClampNeg) + r2)))), (4, .int (r2)), (0, .ref (G.2.2 (o0))), (1, .int (l1)), (3, .int (l3))] rfl ?_
            refine j_iinc C dX6_air_74 5 rfl ((1 : Int32)) (by decide) (by decide) [(3, .int ((l3 + (1 : Int32)))), (2, .int ((l2 - ((l2 * (σ3.1 (rf o0 3) (l3).toNatClampNeg)) / ((σ3.1 (rf o0 3) (l3).toNatClampNeg) + r2))))), (5, .int (((l2 * (σ3.1 (rf o0 3) (l3).toNatClampNeg)) / ((σ3.1 (rf o0 3) (l3).toNatClampNeg) + r2)))), (4, .int (r2)), (0, .ref (G.2.2 (o0))), (1, .int (l1))] rfl ?_
            refine j_goto C dX6_air_77 7 (by decide) ?_
            refine j_sub [4, 5, 1, 0] [(0, .ref (G.2.2 (o0))), (1, .int (l1)), (2, .int ((l2 - ((l2 * (σ3.1 (rf o0 3) (l3).toNatClampNeg)) / ((σ3.1 (rf o0 3) (l3).toNatClampNeg) + r2))))), (3, .int ((l3 + (1 : Int32))))] rfl ?_
            exact ih σ3 l1 ((l2 - ((l2 * (σ3.1 (rf o0 3) (l3).toNatClampNeg)) / ((σ3.1 (rf o0 3) (l3).toNatClampNeg) + r2)))) ((l3 + (1 : Int32)))  h
          · have h := (if_pos c11).symm.trans h
            refine j_iload C dX6_air_66 0 rfl ?_
            exact j_ireturn C dX6_air_68 (e_i h hg) (by decide) (by decide)
        · have h := (if_pos c7).symm.trans h
          refine j_iload_n C dX6_air_37 3 rfl ?_
          refine j_goto C dX6_air_38 59 (by decide) ?_
          refine j_istore C dX6_air_59 (by decide) [(5, .int (l2)), (4, .int (r2)), (0, .ref (G.2.2 (o0))), (1, .int (l1)), (2, .int (l2)), (3, .int (l3))] rfl ?_
          refine j_iload_n C dX6_air_61 5 rfl ?_
          refine j_iload_n C dX6_air_62 3 rfl ?_
          refine j_icmp_ne C dX6_air_63 69 (by decide) (fun c12 => ?_) (fun c12 => ?_)
          · have h := (if_neg c12).symm.trans h
            refine j_iload_n C dX6_air_69 4 rfl ?_
            refine j_iload C dX6_air_70 0 rfl ?_
            refine j_isub C dX6_air_72 ?_
            refine j_istore_n C dX6_air_73 (by decide) [(2, .int ((l2 - l2))), (5, .int (l2)), (4, .int (r2)), (0, .ref (G.2.2 (o0))), (1, .int (l1)), (3, .int (l3))] rfl ?_
            refine j_iinc C dX6_air_74 5 rfl ((1 : Int32)) (by decide) (by decide) [(3, .int ((l3 + (1 : Int32)))), (2, .int ((l2 - l2))), (5, .int (l2)), (4, .int (r2)), (0, .ref (G.2.2 (o0))), (1, .int (l1))] rfl ?_
            refine j_goto C dX6_air_77 7 (by decide) ?_
            refine j_sub [4, 5, 1, 0] [(0, .ref (G.2.2 (o0))), (1, .int (l1)), (2, .int ((l2 - l2))), (3, .int ((l3 + (1 : Int32))))] rfl ?_
            exact ih σ3 l1 ((l2 - l2)) ((l3 + (1 : Int32)))  h
          · have h := (if_pos c12).symm.trans h
            refine j_iload C dX6_air_66 0 rfl ?_
            exact j_ireturn C dX6_air_68 (e_i h hg) (by decide) (by decide)
      · have h := (if_pos c6).symm.trans h
        refine j_iconst C dX6_air_28 ((0 : Int32)) (by decide) ?_
        refine j_goto C dX6_air_29 59 (by decide) ?_
        refine j_istore C dX6_air_59 (by decide) [(5, .int ((0 : Int32))), (4, .int (r2)), (0, .ref (G.2.2 (o0))), (1, .int (l1)), (2, .int (l2)), (3, .int (l3))] rfl ?_
        refine j_iload_n C dX6_air_61 5 rfl ?_
        refine j_iload_n C dX6_air_62 3 rfl ?_
        refine j_icmp_ne C dX6_air_63 69 (by decide) (fun c13 => ?_) (fun c13 => ?_)
        · have h := (if_neg c13).symm.trans h
          refine j_iload_n C dX6_air_69 4 rfl ?_
          refine j_iload C dX6_air_70 0 rfl ?_
          refine j_isub C dX6_air_72 ?_
          refine j_istore_n C dX6_air_73 (by decide) [(2, .int ((l2 - (0 : Int32)))), (5, .int ((0 : Int32))), (4, .int (r2)), (0, .ref (G.2.2 (o0))), (1, .int (l1)), (3, .int (l3))] rfl ?_
          refine j_iinc C dX6_air_74 5 rfl ((1 : Int32)) (by decide) (by decide) [(3, .int ((l3 + (1 : Int32)))), (2, .int ((l2 - (0 : Int32)))), (5, .int ((0 : Int32))), (4, .int (r2)), (0, .ref (G.2.2 (o0))), (1, .int (l1))] rfl ?_
          refine j_goto C dX6_air_77 7 (by decide) ?_
          refine j_sub [4, 5, 1, 0] [(0, .ref (G.2.2 (o0))), (1, .int (l1)), (2, .int ((l2 - (0 : Int32)))), (3, .int ((l3 + (1 : Int32))))] rfl ?_
          exact ih σ3 l1 ((l2 - (0 : Int32))) ((l3 + (1 : Int32)))  h
        · have h := (if_pos c13).symm.trans h
          refine j_iload C dX6_air_66 0 rfl ?_
          exact j_ireturn C dX6_air_68 (e_i h hg) (by decide) (by decide)
  unfold sp_X6_air at h
  show J x [(0, .ref (G.2.2 (o0))), (1, .int (a1))] [] σ 0 0 0
  refine j_aload_n C dX6_air_0 0 rfl ?_
  refine j_get C X dX6_air_1 ho0 rfl rfl 6 (by decide) (fin := false) rfl rfl in_X6 (mU u_332) ?_
  refine j_istore_n C dX6_air_4 (by decide) [(2, .int ((σ.1 o0 6))), (0, .ref (G.2.2 (o0))), (1, .int (a1))] rfl ?_
  refine j_iconst C dX6_air_5 ((1 : Int32)) (by decide) ?_
  refine j_istore_n C dX6_air_6 (by decide) [(3, .int ((1 : Int32))), (2, .int ((σ.1 o0 6))), (0, .ref (G.2.2 (o0))), (1, .int (a1))] rfl ?_
  refine j_sub [2, 3, 1, 0] [(0, .ref (G.2.2 (o0))), (1, .int (a1)), (2, .int ((σ.1 o0 6))), (3, .int ((1 : Int32)))] rfl ?_
  exact LP7 n σ a1 ((σ.1 o0 6)) ((1 : Int32))  h
def sp_X6_airOf (n : Nat) (σ : Mem) (o0 : Nat) (a1 : Int32) : Option (Int32 × Mem) := ((sp_X6_lacks n σ o0 a1).bind fun q => match q with | (r1, σ2) => if r1 = 0 then ((sp_X6_air n σ2 o0 a1).bind fun q => match q with | (r5, σ6) => some (r5, σ6)) else some ((0 : Int32), σ2))
abbrev rm_X6_airOf : Room := ({ frames := 13, cells := 0, slots := 0, locals := 264 } : Room)
abbrev wu_X6_airOf : List Cond := (Cond.code yX6_airOf cX6_airOf 2 (some .int)) :: wsU
theorem hy_X6_airOf : hyOk yX6_airOf 1 := by decide +kernel
set_option maxRecDepth 20000 in
set_option maxHeartbeats 4000000 in
theorem c_X6_airOf (n : Nat) (G : Gt) (σ : Mem) (o0 : Nat) (a1 : Int32) (ho0 : Ok o0 6) (r : Int32) (σ' : Mem) (h : sp_X6_airOf n σ o0 a1 = some (r, σ')) : MM yX6_airOf wu_X6_airOf rm_X6_airOf [.ref (G.2.2 (o0)), .int (a1)] G σ (.inl (some (.int r))) σ' := by
  refine mm_of (cc := cX6_airOf) (maxL := 2) (ret := (some .int)) (by decide +kernel) rfl (Nat.le_of_ble_eq_true rfl) (fun x C X hg => ?_)
  have C : Cx x cX6_airOf 2 RX6 (some .int) [] wu_X6_airOf rm_X6_airOf G.1 (tysF G) := C
  unfold sp_X6_airOf at h
  show J x [(0, .ref (G.2.2 (o0))), (1, .int (a1))] [] σ 0 0 0
  refine j_aload_n C dX6_airOf_0 0 rfl ?_
  refine j_iload_n C dX6_airOf_1 1 rfl ?_
  obtain ⟨⟨r1, σ2⟩, h3, h⟩ := ob h
  try dsimp only at h
  refine j_callV C X (c_X6_lacks n G σ o0 a1 ho0 _ _ h3) dX6_airOf_2 (gV u_333 u_335 u_336 u_315 u_334) rfl hy_X6_lacks rfl ho0 rfl (ci := 10) rfl rfl rfl (by decide) (Nat.le_of_ble_eq_true rfl) (by decide) ?_
  refine j_if_eq C dX6_airOf_5 12 (by decide) (fun c4 => ?_) (fun c4 => ?_)
  · have h := (if_pos c4).symm.trans h
    refine j_aload_n C dX6_airOf_12 0 rfl ?_
    refine j_iload_n C dX6_airOf_13 1 rfl ?_
    obtain ⟨⟨r5, σ6⟩, h7, h⟩ := ob h
    try dsimp only at h
    refine j_callV C X (c_X6_air n G σ2 o0 a1 ho0 _ _ h7) dX6_airOf_14 (gV u_341 u_343 u_344 u_315 u_342) rfl hy_X6_air rfl ho0 rfl (ci := 10) rfl rfl rfl (by decide) (Nat.le_of_ble_eq_true rfl) (by decide) ?_
    exact j_ireturn C dX6_airOf_17 (e_i h hg) (by decide) (by decide)
  · have h := (if_neg c4).symm.trans h
    refine j_iconst C dX6_airOf_8 ((0 : Int32)) (by decide) ?_
    refine j_goto C dX6_airOf_9 17 (by decide) ?_
    exact j_ireturn C dX6_airOf_17 (e_i h hg) (by decide) (by decide)
def sp_X6_airByPaths (n : Nat) (σ : Mem) (o0 : Nat) (a1 : Int32) : Option (Int32 × Mem) := ((sp_X6_airOf n σ o0 a1).bind fun q => match q with | (r1, σ2) => some (r1, σ2))
abbrev rm_X6_airByPaths : Room := ({ frames := 14, cells := 0, slots := 0, locals := 285 } : Room)
abbrev wu_X6_airByPaths : List Cond := (Cond.code yX6_airByPaths cX6_airByPaths 2 (some .int)) :: wsU
theorem hy_X6_airByPaths : hyOk yX6_airByPaths 1 := by decide +kernel
set_option maxRecDepth 20000 in
set_option maxHeartbeats 4000000 in
theorem c_X6_airByPaths (n : Nat) (G : Gt) (σ : Mem) (o0 : Nat) (a1 : Int32) (ho0 : Ok o0 6) (r : Int32) (σ' : Mem) (h : sp_X6_airByPaths n σ o0 a1 = some (r, σ')) : MM yX6_airByPaths wu_X6_airByPaths rm_X6_airByPaths [.ref (G.2.2 (o0)), .int (a1)] G σ (.inl (some (.int r))) σ' := by
  refine mm_of (cc := cX6_airByPaths) (maxL := 2) (ret := (some .int)) (by decide +kernel) rfl (Nat.le_of_ble_eq_true rfl) (fun x C X hg => ?_)
  have C : Cx x cX6_airByPaths 2 RX6 (some .int) [] wu_X6_airByPaths rm_X6_airByPaths G.1 (tysF G) := C
  unfold sp_X6_airByPaths at h
  show J x [(0, .ref (G.2.2 (o0))), (1, .int (a1))] [] σ 0 0 0
  refine j_aload_n C dX6_airByPaths_0 0 rfl ?_
  refine j_iload_n C dX6_airByPaths_1 1 rfl ?_
  obtain ⟨⟨r1, σ2⟩, h3, h⟩ := ob h
  try dsimp only at h
  refine j_callV C X (c_X6_airOf n G σ o0 a1 ho0 _ _ h3) dX6_airByPaths_2 (gV u_345 u_347 u_348 u_315 u_346) rfl hy_X6_airOf rfl ho0 rfl (ci := 10) rfl rfl rfl (by decide) (Nat.le_of_ble_eq_true rfl) (by decide) ?_
  exact j_ireturn C dX6_airByPaths_5 (e_i h hg) (by decide) (by decide)
def sp_X6_setLimit (n : Nat) (σ : Mem) (o0 : Nat) (a1 : Int32) : Option (Int32 × Mem) := ((sp_X6_in n σ a1 ((1 : Int32)) ((1000 : Int32))).bind fun q => match q with | (r1, σ2) => if r1 = 0 then (lm (wi σ2 o0 14 (1 : Int32)) fun σ5 => if (σ5.1 o0 14) ≤ 0 then (lm (wi σ5 o0 7 a1) fun σ8 => some ((σ5.1 o0 7), σ8)) else some ((0 : Int32), σ5)) else (lm (wi σ2 o0 14 (0 : Int32)) fun σ10 => if (σ10.1 o0 14) ≤ 0 then (lm (wi σ10 o0 7 a1) fun σ13 => some ((σ10.1 o0 7), σ13)) else some ((0 : Int32), σ10)))
abbrev rm_X6_setLimit : Room := ({ frames := 11, cells := 0, slots := 0, locals := 222 } : Room)
abbrev wu_X6_setLimit : List Cond := (Cond.code yX6_setLimit cX6_setLimit 3 (some .int)) :: wsU
theorem hy_X6_setLimit : hyOk yX6_setLimit 1 := by decide +kernel
set_option maxRecDepth 20000 in
set_option maxHeartbeats 4000000 in
theorem c_X6_setLimit (n : Nat) (G : Gt) (σ : Mem) (o0 : Nat) (a1 : Int32) (ho0 : Ok o0 6) (r : Int32) (σ' : Mem) (h : sp_X6_setLimit n σ o0 a1 = some (r, σ')) : MM yX6_setLimit wu_X6_setLimit rm_X6_setLimit [.ref (G.2.2 (o0)), .int (a1)] G σ (.inl (some (.int r))) σ' := by
  refine mm_of (cc := cX6_setLimit) (maxL := 3) (ret := (some .int)) (by decide +kernel) rfl (Nat.le_of_ble_eq_true rfl) (fun x C X hg => ?_)
  have C : Cx x cX6_setLimit 3 RX6 (some .int) [] wu_X6_setLimit rm_X6_setLimit G.1 (tysF G) := C
  unfold sp_X6_setLimit at h
  show J x [(0, .ref (G.2.2 (o0))), (1, .int (a1))] [] σ 0 0 0
  refine j_aload_n C dX6_setLimit_0 0 rfl ?_
  refine j_iload_n C dX6_setLimit_1 1 rfl ?_
  refine j_iconst C dX6_setLimit_2 ((1 : Int32)) (by decide) ?_
  refine j_sipush C dX6_setLimit_3 ((1000 : Int32)) (by decide) ?_
  obtain ⟨⟨r1, σ2⟩, h3, h⟩ := ob h
  try dsimp only at h
  refine j_callS C X (c_X6_in n G σ a1 ((1 : Int32)) ((1000 : Int32))  _ _ h3) dX6_setLimit_6 (gS u_314 u_317 u_315 u_316) rfl hy_X6_in rfl rfl (by decide) (Nat.le_of_ble_eq_true rfl) (by decide) ?_
  refine j_if_eq C dX6_setLimit_9 16 (by decide) (fun c4 => ?_) (fun c4 => ?_)
  · have h := (if_pos c4).symm.trans h
    refine j_iconst C dX6_setLimit_16 ((1 : Int32)) (by decide) ?_
    obtain ⟨σ5, e6, h⟩ := lm_e h
    refine j_put C X dX6_setLimit_17 ho0 (ty0 := tyX6) rfl rfl 14 (by decide) rfl rfl (Nat.le_of_ble_eq_true rfl) tyX6_ok nmX6 (ty := .int) rfl rfl rfl in_X6 (mU u_312) e6 ?_
    refine j_aload_n C dX6_setLimit_20 0 rfl ?_
    refine j_get C X dX6_setLimit_21 ho0 rfl rfl 14 (by decide) (fin := false) rfl rfl in_X6 (mU u_312) ?_
    refine j_if_le C dX6_setLimit_24 29 (by decide) (fun c7 => ?_) (fun c7 => ?_)
    · have h := (if_pos c7).symm.trans h
      refine j_aload_n C dX6_setLimit_29 0 rfl ?_
      refine j_get C X dX6_setLimit_30 ho0 rfl rfl 7 (by decide) (fin := false) rfl rfl in_X6 (mU u_349) ?_
      refine j_istore_n C dX6_setLimit_33 (by decide) [(2, .int ((σ5.1 o0 7))), (0, .ref (G.2.2 (o0))), (1, .int (a1))] rfl ?_
      refine j_aload_n C dX6_setLimit_34 1 rfl ?_
      refine j_iload_n C dX6_setLimit_35 2 rfl ?_
      obtain ⟨σ8, e9, h⟩ := lm_e h
      refine j_put C X dX6_setLimit_36 ho0 (ty0 := tyX6) rfl rfl 7 (by decide) rfl rfl (Nat.le_of_ble_eq_true rfl) tyX6_ok nmX6 (ty := .int) rfl rfl rfl in_X6 (mU u_349) e9 ?_
      refine j_iload_n C dX6_setLimit_39 0 rfl ?_
      exact j_ireturn C dX6_setLimit_40 (e_i h hg) (by decide) (by decide)
    · have h := (if_neg c7).symm.trans h
      refine j_iconst C dX6_setLimit_27 ((0 : Int32)) (by decide) ?_
      exact j_ireturn C dX6_setLimit_28 (e_i h hg) (by decide) (by decide)
  · have h := (if_neg c4).symm.trans h
    refine j_iconst C dX6_setLimit_12 ((0 : Int32)) (by decide) ?_
    refine j_goto C dX6_setLimit_13 17 (by decide) ?_
    obtain ⟨σ10, e11, h⟩ := lm_e h
    refine j_put C X dX6_setLimit_17 ho0 (ty0 := tyX6) rfl rfl 14 (by decide) rfl rfl (Nat.le_of_ble_eq_true rfl) tyX6_ok nmX6 (ty := .int) rfl rfl rfl in_X6 (mU u_312) e11 ?_
    refine j_aload_n C dX6_setLimit_20 0 rfl ?_
    refine j_get C X dX6_setLimit_21 ho0 rfl rfl 14 (by decide) (fin := false) rfl rfl in_X6 (mU u_312) ?_
    refine j_if_le C dX6_setLimit_24 29 (by decide) (fun c12 => ?_) (fun c12 => ?_)
    · have h := (if_pos c12).symm.trans h
      refine j_aload_n C dX6_setLimit_29 0 rfl ?_
      refine j_get C X dX6_setLimit_30 ho0 rfl rfl 7 (by decide) (fin := false) rfl rfl in_X6 (mU u_349) ?_
      refine j_istore_n C dX6_setLimit_33 (by decide) [(2, .int ((σ10.1 o0 7))), (0, .ref (G.2.2 (o0))), (1, .int (a1))] rfl ?_
      refine j_aload_n C dX6_setLimit_34 1 rfl ?_
      refine j_iload_n C dX6_setLimit_35 2 rfl ?_
      obtain ⟨σ13, e14, h⟩ := lm_e h
      refine j_put C X dX6_setLimit_36 ho0 (ty0 := tyX6) rfl rfl 7 (by decide) rfl rfl (Nat.le_of_ble_eq_true rfl) tyX6_ok nmX6 (ty := .int) rfl rfl rfl in_X6 (mU u_349) e14 ?_
      refine j_iload_n C dX6_setLimit_39 0 rfl ?_
      exact j_ireturn C dX6_setLimit_40 (e_i h hg) (by decide) (by decide)
    · have h := (if_neg c12).symm.trans h
      refine j_iconst C dX6_setLimit_27 ((0 : Int32)) (by decide) ?_
      exact j_ireturn C dX6_setLimit_28 (e_i h hg) (by decide) (by decide)
def sp_X6_gasOf (n : Nat) (σ : Mem) (o0 : Nat) (a1 : Int32) : Option (Int32 × Mem) := ((sp_X6_lacks n σ o0 a1).bind fun q => match q with | (r1, σ2) => if r1 = 0 then if inR ((0 : Int32) + a1) 73 then some ((σ2.1 (rf o0 11) (((0 : Int32) + a1)).toNatClampNeg), σ2) else none else some ((0 : Int32), σ2))
abbrev rm_X6_gasOf : Room := ({ frames := 13, cells := 0, slots := 0, locals := 264 } : Room)
abbrev wu_X6_gasOf : List Cond := (Cond.code yX6_gasOf cX6_gasOf 2 (some .int)) :: wsU
theorem hy_X6_gasOf : hyOk yX6_gasOf 1 := by decide +kernel
set_option maxRecDepth 20000 in
set_option maxHeartbeats 4000000 in
theorem c_X6_gasOf (n : Nat) (G : Gt) (σ : Mem) (o0 : Nat) (a1 : Int32) (ho0 : Ok o0 6) (r : Int32) (σ' : Mem) (h : sp_X6_gasOf n σ o0 a1 = some (r, σ')) : MM yX6_gasOf wu_X6_gasOf rm_X6_gasOf [.ref (G.2.2 (o0)), .int (a1)] G σ (.inl (some (.int r))) σ' := by
  refine mm_of (cc := cX6_gasOf) (maxL := 2) (ret := (some .int)) (by decide +kernel) rfl (Nat.le_of_ble_eq_true rfl) (fun x C X hg => ?_)
  have C : Cx x cX6_gasOf 2 RX6 (some .int) [] wu_X6_gasOf rm_X6_gasOf G.1 (tysF G) := C
  unfold sp_X6_gasOf at h
  show J x [(0, .ref (G.2.2 (o0))), (1, .int (a1))] [] σ 0 0 0
  refine j_aload_n C dX6_gasOf_0 0 rfl ?_
  refine j_iload_n C dX6_gasOf_1 1 rfl ?_
  obtain ⟨⟨r1, σ2⟩, h3, h⟩ := ob h
  try dsimp only at h
  refine j_callV C X (c_X6_lacks n G σ o0 a1 ho0 _ _ h3) dX6_gasOf_2 (gV u_333 u_335 u_336 u_315 u_334) rfl hy_X6_lacks rfl ho0 rfl (ci := 10) rfl rfl rfl (by decide) (Nat.le_of_ble_eq_true rfl) (by decide) ?_
  refine j_if_eq C dX6_gasOf_5 12 (by decide) (fun c4 => ?_) (fun c4 => ?_)
  · have h := (if_pos c4).symm.trans h
    refine j_aload_n C dX6_gasOf_12 0 rfl ?_
    refine j_get C X dX6_gasOf_13 ho0 rfl rfl 11 (by decide) (fin := false) rfl rfl in_X6 (mU u_327) ?_
    refine j_iconst C dX6_gasOf_16 ((0 : Int32)) (by decide) ?_
    refine j_iload_n C dX6_gasOf_17 1 rfl ?_
    refine j_iadd C dX6_gasOf_18 ?_
    obtain ⟨g5, h⟩ := sg h
    refine j_iald C X dX6_gasOf_19 (sh_6_11 ho0) (n := 73) rfl g5 ?_
    exact j_ireturn C dX6_gasOf_20 (e_i h hg) (by decide) (by decide)
  · have h := (if_neg c4).symm.trans h
    refine j_iconst C dX6_gasOf_8 ((0 : Int32)) (by decide) ?_
    refine j_goto C dX6_gasOf_9 20 (by decide) ?_
    exact j_ireturn C dX6_gasOf_20 (e_i h hg) (by decide) (by decide)
def sp_X6_share (n : Nat) (σ : Mem) (o0 : Nat) (a1 : Int32) : Option (Int32 × Mem) := if inR ((0 : Int32) + a1) 73 then if inR a1 7 then if ¬ (σ.1 (rf o0 2) (a1).toNatClampNeg) = 0 then some ((((1000 : Int32) * (σ.1 (rf o0 11) (((0 : Int32) + a1)).toNatClampNeg)) / (σ.1 (rf o0 2) (a1).toNatClampNeg)), σ) else none else none else none
abbrev rm_X6_share : Room := ({ frames := 10, cells := 0, slots := 0, locals := 200 } : Room)
abbrev wu_X6_share : List Cond := (Cond.code yX6_share cX6_share 2 (some .int)) :: wsU
theorem hy_X6_share : hyOk yX6_share 1 := by decide +kernel
set_option maxRecDepth 20000 in
set_option maxHeartbeats 4000000 in
theorem c_X6_share (n : Nat) (G : Gt) (σ : Mem) (o0 : Nat) (a1 : Int32) (ho0 : Ok o0 6) (r : Int32) (σ' : Mem) (h : sp_X6_share n σ o0 a1 = some (r, σ')) : MM yX6_share wu_X6_share rm_X6_share [.ref (G.2.2 (o0)), .int (a1)] G σ (.inl (some (.int r))) σ' := by
  refine mm_of (cc := cX6_share) (maxL := 2) (ret := (some .int)) (by decide +kernel) rfl (Nat.le_of_ble_eq_true rfl) (fun x C X hg => ?_)
  have C : Cx x cX6_share 2 RX6 (some .int) [] wu_X6_share rm_X6_share G.1 (tysF G) := C
  unfold sp_X6_share at h
  show J x [(0, .ref (G.2.2 (o0))), (1, .int (a1))] [] σ 0 0 0
  refine j_sipush C dX6_share_0 ((1000 : Int32)) (by decide) ?_
  refine j_aload_n C dX6_share_3 0 rfl ?_
  refine j_get C X dX6_share_4 ho0 rfl rfl 11 (by decide) (fin := false) rfl rfl in_X6 (mU u_327) ?_
  refine j_iconst C dX6_share_7 ((0 : Int32)) (by decide) ?_
  refine j_iload_n C dX6_share_8 1 rfl ?_
  refine j_iadd C dX6_share_9 ?_
  obtain ⟨g1, h⟩ := sg h
  refine j_iald C X dX6_share_10 (sh_6_11 ho0) (n := 73) rfl g1 ?_
  refine j_imul C dX6_share_11 ?_
  refine j_aload_n C dX6_share_12 0 rfl ?_
  refine j_get C X dX6_share_13 ho0 rfl rfl 2 (by decide) (fin := true) rfl rfl in_X6 (mU u_323) ?_
  refine j_iload_n C dX6_share_16 1 rfl ?_
  obtain ⟨g2, h⟩ := sg h
  refine j_iald C X dX6_share_17 (sh_6_2 ho0) (n := 7) rfl g2 ?_
  obtain ⟨g3, h⟩ := sg h
  refine j_idiv C dX6_share_18 g3 ?_
  exact j_ireturn C dX6_share_19 (e_i h hg) (by decide) (by decide)
def sp_X6_gasShare (n : Nat) (σ : Mem) (o0 : Nat) (a1 : Int32) : Option (Int32 × Mem) := ((sp_X6_lacks n σ o0 a1).bind fun q => match q with | (r1, σ2) => if r1 = 0 then ((sp_X6_share n σ2 o0 a1).bind fun q => match q with | (r5, σ6) => some (r5, σ6)) else some ((0 : Int32), σ2))
abbrev rm_X6_gasShare : Room := ({ frames := 13, cells := 0, slots := 0, locals := 264 } : Room)
abbrev wu_X6_gasShare : List Cond := (Cond.code yX6_gasShare cX6_gasShare 2 (some .int)) :: wsU
theorem hy_X6_gasShare : hyOk yX6_gasShare 1 := by decide +kernel
set_option maxRecDepth 20000 in
set_option maxHeartbeats 4000000 in
theorem c_X6_gasShare (n : Nat) (G : Gt) (σ : Mem) (o0 : Nat) (a1 : Int32) (ho0 : Ok o0 6) (r : Int32) (σ' : Mem) (h : sp_X6_gasShare n σ o0 a1 = some (r, σ')) : MM yX6_gasShare wu_X6_gasShare rm_X6_gasShare [.ref (G.2.2 (o0)), .int (a1)] G σ (.inl (some (.int r))) σ' := by
  refine mm_of (cc := cX6_gasShare) (maxL := 2) (ret := (some .int)) (by decide +kernel) rfl (Nat.le_of_ble_eq_true rfl) (fun x C X hg => ?_)
  have C : Cx x cX6_gasShare 2 RX6 (some .int) [] wu_X6_gasShare rm_X6_gasShare G.1 (tysF G) := C
  unfold sp_X6_gasShare at h
  show J x [(0, .ref (G.2.2 (o0))), (1, .int (a1))] [] σ 0 0 0
  refine j_aload_n C dX6_gasShare_0 0 rfl ?_
  refine j_iload_n C dX6_gasShare_1 1 rfl ?_
  obtain ⟨⟨r1, σ2⟩, h3, h⟩ := ob h
  try dsimp only at h
  refine j_callV C X (c_X6_lacks n G σ o0 a1 ho0 _ _ h3) dX6_gasShare_2 (gV u_333 u_335 u_336 u_315 u_334) rfl hy_X6_lacks rfl ho0 rfl (ci := 10) rfl rfl rfl (by decide) (Nat.le_of_ble_eq_true rfl) (by decide) ?_
  refine j_if_eq C dX6_gasShare_5 12 (by decide) (fun c4 => ?_) (fun c4 => ?_)
  · have h := (if_pos c4).symm.trans h
    refine j_aload_n C dX6_gasShare_12 0 rfl ?_
    refine j_iload_n C dX6_gasShare_13 1 rfl ?_
    obtain ⟨⟨r5, σ6⟩, h7, h⟩ := ob h
    try dsimp only at h
    refine j_callV C X (c_X6_share n G σ2 o0 a1 ho0 _ _ h7) dX6_gasShare_14 (gV u_350 u_352 u_353 u_315 u_351) rfl hy_X6_share rfl ho0 rfl (ci := 10) rfl rfl rfl (by decide) (Nat.le_of_ble_eq_true rfl) (by decide) ?_
    exact j_ireturn C dX6_gasShare_17 (e_i h hg) (by decide) (by decide)
  · have h := (if_neg c4).symm.trans h
    refine j_iconst C dX6_gasShare_8 ((0 : Int32)) (by decide) ?_
    refine j_goto C dX6_gasShare_9 17 (by decide) ?_
    exact j_ireturn C dX6_gasShare_17 (e_i h hg) (by decide) (by decide)
def sp_X6_alarms (n : Nat) (σ : Mem) (o0 : Nat) (a1 : Int32) : Option (Int32 × Mem) := ((sp_X6_share n σ o0 a1).bind fun q => match q with | (r1, σ2) => if r1 < (σ2.1 o0 7) then some ((0 : Int32), σ2) else some ((1 : Int32), σ2))
abbrev rm_X6_alarms : Room := ({ frames := 11, cells := 0, slots := 0, locals := 221 } : Room)
abbrev wu_X6_alarms : List Cond := (Cond.code yX6_alarms cX6_alarms 2 (some .boolean)) :: wsU
theorem hy_X6_alarms : hyOk yX6_alarms 1 := by decide +kernel
set_option maxRecDepth 20000 in
set_option maxHeartbeats 4000000 in
theorem c_X6_alarms (n : Nat) (G : Gt) (σ : Mem) (o0 : Nat) (a1 : Int32) (ho0 : Ok o0 6) (r : Int32) (σ' : Mem) (h : sp_X6_alarms n σ o0 a1 = some (r, σ')) : MM yX6_alarms wu_X6_alarms rm_X6_alarms [.ref (G.2.2 (o0)), .int (a1)] G σ (.inl (some (.int r))) σ' := by
  refine mm_of (cc := cX6_alarms) (maxL := 2) (ret := (some .boolean)) (by decide +kernel) rfl (Nat.le_of_ble_eq_true rfl) (fun x C X hg => ?_)
  have C : Cx x cX6_alarms 2 RX6 (some .boolean) [] wu_X6_alarms rm_X6_alarms G.1 (tysF G) := C
  unfold sp_X6_alarms at h
  show J x [(0, .ref (G.2.2 (o0))), (1, .int (a1))] [] σ 0 0 0
  refine j_aload_n C dX6_alarms_0 0 rfl ?_
  refine j_iload_n C dX6_alarms_1 1 rfl ?_
  obtain ⟨⟨r1, σ2⟩, h3, h⟩ := ob h
  try dsimp only at h
  refine j_callV C X (c_X6_share n G σ o0 a1 ho0 _ _ h3) dX6_alarms_2 (gV u_350 u_352 u_353 u_315 u_351) rfl hy_X6_share rfl ho0 rfl (ci := 10) rfl rfl rfl (by decide) (Nat.le_of_ble_eq_true rfl) (by decide) ?_
  refine j_aload_n C dX6_alarms_5 0 rfl ?_
  refine j_get C X dX6_alarms_6 ho0 rfl rfl 7 (by decide) (fin := false) rfl rfl in_X6 (mU u_349) ?_
  refine j_icmp_lt C dX6_alarms_9 16 (by decide) (fun c4 => ?_) (fun c4 => ?_)
  · have h := (if_pos c4).symm.trans h
    refine j_iconst C dX6_alarms_16 ((0 : Int32)) (by decide) ?_
    exact j_zreturn C (by decide) dX6_alarms_17 (e_i h hg) (by decide) (by decide)
  · have h := (if_neg c4).symm.trans h
    refine j_iconst C dX6_alarms_12 ((1 : Int32)) (by decide) ?_
    refine j_goto C dX6_alarms_13 17 (by decide) ?_
    exact j_zreturn C (by decide) dX6_alarms_17 (e_i h hg) (by decide) (by decide)
def sp_X6_isAlarm (n : Nat) (σ : Mem) (o0 : Nat) (a1 : Int32) : Option (Int32 × Mem) := ((sp_X6_lacks n σ o0 a1).bind fun q => match q with | (r1, σ2) => if r1 = 0 then ((sp_X6_alarms n σ2 o0 a1).bind fun q => match q with | (r5, σ6) => if r5 = 0 then some ((0 : Int32), σ6) else some ((1 : Int32), σ6)) else some ((0 : Int32), σ2))
abbrev rm_X6_isAlarm : Room := ({ frames := 13, cells := 0, slots := 0, locals := 264 } : Room)
abbrev wu_X6_isAlarm : List Cond := (Cond.code yX6_isAlarm cX6_isAlarm 2 (some .boolean)) :: wsU
theorem hy_X6_isAlarm : hyOk yX6_isAlarm 1 := by decide +kernel
set_option maxRecDepth 20000 in
set_option maxHeartbeats 4000000 in
theorem c_X6_isAlarm (n : Nat) (G : Gt) (σ : Mem) (o0 : Nat) (a1 : Int32) (ho0 : Ok o0 6) (r : Int32) (σ' : Mem) (h : sp_X6_isAlarm n σ o0 a1 = some (r, σ')) : MM yX6_isAlarm wu_X6_isAlarm rm_X6_isAlarm [.ref (G.2.2 (o0)), .int (a1)] G σ (.inl (some (.int r))) σ' := by
  refine mm_of (cc := cX6_isAlarm) (maxL := 2) (ret := (some .boolean)) (by decide +kernel) rfl (Nat.le_of_ble_eq_true rfl) (fun x C X hg => ?_)
  have C : Cx x cX6_isAlarm 2 RX6 (some .boolean) [] wu_X6_isAlarm rm_X6_isAlarm G.1 (tysF G) := C
  unfold sp_X6_isAlarm at h
  show J x [(0, .ref (G.2.2 (o0))), (1, .int (a1))] [] σ 0 0 0
  refine j_aload_n C dX6_isAlarm_0 0 rfl ?_
  refine j_iload_n C dX6_isAlarm_1 1 rfl ?_
  obtain ⟨⟨r1, σ2⟩, h3, h⟩ := ob h
  try dsimp only at h
  refine j_callV C X (c_X6_lacks n G σ o0 a1 ho0 _ _ h3) dX6_isAlarm_2 (gV u_333 u_335 u_336 u_315 u_334) rfl hy_X6_lacks rfl ho0 rfl (ci := 10) rfl rfl rfl (by decide) (Nat.le_of_ble_eq_true rfl) (by decide) ?_
  refine j_if_ne C dX6_isAlarm_5 20 (by decide) (fun c4 => ?_) (fun c4 => ?_)
  · have h := (if_neg c4).symm.trans h
    refine j_iconst C dX6_isAlarm_20 ((0 : Int32)) (by decide) ?_
    exact j_zreturn C (by decide) dX6_isAlarm_21 (e_i h hg) (by decide) (by decide)
  · have h := (if_pos c4).symm.trans h
    refine j_aload_n C dX6_isAlarm_8 0 rfl ?_
    refine j_iload_n C dX6_isAlarm_9 1 rfl ?_
    obtain ⟨⟨r5, σ6⟩, h7, h⟩ := ob h
    try dsimp only at h
    refine j_callV C X (c_X6_alarms n G σ2 o0 a1 ho0 _ _ h7) dX6_isAlarm_10 (gV u_354 u_356 u_357 u_315 u_355) rfl hy_X6_alarms rfl ho0 rfl (ci := 10) rfl rfl rfl (by decide) (Nat.le_of_ble_eq_true rfl) (by decide) ?_
    refine j_if_eq C dX6_isAlarm_13 20 (by decide) (fun c8 => ?_) (fun c8 => ?_)
    · have h := (if_pos c8).symm.trans h
      refine j_iconst C dX6_isAlarm_20 ((0 : Int32)) (by decide) ?_
      exact j_zreturn C (by decide) dX6_isAlarm_21 (e_i h hg) (by decide) (by decide)
    · have h := (if_neg c8).symm.trans h
      refine j_iconst C dX6_isAlarm_16 ((1 : Int32)) (by decide) ?_
      refine j_goto C dX6_isAlarm_17 21 (by decide) ?_
      exact j_zreturn C (by decide) dX6_isAlarm_21 (e_i h hg) (by decide) (by decide)
def sp_X6_gasTotal (n : Nat) (σ : Mem) (o0 : Nat) : Option (Int32 × Mem) := (lm (wi σ o0 14 (0 : Int32)) fun σ1 => if inR (70 : Int32) 73 then some ((σ1.1 (rf o0 11) ((70 : Int32)).toNatClampNeg), σ1) else none)
abbrev rm_X6_gasTotal : Room := ({ frames := 10, cells := 0, slots := 0, locals := 200 } : Room)
abbrev wu_X6_gasTotal : List Cond := (Cond.code yX6_gasTotal cX6_gasTotal 1 (some .int)) :: wsU
theorem hy_X6_gasTotal : hyOk yX6_gasTotal 0 := by decide +kernel
set_option maxRecDepth 20000 in
set_option maxHeartbeats 4000000 in
theorem c_X6_gasTotal (n : Nat) (G : Gt) (σ : Mem) (o0 : Nat) (ho0 : Ok o0 6) (r : Int32) (σ' : Mem) (h : sp_X6_gasTotal n σ o0 = some (r, σ')) : MM yX6_gasTotal wu_X6_gasTotal rm_X6_gasTotal [.ref (G.2.2 (o0))] G σ (.inl (some (.int r))) σ' := by
  refine mm_of (cc := cX6_gasTotal) (maxL := 1) (ret := (some .int)) (by decide +kernel) rfl (Nat.le_of_ble_eq_true rfl) (fun x C X hg => ?_)
  have C : Cx x cX6_gasTotal 1 RX6 (some .int) [] wu_X6_gasTotal rm_X6_gasTotal G.1 (tysF G) := C
  unfold sp_X6_gasTotal at h
  show J x [(0, .ref (G.2.2 (o0)))] [] σ 0 0 0
  refine j_aload_n C dX6_gasTotal_0 0 rfl ?_
  refine j_iconst C dX6_gasTotal_1 ((0 : Int32)) (by decide) ?_
  obtain ⟨σ1, e2, h⟩ := lm_e h
  refine j_put C X dX6_gasTotal_2 ho0 (ty0 := tyX6) rfl rfl 14 (by decide) rfl rfl (Nat.le_of_ble_eq_true rfl) tyX6_ok nmX6 (ty := .int) rfl rfl rfl in_X6 (mU u_312) e2 ?_
  refine j_aload_n C dX6_gasTotal_5 0 rfl ?_
  refine j_get C X dX6_gasTotal_6 ho0 rfl rfl 11 (by decide) (fin := false) rfl rfl in_X6 (mU u_327) ?_
  refine j_bipush C dX6_gasTotal_9 ((70 : Int32)) (by decide) ?_
  obtain ⟨g3, h⟩ := sg h
  refine j_iald C X dX6_gasTotal_11 (sh_6_11 ho0) (n := 73) rfl g3 ?_
  exact j_ireturn C dX6_gasTotal_12 (e_i h hg) (by decide) (by decide)
def sp_X6_ventedTotal (n : Nat) (σ : Mem) (o0 : Nat) : Option (Int32 × Mem) := (lm (wi σ o0 14 (0 : Int32)) fun σ1 => if inR (71 : Int32) 73 then some ((σ1.1 (rf o0 11) ((71 : Int32)).toNatClampNeg), σ1) else none)
abbrev rm_X6_ventedTotal : Room := ({ frames := 10, cells := 0, slots := 0, locals := 200 } : Room)
abbrev wu_X6_ventedTotal : List Cond := (Cond.code yX6_ventedTotal cX6_ventedTotal 1 (some .int)) :: wsU
theorem hy_X6_ventedTotal : hyOk yX6_ventedTotal 0 := by decide +kernel
set_option maxRecDepth 20000 in
set_option maxHeartbeats 4000000 in
theorem c_X6_ventedTotal (n : Nat) (G : Gt) (σ : Mem) (o0 : Nat) (ho0 : Ok o0 6) (r : Int32) (σ' : Mem) (h : sp_X6_ventedTotal n σ o0 = some (r, σ')) : MM yX6_ventedTotal wu_X6_ventedTotal rm_X6_ventedTotal [.ref (G.2.2 (o0))] G σ (.inl (some (.int r))) σ' := by
  refine mm_of (cc := cX6_ventedTotal) (maxL := 1) (ret := (some .int)) (by decide +kernel) rfl (Nat.le_of_ble_eq_true rfl) (fun x C X hg => ?_)
  have C : Cx x cX6_ventedTotal 1 RX6 (some .int) [] wu_X6_ventedTotal rm_X6_ventedTotal G.1 (tysF G) := C
  unfold sp_X6_ventedTotal at h
  show J x [(0, .ref (G.2.2 (o0)))] [] σ 0 0 0
  refine j_aload_n C dX6_ventedTotal_0 0 rfl ?_
  refine j_iconst C dX6_ventedTotal_1 ((0 : Int32)) (by decide) ?_
  obtain ⟨σ1, e2, h⟩ := lm_e h
  refine j_put C X dX6_ventedTotal_2 ho0 (ty0 := tyX6) rfl rfl 14 (by decide) rfl rfl (Nat.le_of_ble_eq_true rfl) tyX6_ok nmX6 (ty := .int) rfl rfl rfl in_X6 (mU u_312) e2 ?_
  refine j_aload_n C dX6_ventedTotal_5 0 rfl ?_
  refine j_get C X dX6_ventedTotal_6 ho0 rfl rfl 11 (by decide) (fin := false) rfl rfl in_X6 (mU u_327) ?_
  refine j_bipush C dX6_ventedTotal_9 ((71 : Int32)) (by decide) ?_
  obtain ⟨g3, h⟩ := sg h
  refine j_iald C X dX6_ventedTotal_11 (sh_6_11 ho0) (n := 73) rfl g3 ?_
  exact j_ireturn C dX6_ventedTotal_12 (e_i h hg) (by decide) (by decide)
def lp_X6_meanShare_20 (n : Nat) (o0 : Nat) : Nat → Mem → Int32 → Int32 → Option ((Int32 × Int32) × Mem)
  | 0, _, _, _ => none
  | k + 1, σ, l1, l2 => if (σ.1 o0 0) < l2 then if (σ.1 o0 14) ≤ 0 then if ¬ (σ.1 o0 0) = 0 then some ((l1, (σ.1 o0 0)), σ) else none else some (((0 : Int32), (1 : Int32)), σ) else ((sp_X6_share n σ o0 l2).bind fun q => match q with | (r7, σ8) => lp_X6_meanShare_20 n o0 k σ8 ((l1 + r7)) ((l2 + (1 : Int32))))
theorem lp_X6_meanShare_20_s (n : Nat) (o0 : Nat) (k : Nat) (σ : Mem) (l1 : Int32) (l2 : Int32) : lp_X6_meanShare_20 n o0 (k + 1) σ l1 l2 = (if (σ.1 o0 0) < l2 then if (σ.1 o0 14) ≤ 0 then if ¬ (σ.1 o0 0) = 0 then some ((l1, (σ.1 o0 0)), σ) else none else some (((0 : Int32), (1 : Int32)), σ) else ((sp_X6_share n σ o0 l2).bind fun q => match q with | (r7, σ8) => lp_X6_meanShare_20 n o0 k σ8 ((l1 + r7)) ((l2 + (1 : Int32))))) := rfl
def sp_X6_meanShare (n : Nat) (σ : Mem) (o0 : Nat) : Option ((Int32 × Int32) × Mem) := if (σ.1 o0 0) = 0 then (lm (wi σ o0 14 (1 : Int32)) fun σ10 => lp_X6_meanShare_20 n o0 n σ10 ((0 : Int32)) ((1 : Int32))) else (lm (wi σ o0 14 (0 : Int32)) fun σ2 => lp_X6_meanShare_20 n o0 n σ2 ((0 : Int32)) ((1 : Int32)))
abbrev rm_X6_meanShare : Room := ({ frames := 11, cells := 0, slots := 0, locals := 221 } : Room)
abbrev wu_X6_meanShare : List Cond := (Cond.code yX6_meanShare cX6_meanShare 3 (some .double)) :: wsU
theorem hy_X6_meanShare : hyOk yX6_meanShare 0 := by decide +kernel
set_option maxRecDepth 20000 in
set_option maxHeartbeats 4000000 in
theorem c_X6_meanShare (n : Nat) (G : Gt) (σ : Mem) (o0 : Nat) (ho0 : Ok o0 6) (r : Int32 × Int32) (σ' : Mem) (h : sp_X6_meanShare n σ o0 = some (r, σ')) : MM yX6_meanShare wu_X6_meanShare rm_X6_meanShare [.ref (G.2.2 (o0))] G σ (.inl (some (.double (dq r.1 r.2)))) σ' := by
  refine mm_of (cc := cX6_meanShare) (maxL := 3) (ret := (some .double)) (by decide +kernel) rfl (Nat.le_of_ble_eq_true rfl) (fun x C X hg => ?_)
  have C : Cx x cX6_meanShare 3 RX6 (some .double) [] wu_X6_meanShare rm_X6_meanShare G.1 (tysF G) := C
  have LP20 : ∀ (k : Nat) (σ : Mem) (l1 : Int32) (l2 : Int32), lp_X6_meanShare_20 n o0 k σ l1 l2 = some (r, σ') → J x [(0, .ref (G.2.2 (o0))), (1, .int (l1)), (2, .int (l2))] [] σ 20 0 0 := by
    intro k
    induction k with
    | zero => intro σ l1 l2  h; cases h
    | succ k ih =>
    intro σ l1 l2  h
    rw [lp_X6_meanShare_20_s] at h
    refine j_iload_n C dX6_meanShare_20 2 rfl ?_
    refine j_aload_n C dX6_meanShare_21 0 rfl ?_
    refine j_get C X dX6_meanShare_22 ho0 rfl rfl 0 (by decide) (fin := false) rfl rfl in_X6 (mU u_313) ?_
    refine j_icmp_gt C dX6_meanShare_25 42 (by decide) (fun c4 => ?_) (fun c4 => ?_)
    · have h := (if_pos c4).symm.trans h
      refine j_aload_n C dX6_meanShare_42 0 rfl ?_
      refine j_get C X dX6_meanShare_43 ho0 rfl rfl 14 (by decide) (fin := false) rfl rfl in_X6 (mU u_312) ?_
      refine j_if_le C dX6_meanShare_46 53 (by decide) (fun c5 => ?_) (fun c5 => ?_)
      · have h := (if_pos c5).symm.trans h
        refine j_iload_n C dX6_meanShare_53 1 rfl ?_
        refine j_i2d C dX6_meanShare_54 ?_
        refine j_aload_n C dX6_meanShare_55 0 rfl ?_
        refine j_get C X dX6_meanShare_56 ho0 rfl rfl 0 (by decide) (fin := false) rfl rfl in_X6 (mU u_313) ?_
        refine j_i2d C dX6_meanShare_59 ?_
        obtain ⟨g6, h⟩ := sg h
        refine j_ddiv C dX6_meanShare_60 (dq_ok g6) ?_
        exact j_dreturn C dX6_meanShare_61 (e_d h hg) (by decide) (by decide)
      · have h := (if_neg c5).symm.trans h
        refine j_dconst0q C dX6_meanShare_49 ?_
        refine j_goto C dX6_meanShare_50 61 (by decide) ?_
        exact j_dreturn C dX6_meanShare_61 (e_d h hg) (by decide) (by decide)
    · have h := (if_neg c4).symm.trans h
      refine j_iload_n C dX6_meanShare_28 1 rfl ?_
      refine j_aload_n C dX6_meanShare_29 0 rfl ?_
      refine j_iload_n C dX6_meanShare_30 2 rfl ?_
      obtain ⟨⟨r7, σ8⟩, h9, h⟩ := ob h
      try dsimp only at h
      refine j_callV C X (c_X6_share n G σ o0 l2 ho0 _ _ h9) dX6_meanShare_31 (gV u_350 u_352 u_353 u_315 u_351) rfl hy_X6_share rfl ho0 rfl (ci := 10) rfl rfl rfl (by decide) (Nat.le_of_ble_eq_true rfl) (by decide) ?_
      refine j_iadd C dX6_meanShare_34 ?_
      refine j_istore_n C dX6_meanShare_35 (by decide) [(1, .int ((l1 + r7))), (0, .ref (G.2.2 (o0))), (2, .int (l2))] rfl ?_
      refine j_iinc C dX6_meanShare_36 2 rfl ((1 : Int32)) (by decide) (by decide) [(2, .int ((l2 + (1 : Int32)))), (1, .int ((l1 + r7))), (0, .ref (G.2.2 (o0)))] rfl ?_
      refine j_goto C dX6_meanShare_39 20 (by decide) ?_
      refine j_sub [2, 1, 0] [(0, .ref (G.2.2 (o0))), (1, .int ((l1 + r7))), (2, .int ((l2 + (1 : Int32))))] rfl ?_
      exact ih σ8 ((l1 + r7)) ((l2 + (1 : Int32)))  h
  unfold sp_X6_meanShare at h
  show J x [(0, .ref (G.2.2 (o0)))] [] σ 0 0 0
  refine j_aload_n C dX6_meanShare_0 0 rfl ?_
  refine j_aload_n C dX6_meanShare_1 0 rfl ?_
  refine j_get C X dX6_meanShare_2 ho0 rfl rfl 0 (by decide) (fin := false) rfl rfl in_X6 (mU u_313) ?_
  refine j_if_ne C dX6_meanShare_5 12 (by decide) (fun c1 => ?_) (fun c1 => ?_)
  · have h := (if_neg c1).symm.trans h
    refine j_iconst C dX6_meanShare_12 ((0 : Int32)) (by decide) ?_
    obtain ⟨σ2, e3, h⟩ := lm_e h
    refine j_put C X dX6_meanShare_13 ho0 (ty0 := tyX6) rfl rfl 14 (by decide) rfl rfl (Nat.le_of_ble_eq_true rfl) tyX6_ok nmX6 (ty := .int) rfl rfl rfl in_X6 (mU u_312) e3 ?_
    refine j_iconst C dX6_meanShare_16 ((0 : Int32)) (by decide) ?_
    refine j_istore_n C dX6_meanShare_17 (by decide) [(1, .int ((0 : Int32))), (0, .ref (G.2.2 (o0)))] rfl ?_
    refine j_iconst C dX6_meanShare_18 ((1 : Int32)) (by decide) ?_
    refine j_istore_n C dX6_meanShare_19 (by decide) [(2, .int ((1 : Int32))), (1, .int ((0 : Int32))), (0, .ref (G.2.2 (o0)))] rfl ?_
    refine j_sub [2, 1, 0] [(0, .ref (G.2.2 (o0))), (1, .int ((0 : Int32))), (2, .int ((1 : Int32)))] rfl ?_
    exact LP20 n σ2 ((0 : Int32)) ((1 : Int32))  h
  · have h := (if_pos c1).symm.trans h
    refine j_iconst C dX6_meanShare_8 ((1 : Int32)) (by decide) ?_
    refine j_goto C dX6_meanShare_9 13 (by decide) ?_
    obtain ⟨σ10, e11, h⟩ := lm_e h
    refine j_put C X dX6_meanShare_13 ho0 (ty0 := tyX6) rfl rfl 14 (by decide) rfl rfl (Nat.le_of_ble_eq_true rfl) tyX6_ok nmX6 (ty := .int) rfl rfl rfl in_X6 (mU u_312) e11 ?_
    refine j_iconst C dX6_meanShare_16 ((0 : Int32)) (by decide) ?_
    refine j_istore_n C dX6_meanShare_17 (by decide) [(1, .int ((0 : Int32))), (0, .ref (G.2.2 (o0)))] rfl ?_
    refine j_iconst C dX6_meanShare_18 ((1 : Int32)) (by decide) ?_
    refine j_istore_n C dX6_meanShare_19 (by decide) [(2, .int ((1 : Int32))), (1, .int ((0 : Int32))), (0, .ref (G.2.2 (o0)))] rfl ?_
    refine j_sub [2, 1, 0] [(0, .ref (G.2.2 (o0))), (1, .int ((0 : Int32))), (2, .int ((1 : Int32)))] rfl ?_
    exact LP20 n σ10 ((0 : Int32)) ((1 : Int32))  h
def lp_X6_keeps_2 (n : Nat) (o0 : Nat) : Nat → Mem → Int32 → Option (Unit × Mem)
  | 0, _, _ => none
  | k + 1, σ, l1 => if (73 : Int32) ≤ l1 then some ((), σ) else if inR l1 73 then if inR l1 73 then (lm (wi σ (rf o0 12) (l1).toNatClampNeg (σ.1 (rf o0 11) (l1).toNatClampNeg)) fun σ4 => lp_X6_keeps_2 n o0 k σ4 ((l1 + (1 : Int32)))) else none else none
theorem lp_X6_keeps_2_s (n : Nat) (o0 : Nat) (k : Nat) (σ : Mem) (l1 : Int32) : lp_X6_keeps_2 n o0 (k + 1) σ l1 = (if (73 : Int32) ≤ l1 then some ((), σ) else if inR l1 73 then if inR l1 73 then (lm (wi σ (rf o0 12) (l1).toNatClampNeg (σ.1 (rf o0 11) (l1).toNatClampNeg)) fun σ4 => lp_X6_keeps_2 n o0 k σ4 ((l1 + (1 : Int32)))) else none else none) := rfl
def sp_X6_keeps (n : Nat) (σ : Mem) (o0 : Nat) : Option (Unit × Mem) := lp_X6_keeps_2 n o0 n σ ((0 : Int32))
abbrev rm_X6_keeps : Room := ({ frames := 10, cells := 0, slots := 0, locals := 200 } : Room)
abbrev wu_X6_keeps : List Cond := (Cond.code yX6_keeps cX6_keeps 2 none) :: wsU
theorem hy_X6_keeps : hyOk yX6_keeps 0 := by decide +kernel
set_option maxRecDepth 20000 in
set_option maxHeartbeats 4000000 in
theorem c_X6_keeps (n : Nat) (G : Gt) (σ : Mem) (o0 : Nat) (ho0 : Ok o0 6) (r : Unit) (σ' : Mem) (h : sp_X6_keeps n σ o0 = some (r, σ')) : MM yX6_keeps wu_X6_keeps rm_X6_keeps [.ref (G.2.2 (o0))] G σ (.inl none) σ' := by
  refine mm_of (cc := cX6_keeps) (maxL := 2) (ret := none) (by decide +kernel) rfl (Nat.le_of_ble_eq_true rfl) (fun x C X hg => ?_)
  have C : Cx x cX6_keeps 2 RX6 none [] wu_X6_keeps rm_X6_keeps G.1 (tysF G) := C
  have LP2 : ∀ (k : Nat) (σ : Mem) (l1 : Int32), lp_X6_keeps_2 n o0 k σ l1 = some (r, σ') → J x [(0, .ref (G.2.2 (o0))), (1, .int (l1))] [] σ 2 0 0 := by
    intro k
    induction k with
    | zero => intro σ l1  h; cases h
    | succ k ih =>
    intro σ l1  h
    rw [lp_X6_keeps_2_s] at h
    refine j_iload_n C dX6_keeps_2 1 rfl ?_
    refine j_bipush C dX6_keeps_3 ((73 : Int32)) (by decide) ?_
    refine j_icmp_ge C dX6_keeps_5 26 (by decide) (fun c1 => ?_) (fun c1 => ?_)
    · have h := (if_pos c1).symm.trans h
      exact j_return C dX6_keeps_26 (e_v h hg) (by decide) (by decide)
    · have h := (if_neg c1).symm.trans h
      refine j_aload_n C dX6_keeps_8 0 rfl ?_
      refine j_get C X dX6_keeps_9 ho0 rfl rfl 12 (by decide) (fin := true) rfl rfl in_X6 (mU u_358) ?_
      refine j_iload_n C dX6_keeps_12 1 rfl ?_
      refine j_aload_n C dX6_keeps_13 0 rfl ?_
      refine j_get C X dX6_keeps_14 ho0 rfl rfl 11 (by decide) (fin := false) rfl rfl in_X6 (mU u_327) ?_
      refine j_iload_n C dX6_keeps_17 1 rfl ?_
      obtain ⟨g2, h⟩ := sg h
      refine j_iald C X dX6_keeps_18 (sh_6_11 ho0) (n := 73) rfl g2 ?_
      obtain ⟨g3, h⟩ := sg h
      obtain ⟨σ4, e5, h⟩ := lm_e h
      refine j_iast C X dX6_keeps_19 (sh_6_12 ho0) (n := 73) (fun _ => rfl) g3 e5 ?_
      refine j_iinc C dX6_keeps_20 1 rfl ((1 : Int32)) (by decide) (by decide) [(1, .int ((l1 + (1 : Int32)))), (0, .ref (G.2.2 (o0)))] rfl ?_
      refine j_goto C dX6_keeps_23 2 (by decide) ?_
      refine j_sub [1, 0] [(0, .ref (G.2.2 (o0))), (1, .int ((l1 + (1 : Int32))))] rfl ?_
      exact ih σ4 ((l1 + (1 : Int32)))  h
  unfold sp_X6_keeps at h
  show J x [(0, .ref (G.2.2 (o0)))] [] σ 0 0 0
  refine j_iconst C dX6_keeps_0 ((0 : Int32)) (by decide) ?_
  refine j_istore_n C dX6_keeps_1 (by decide) [(1, .int ((0 : Int32))), (0, .ref (G.2.2 (o0)))] rfl ?_
  refine j_sub [1, 0] [(0, .ref (G.2.2 (o0))), (1, .int ((0 : Int32)))] rfl ?_
  exact LP2 n σ ((0 : Int32))  h
def lp_X6_goesBack_2 (n : Nat) (o0 : Nat) : Nat → Mem → Int32 → Option (Unit × Mem)
  | 0, _, _ => none
  | k + 1, σ, l1 => if (73 : Int32) ≤ l1 then some ((), σ) else if inR l1 73 then if inR l1 73 then (lm (wi σ (rf o0 11) (l1).toNatClampNeg (σ.1 (rf o0 12) (l1).toNatClampNeg)) fun σ4 => lp_X6_goesBack_2 n o0 k σ4 ((l1 + (1 : Int32)))) else none else none
theorem lp_X6_goesBack_2_s (n : Nat) (o0 : Nat) (k : Nat) (σ : Mem) (l1 : Int32) : lp_X6_goesBack_2 n o0 (k + 1) σ l1 = (if (73 : Int32) ≤ l1 then some ((), σ) else if inR l1 73 then if inR l1 73 then (lm (wi σ (rf o0 11) (l1).toNatClampNeg (σ.1 (rf o0 12) (l1).toNatClampNeg)) fun σ4 => lp_X6_goesBack_2 n o0 k σ4 ((l1 + (1 : Int32)))) else none else none) := rfl
def sp_X6_goesBack (n : Nat) (σ : Mem) (o0 : Nat) : Option (Unit × Mem) := lp_X6_goesBack_2 n o0 n σ ((0 : Int32))
abbrev rm_X6_goesBack : Room := ({ frames := 10, cells := 0, slots := 0, locals := 200 } : Room)
abbrev wu_X6_goesBack : List Cond := (Cond.code yX6_goesBack cX6_goesBack 2 none) :: wsU
theorem hy_X6_goesBack : hyOk yX6_goesBack 0 := by decide +kernel
set_option maxRecDepth 20000 in
set_option maxHeartbeats 4000000 in
theorem c_X6_goesBack (n : Nat) (G : Gt) (σ : Mem) (o0 : Nat) (ho0 : Ok o0 6) (r : Unit) (σ' : Mem) (h : sp_X6_goesBack n σ o0 = some (r, σ')) : MM yX6_goesBack wu_X6_goesBack rm_X6_goesBack [.ref (G.2.2 (o0))] G σ (.inl none) σ' := by
  refine mm_of (cc := cX6_goesBack) (maxL := 2) (ret := none) (by decide +kernel) rfl (Nat.le_of_ble_eq_true rfl) (fun x C X hg => ?_)
  have C : Cx x cX6_goesBack 2 RX6 none [] wu_X6_goesBack rm_X6_goesBack G.1 (tysF G) := C
  have LP2 : ∀ (k : Nat) (σ : Mem) (l1 : Int32), lp_X6_goesBack_2 n o0 k σ l1 = some (r, σ') → J x [(0, .ref (G.2.2 (o0))), (1, .int (l1))] [] σ 2 0 0 := by
    intro k
    induction k with
    | zero => intro σ l1  h; cases h
    | succ k ih =>
    intro σ l1  h
    rw [lp_X6_goesBack_2_s] at h
    refine j_iload_n C dX6_goesBack_2 1 rfl ?_
    refine j_bipush C dX6_goesBack_3 ((73 : Int32)) (by decide) ?_
    refine j_icmp_ge C dX6_goesBack_5 26 (by decide) (fun c1 => ?_) (fun c1 => ?_)
    · have h := (if_pos c1).symm.trans h
      exact j_return C dX6_goesBack_26 (e_v h hg) (by decide) (by decide)
    · have h := (if_neg c1).symm.trans h
      refine j_aload_n C dX6_goesBack_8 0 rfl ?_
      refine j_get C X dX6_goesBack_9 ho0 rfl rfl 11 (by decide) (fin := false) rfl rfl in_X6 (mU u_327) ?_
      refine j_iload_n C dX6_goesBack_12 1 rfl ?_
      refine j_aload_n C dX6_goesBack_13 0 rfl ?_
      refine j_get C X dX6_goesBack_14 ho0 rfl rfl 12 (by decide) (fin := true) rfl rfl in_X6 (mU u_358) ?_
      refine j_iload_n C dX6_goesBack_17 1 rfl ?_
      obtain ⟨g2, h⟩ := sg h
      refine j_iald C X dX6_goesBack_18 (sh_6_12 ho0) (n := 73) rfl g2 ?_
      obtain ⟨g3, h⟩ := sg h
      obtain ⟨σ4, e5, h⟩ := lm_e h
      refine j_iast C X dX6_goesBack_19 (sh_6_11 ho0) (n := 73) (fun _ => rfl) g3 e5 ?_
      refine j_iinc C dX6_goesBack_20 1 rfl ((1 : Int32)) (by decide) (by decide) [(1, .int ((l1 + (1 : Int32)))), (0, .ref (G.2.2 (o0)))] rfl ?_
      refine j_goto C dX6_goesBack_23 2 (by decide) ?_
      refine j_sub [1, 0] [(0, .ref (G.2.2 (o0))), (1, .int ((l1 + (1 : Int32))))] rfl ?_
      exact ih σ4 ((l1 + (1 : Int32)))  h
  unfold sp_X6_goesBack at h
  show J x [(0, .ref (G.2.2 (o0)))] [] σ 0 0 0
  refine j_iconst C dX6_goesBack_0 ((0 : Int32)) (by decide) ?_
  refine j_istore_n C dX6_goesBack_1 (by decide) [(1, .int ((0 : Int32))), (0, .ref (G.2.2 (o0)))] rfl ?_
  refine j_sub [1, 0] [(0, .ref (G.2.2 (o0))), (1, .int ((0 : Int32)))] rfl ?_
  exact LP2 n σ ((0 : Int32))  h
def lp_X6_gases_51 (n : Nat) (o0 : Nat) : Nat → Mem → Int32 → Option (Unit × Mem)
  | 0, _, _ => none
  | k + 1, σ, l1 => if (σ.1 o0 0) < l1 then some ((), σ) else if inR ((0 : Int32) + l1) 73 then ((sp_X6_air n σ o0 l1).bind fun q => match q with | (r4, σ5) => if inR l1 7 then if inR l1 7 then if ¬ (σ5.1 (rf o0 2) (l1).toNatClampNeg) = 0 then if inR ((0 : Int32) + l1) 73 then if inR ((0 : Int32) + l1) 73 then (lm (wi σ5 (rf o0 11) (((0 : Int32) + l1)).toNatClampNeg ((σ5.1 (rf o0 11) (((0 : Int32) + l1)).toNatClampNeg) - (((σ.1 (rf o0 11) (((0 : Int32) + l1)).toNatClampNeg) * (if (σ5.1 (rf o0 2) (l1).toNatClampNeg) < r4 then (σ5.1 (rf o0 2) (l1).toNatClampNeg) else r4)) / (σ5.1 (rf o0 2) (l1).toNatClampNeg)))) fun σ12 => if inR (71 : Int32) 73 then if inR (71 : Int32) 73 then (lm (wi σ12 (rf o0 11) ((71 : Int32)).toNatClampNeg ((σ12.1 (rf o0 11) ((71 : Int32)).toNatClampNeg) + (((σ.1 (rf o0 11) (((0 : Int32) + l1)).toNatClampNeg) * (if (σ5.1 (rf o0 2) (l1).toNatClampNeg) < r4 then (σ5.1 (rf o0 2) (l1).toNatClampNeg) else r4)) / (σ5.1 (rf o0 2) (l1).toNatClampNeg)))) fun σ16 => lp_X6_gases_51 n o0 k σ16 ((l1 + (1 : Int32)))) else none else none) else none else none else none else none else none) else none
theorem lp_X6_gases_51_s (n : Nat) (o0 : Nat) (k : Nat) (σ : Mem) (l1 : Int32) : lp_X6_gases_51 n o0 (k + 1) σ l1 = (if (σ.1 o0 0) < l1 then some ((), σ) else if inR ((0 : Int32) + l1) 73 then ((sp_X6_air n σ o0 l1).bind fun q => match q with | (r4, σ5) => if inR l1 7 then if inR l1 7 then if ¬ (σ5.1 (rf o0 2) (l1).toNatClampNeg) = 0 then if inR ((0 : Int32) + l1) 73 then if inR ((0 : Int32) + l1) 73 then (lm (wi σ5 (rf o0 11) (((0 : Int32) + l1)).toNatClampNeg ((σ5.1 (rf o0 11) (((0 : Int32) + l1)).toNatClampNeg) - (((σ.1 (rf o0 11) (((0 : Int32) + l1)).toNatClampNeg) * (if (σ5.1 (rf o0 2) (l1).toNatClampNeg) < r4 then (σ5.1 (rf o0 2) (l1).toNatClampNeg) else r4)) / (σ5.1 (rf o0 2) (l1).toNatClampNeg)))) fun σ12 => if inR (71 : Int32) 73 then if inR (71 : Int32) 73 then (lm (wi σ12 (rf o0 11) ((71 : Int32)).toNatClampNeg ((σ12.1 (rf o0 11) ((71 : Int32)).toNatClampNeg) + (((σ.1 (rf o0 11) (((0 : Int32) + l1)).toNatClampNeg) * (if (σ5.1 (rf o0 2) (l1).toNatClampNeg) < r4 then (σ5.1 (rf o0 2) (l1).toNatClampNeg) else r4)) / (σ5.1 (rf o0 2) (l1).toNatClampNeg)))) fun σ16 => lp_X6_gases_51 n o0 k σ16 ((l1 + (1 : Int32)))) else none else none) else none else none else none else none else none) else none) := rfl
def lp_X6_gases_2 (n : Nat) (o0 : Nat) : Nat → Mem → Int32 → Option (Unit × Mem)
  | 0, _, _ => none
  | k + 1, σ, l1 => if (σ.1 o0 0) < l1 then lp_X6_gases_51 n o0 n σ ((1 : Int32)) else if inR ((0 : Int32) + l1) 73 then if inR l1 7 then if inR ((0 : Int32) + l1) 73 then (lm (wi σ (rf o0 11) (((0 : Int32) + l1)).toNatClampNeg ((σ.1 (rf o0 11) (((0 : Int32) + l1)).toNatClampNeg) + (σ.1 (rf o0 4) (l1).toNatClampNeg))) fun σ21 => if inR (70 : Int32) 73 then if inR l1 7 then if inR (70 : Int32) 73 then (lm (wi σ21 (rf o0 11) ((70 : Int32)).toNatClampNeg ((σ21.1 (rf o0 11) ((70 : Int32)).toNatClampNeg) + (σ21.1 (rf o0 4) (l1).toNatClampNeg))) fun σ26 => lp_X6_gases_2 n o0 k σ26 ((l1 + (1 : Int32)))) else none else none else none) else none else none else none
theorem lp_X6_gases_2_s (n : Nat) (o0 : Nat) (k : Nat) (σ : Mem) (l1 : Int32) : lp_X6_gases_2 n o0 (k + 1) σ l1 = (if (σ.1 o0 0) < l1 then lp_X6_gases_51 n o0 n σ ((1 : Int32)) else if inR ((0 : Int32) + l1) 73 then if inR l1 7 then if inR ((0 : Int32) + l1) 73 then (lm (wi σ (rf o0 11) (((0 : Int32) + l1)).toNatClampNeg ((σ.1 (rf o0 11) (((0 : Int32) + l1)).toNatClampNeg) + (σ.1 (rf o0 4) (l1).toNatClampNeg))) fun σ21 => if inR (70 : Int32) 73 then if inR l1 7 then if inR (70 : Int32) 73 then (lm (wi σ21 (rf o0 11) ((70 : Int32)).toNatClampNeg ((σ21.1 (rf o0 11) ((70 : Int32)).toNatClampNeg) + (σ21.1 (rf o0 4) (l1).toNatClampNeg))) fun σ26 => lp_X6_gases_2 n o0 k σ26 ((l1 + (1 : Int32)))) else none else none else none) else none else none else none) := rfl
def sp_X6_gases (n : Nat) (σ : Mem) (o0 : Nat) : Option (Unit × Mem) := lp_X6_gases_2 n o0 n σ ((1 : Int32))
abbrev rm_X6_gases : Room := ({ frames := 12, cells := 0, slots := 0, locals := 248 } : Room)
abbrev wu_X6_gases : List Cond := (Cond.code yX6_gases cX6_gases 3 none) :: wsU
theorem hy_X6_gases : hyOk yX6_gases 0 := by decide +kernel
set_option maxRecDepth 20000 in
set_option maxHeartbeats 4000000 in
theorem c_X6_gases (n : Nat) (G : Gt) (σ : Mem) (o0 : Nat) (ho0 : Ok o0 6) (r : Unit) (σ' : Mem) (h : sp_X6_gases n σ o0 = some (r, σ')) : MM yX6_gases wu_X6_gases rm_X6_gases [.ref (G.2.2 (o0))] G σ (.inl none) σ' := by
  refine mm_of (cc := cX6_gases) (maxL := 3) (ret := none) (by decide +kernel) rfl (Nat.le_of_ble_eq_true rfl) (fun x C X hg => ?_)
  have C : Cx x cX6_gases 3 RX6 none [] wu_X6_gases rm_X6_gases G.1 (tysF G) := C
  have LP51 : ∀ (k : Nat) (σ : Mem) (l1 : Int32), lp_X6_gases_51 n o0 k σ l1 = some (r, σ') → J x [(0, .ref (G.2.2 (o0))), (1, .int (l1))] [] σ 51 0 0 := by
    intro k
    induction k with
    | zero => intro σ l1  h; cases h
    | succ k ih =>
    intro σ l1  h
    rw [lp_X6_gases_51_s] at h
    refine j_iload_n C dX6_gases_51 1 rfl ?_
    refine j_aload_n C dX6_gases_52 0 rfl ?_
    refine j_get C X dX6_gases_53 ho0 rfl rfl 0 (by decide) (fin := false) rfl rfl in_X6 (mU u_313) ?_
    refine j_icmp_gt C dX6_gases_56 119 (by decide) (fun c2 => ?_) (fun c2 => ?_)
    · have h := (if_pos c2).symm.trans h
      exact j_return C dX6_gases_119 (e_v h hg) (by decide) (by decide)
    · have h := (if_neg c2).symm.trans h
      refine j_aload_n C dX6_gases_59 0 rfl ?_
      refine j_get C X dX6_gases_60 ho0 rfl rfl 11 (by decide) (fin := false) rfl rfl in_X6 (mU u_327) ?_
      refine j_iconst C dX6_gases_63 ((0 : Int32)) (by decide) ?_
      refine j_iload_n C dX6_gases_64 1 rfl ?_
      refine j_iadd C dX6_gases_65 ?_
      obtain ⟨g3, h⟩ := sg h
      refine j_iald C X dX6_gases_66 (sh_6_11 ho0) (n := 73) rfl g3 ?_
      refine j_aload_n C dX6_gases_67 0 rfl ?_
      refine j_iload_n C dX6_gases_68 1 rfl ?_
      obtain ⟨⟨r4, σ5⟩, h6, h⟩ := ob h
      try dsimp only at h
      refine j_callV C X (c_X6_air n G σ o0 l1 ho0 _ _ h6) dX6_gases_69 (gV u_341 u_343 u_344 u_315 u_342) rfl hy_X6_air rfl ho0 rfl (ci := 10) rfl rfl rfl (by decide) (Nat.le_of_ble_eq_true rfl) (by decide) ?_
      refine j_aload_n C dX6_gases_72 0 rfl ?_
      refine j_get C X dX6_gases_73 ho0 rfl rfl 2 (by decide) (fin := true) rfl rfl in_X6 (mU u_323) ?_
      refine j_iload_n C dX6_gases_76 1 rfl ?_
      obtain ⟨g7, h⟩ := sg h
      refine j_iald C X dX6_gases_77 (sh_6_2 ho0) (n := 7) rfl g7 ?_
      refine j_mmin C dX6_gases_78 (mU u_359) (mU u_12) (mU u_13) (mU u_14) (by decide) (Nat.le_of_ble_eq_true rfl) (Nat.le_of_ble_eq_true rfl) (Nat.le_of_ble_eq_true rfl) ?_
      refine j_imul C dX6_gases_81 ?_
      refine j_aload_n C dX6_gases_82 0 rfl ?_
      refine j_get C X dX6_gases_83 ho0 rfl rfl 2 (by decide) (fin := true) rfl rfl in_X6 (mU u_323) ?_
      refine j_iload_n C dX6_gases_86 1 rfl ?_
      obtain ⟨g8, h⟩ := sg h
      refine j_iald C X dX6_gases_87 (sh_6_2 ho0) (n := 7) rfl g8 ?_
      obtain ⟨g9, h⟩ := sg h
      refine j_idiv C dX6_gases_88 g9 ?_
      refine j_istore_n C dX6_gases_89 (by decide) [(2, .int ((((σ.1 (rf o0 11) (((0 : Int32) + l1)).toNatClampNeg) * (if (σ5.1 (rf o0 2) (l1).toNatClampNeg) < r4 then (σ5.1 (rf o0 2) (l1).toNatClampNeg) else r4)) / (σ5.1 (rf o0 2) (l1).toNatClampNeg)))), (0, .ref (G.2.2 (o0))), (1, .int (l1))] rfl ?_
      refine j_aload_n C dX6_gases_90 1 rfl ?_
      refine j_get C X dX6_gases_91 ho0 rfl rfl 11 (by decide) (fin := false) rfl rfl in_X6 (mU u_327) ?_
      refine j_iconst C dX6_gases_94 ((0 : Int32)) (by decide) ?_
      refine j_iload_n C dX6_gases_95 2 rfl ?_
      refine j_iadd C dX6_gases_96 ?_
      refine j_dup2 C dX6_gases_97 rfl rfl ?_
      obtain ⟨g10, h⟩ := sg h
      refine j_iald C X dX6_gases_98 (sh_6_11 ho0) (n := 73) rfl g10 ?_
      refine j_iload_n C dX6_gases_99 0 rfl ?_
      refine j_isub C dX6_gases_100 ?_
      obtain ⟨g11, h⟩ := sg h
      obtain ⟨σ12, e13, h⟩ := lm_e h
      refine j_iast C X dX6_gases_101 (sh_6_11 ho0) (n := 73) (fun _ => rfl) g11 e13 ?_
      refine j_aload_n C dX6_gases_102 1 rfl ?_
      refine j_get C X dX6_gases_103 ho0 rfl rfl 11 (by decide) (fin := false) rfl rfl in_X6 (mU u_327) ?_
      refine j_bipush C dX6_gases_106 ((71 : Int32)) (by decide) ?_
      refine j_dup2 C dX6_gases_108 rfl rfl ?_
      obtain ⟨g14, h⟩ := sg h
      refine j_iald C X dX6_gases_109 (sh_6_11 ho0) (n := 73) rfl g14 ?_
      refine j_iload_n C dX6_gases_110 0 rfl ?_
      refine j_iadd C dX6_gases_111 ?_
      obtain ⟨g15, h⟩ := sg h
      obtain ⟨σ16, e17, h⟩ := lm_e h
      refine j_iast C X dX6_gases_112 (sh_6_11 ho0) (n := 73) (fun _ => rfl) g15 e17 ?_
      refine j_iinc C dX6_gases_113 2 rfl ((1 : Int32)) (by decide) (by decide) [(1, .int ((l1 + (1 : Int32)))), (2, .int ((((σ.1 (rf o0 11) (((0 : Int32) + l1)).toNatClampNeg) * (if (σ5.1 (rf o0 2) (l1).toNatClampNeg) < r4 then (σ5.1 (rf o0 2) (l1).toNatClampNeg) else r4)) / (σ5.1 (rf o0 2) (l1).toNatClampNeg)))), (0, .ref (G.2.2 (o0)))] rfl ?_
      refine j_goto C dX6_gases_116 51 (by decide) ?_
      refine j_sub [2, 0] [(0, .ref (G.2.2 (o0))), (1, .int ((l1 + (1 : Int32))))] rfl ?_
      exact ih σ16 ((l1 + (1 : Int32)))  h
  have LP2 : ∀ (k : Nat) (σ : Mem) (l1 : Int32), lp_X6_gases_2 n o0 k σ l1 = some (r, σ') → J x [(0, .ref (G.2.2 (o0))), (1, .int (l1))] [] σ 2 0 0 := by
    intro k
    induction k with
    | zero => intro σ l1  h; cases h
    | succ k ih =>
    intro σ l1  h
    rw [lp_X6_gases_2_s] at h
    refine j_iload_n C dX6_gases_2 1 rfl ?_
    refine j_aload_n C dX6_gases_3 0 rfl ?_
    refine j_get C X dX6_gases_4 ho0 rfl rfl 0 (by decide) (fin := false) rfl rfl in_X6 (mU u_313) ?_
    refine j_icmp_gt C dX6_gases_7 49 (by decide) (fun c1 => ?_) (fun c1 => ?_)
    · have h := (if_pos c1).symm.trans h
      refine j_iconst C dX6_gases_49 ((1 : Int32)) (by decide) ?_
      refine j_istore_n C dX6_gases_50 (by decide) [(1, .int ((1 : Int32))), (0, .ref (G.2.2 (o0)))] rfl ?_
      refine j_sub [1, 0] [(0, .ref (G.2.2 (o0))), (1, .int ((1 : Int32)))] rfl ?_
      exact LP51 n σ ((1 : Int32))  h
    · have h := (if_neg c1).symm.trans h
      refine j_aload_n C dX6_gases_10 0 rfl ?_
      refine j_get C X dX6_gases_11 ho0 rfl rfl 11 (by decide) (fin := false) rfl rfl in_X6 (mU u_327) ?_
      refine j_iconst C dX6_gases_14 ((0 : Int32)) (by decide) ?_
      refine j_iload_n C dX6_gases_15 1 rfl ?_
      refine j_iadd C dX6_gases_16 ?_
      refine j_dup2 C dX6_gases_17 rfl rfl ?_
      obtain ⟨g18, h⟩ := sg h
      refine j_iald C X dX6_gases_18 (sh_6_11 ho0) (n := 73) rfl g18 ?_
      refine j_aload_n C dX6_gases_19 0 rfl ?_
      refine j_get C X dX6_gases_20 ho0 rfl rfl 4 (by decide) (fin := true) rfl rfl in_X6 (mU u_325) ?_
      refine j_iload_n C dX6_gases_23 1 rfl ?_
      obtain ⟨g19, h⟩ := sg h
      refine j_iald C X dX6_gases_24 (sh_6_4 ho0) (n := 7) rfl g19 ?_
      refine j_iadd C dX6_gases_25 ?_
      obtain ⟨g20, h⟩ := sg h
      obtain ⟨σ21, e22, h⟩ := lm_e h
      refine j_iast C X dX6_gases_26 (sh_6_11 ho0) (n := 73) (fun _ => rfl) g20 e22 ?_
      refine j_aload_n C dX6_gases_27 0 rfl ?_
      refine j_get C X dX6_gases_28 ho0 rfl rfl 11 (by decide) (fin := false) rfl rfl in_X6 (mU u_327) ?_
      refine j_bipush C dX6_gases_31 ((70 : Int32)) (by decide) ?_
      refine j_dup2 C dX6_gases_33 rfl rfl ?_
      obtain ⟨g23, h⟩ := sg h
      refine j_iald C X dX6_gases_34 (sh_6_11 ho0) (n := 73) rfl g23 ?_
      refine j_aload_n C dX6_gases_35 0 rfl ?_
      refine j_get C X dX6_gases_36 ho0 rfl rfl 4 (by decide) (fin := true) rfl rfl in_X6 (mU u_325) ?_
      refine j_iload_n C dX6_gases_39 1 rfl ?_
      obtain ⟨g24, h⟩ := sg h
      refine j_iald C X dX6_gases_40 (sh_6_4 ho0) (n := 7) rfl g24 ?_
      refine j_iadd C dX6_gases_41 ?_
      obtain ⟨g25, h⟩ := sg h
      obtain ⟨σ26, e27, h⟩ := lm_e h
      refine j_iast C X dX6_gases_42 (sh_6_11 ho0) (n := 73) (fun _ => rfl) g25 e27 ?_
      refine j_iinc C dX6_gases_43 1 rfl ((1 : Int32)) (by decide) (by decide) [(1, .int ((l1 + (1 : Int32)))), (0, .ref (G.2.2 (o0)))] rfl ?_
      refine j_goto C dX6_gases_46 2 (by decide) ?_
      refine j_sub [1, 0] [(0, .ref (G.2.2 (o0))), (1, .int ((l1 + (1 : Int32))))] rfl ?_
      exact ih σ26 ((l1 + (1 : Int32)))  h
  unfold sp_X6_gases at h
  show J x [(0, .ref (G.2.2 (o0)))] [] σ 0 0 0
  refine j_iconst C dX6_gases_0 ((1 : Int32)) (by decide) ?_
  refine j_istore_n C dX6_gases_1 (by decide) [(1, .int ((1 : Int32))), (0, .ref (G.2.2 (o0)))] rfl ?_
  refine j_sub [1, 0] [(0, .ref (G.2.2 (o0))), (1, .int ((1 : Int32)))] rfl ?_
  exact LP2 n σ ((1 : Int32))  h
def lp_X6_minutesToAlarm_16 (n : Nat) (o0 : Nat) (a1 : Int32) : Nat → Mem → Int32 → Int32 → Option (Int32 × Mem)
  | 0, _, _, _ => none
  | k + 1, σ, l1, l2 => if (500 : Int32) ≤ l2 then ((sp_X6_alarms n σ o0 l1).bind fun q => match q with | (r9, σ10) => ((sp_X6_goesBack n σ10 o0).bind fun q => match q with | (_, σ13) => if r9 = 0 then ((sp_X6_raises n σ13 o0 ((2 : Int32))).bind fun q => match q with | (r16, σ17) => some (r16, σ17)) else some (l2, σ13))) else ((sp_X6_alarms n σ o0 l1).bind fun q => match q with | (r19, σ20) => if r19 = 0 then ((sp_X6_gases n σ20 o0).bind fun q => match q with | (_, σ34) => lp_X6_minutesToAlarm_16 n o0 a1 k σ34 l1 ((l2 + (1 : Int32)))) else ((sp_X6_alarms n σ20 o0 l1).bind fun q => match q with | (r23, σ24) => ((sp_X6_goesBack n σ24 o0).bind fun q => match q with | (_, σ27) => if r23 = 0 then ((sp_X6_raises n σ27 o0 ((2 : Int32))).bind fun q => match q with | (r30, σ31) => some (r30, σ31)) else some (l2, σ27))))
theorem lp_X6_minutesToAlarm_16_s (n : Nat) (o0 : Nat) (a1 : Int32) (k : Nat) (σ : Mem) (l1 : Int32) (l2 : Int32) : lp_X6_minutesToAlarm_16 n o0 a1 (k + 1) σ l1 l2 = (if (500 : Int32) ≤ l2 then ((sp_X6_alarms n σ o0 l1).bind fun q => match q with | (r9, σ10) => ((sp_X6_goesBack n σ10 o0).bind fun q => match q with | (_, σ13) => if r9 = 0 then ((sp_X6_raises n σ13 o0 ((2 : Int32))).bind fun q => match q with | (r16, σ17) => some (r16, σ17)) else some (l2, σ13))) else ((sp_X6_alarms n σ o0 l1).bind fun q => match q with | (r19, σ20) => if r19 = 0 then ((sp_X6_gases n σ20 o0).bind fun q => match q with | (_, σ34) => lp_X6_minutesToAlarm_16 n o0 a1 k σ34 l1 ((l2 + (1 : Int32)))) else ((sp_X6_alarms n σ20 o0 l1).bind fun q => match q with | (r23, σ24) => ((sp_X6_goesBack n σ24 o0).bind fun q => match q with | (_, σ27) => if r23 = 0 then ((sp_X6_raises n σ27 o0 ((2 : Int32))).bind fun q => match q with | (r30, σ31) => some (r30, σ31)) else some (l2, σ27))))) := rfl
def sp_X6_minutesToAlarm (n : Nat) (σ : Mem) (o0 : Nat) (a1 : Int32) : Option (Int32 × Mem) := ((sp_X6_lacks n σ o0 a1).bind fun q => match q with | (r1, σ2) => if r1 = 0 then ((sp_X6_keeps n σ2 o0).bind fun q => match q with | (_, σ6) => lp_X6_minutesToAlarm_16 n o0 a1 n σ6 a1 ((0 : Int32))) else some ((0 : Int32), σ2))
abbrev rm_X6_minutesToAlarm : Room := ({ frames := 13, cells := 0, slots := 0, locals := 270 } : Room)
abbrev wu_X6_minutesToAlarm : List Cond := (Cond.code yX6_minutesToAlarm cX6_minutesToAlarm 4 (some .int)) :: wsU
theorem hy_X6_minutesToAlarm : hyOk yX6_minutesToAlarm 1 := by decide +kernel
set_option maxRecDepth 20000 in
set_option maxHeartbeats 4000000 in
theorem c_X6_minutesToAlarm (n : Nat) (G : Gt) (σ : Mem) (o0 : Nat) (a1 : Int32) (ho0 : Ok o0 6) (r : Int32) (σ' : Mem) (h : sp_X6_minutesToAlarm n σ o0 a1 = some (r, σ')) : MM yX6_minutesToAlarm wu_X6_minutesToAlarm rm_X6_minutesToAlarm [.ref (G.2.2 (o0)), .int (a1)] G σ (.inl (some (.int r))) σ' := by
  refine mm_of (cc := cX6_minutesToAlarm) (maxL := 4) (ret := (some .int)) (by decide +kernel) rfl (Nat.le_of_ble_eq_true rfl) (fun x C X hg => ?_)
  have C : Cx x cX6_minutesToAlarm 4 RX6 (some .int) [] wu_X6_minutesToAlarm rm_X6_minutesToAlarm G.1 (tysF G) := C
  have LP16 : ∀ (k : Nat) (σ : Mem) (l1 : Int32) (l2 : Int32), lp_X6_minutesToAlarm_16 n o0 a1 k σ l1 l2 = some (r, σ') → J x [(0, .ref (G.2.2 (o0))), (1, .int (l1)), (2, .int (l2))] [] σ 16 0 0 := by
    intro k
    induction k with
    | zero => intro σ l1 l2  h; cases h
    | succ k ih =>
    intro σ l1 l2  h
    rw [lp_X6_minutesToAlarm_16_s] at h
    refine j_iload_n C dX6_minutesToAlarm_16 2 rfl ?_
    refine j_sipush C dX6_minutesToAlarm_17 ((500 : Int32)) (by decide) ?_
    refine j_icmp_ge C dX6_minutesToAlarm_20 41 (by decide) (fun c8 => ?_) (fun c8 => ?_)
    · have h := (if_pos c8).symm.trans h
      refine j_aload_n C dX6_minutesToAlarm_41 0 rfl ?_
      refine j_iload_n C dX6_minutesToAlarm_42 1 rfl ?_
      obtain ⟨⟨r9, σ10⟩, h11, h⟩ := ob h
      try dsimp only at h
      refine j_callV C X (c_X6_alarms n G σ o0 l1 ho0 _ _ h11) dX6_minutesToAlarm_43 (gV u_354 u_356 u_357 u_315 u_355) rfl hy_X6_alarms rfl ho0 rfl (ci := 10) rfl rfl rfl (by decide) (Nat.le_of_ble_eq_true rfl) (by decide) ?_
      refine j_istore_n C dX6_minutesToAlarm_46 (by decide) [(3, .int (r9)), (0, .ref (G.2.2 (o0))), (1, .int (l1)), (2, .int (l2))] rfl ?_
      refine j_aload_n C dX6_minutesToAlarm_47 1 rfl ?_
      obtain ⟨⟨r12, σ13⟩, h14, h⟩ := ob h
      try dsimp only at h
      refine j_callV C X (c_X6_goesBack n G σ10 o0 ho0 _ _ h14) dX6_minutesToAlarm_48 (gV u_364 u_366 u_367 u_315 u_365) rfl hy_X6_goesBack rfl ho0 rfl (ci := 10) rfl rfl rfl (by decide) (Nat.le_of_ble_eq_true rfl) (by decide) ?_
      refine j_iload_n C dX6_minutesToAlarm_51 0 rfl ?_
      refine j_if_eq C dX6_minutesToAlarm_52 59 (by decide) (fun c15 => ?_) (fun c15 => ?_)
      · have h := (if_pos c15).symm.trans h
        refine j_aload_n C dX6_minutesToAlarm_59 1 rfl ?_
        refine j_iconst C dX6_minutesToAlarm_60 ((2 : Int32)) (by decide) ?_
        obtain ⟨⟨r16, σ17⟩, h18, h⟩ := ob h
        try dsimp only at h
        refine j_callV C X (c_X6_raises n G σ13 o0 ((2 : Int32)) ho0 _ _ h18) dX6_minutesToAlarm_61 (gV u_368 u_370 u_371 u_315 u_369) rfl hy_X6_raises rfl ho0 rfl (ci := 10) rfl rfl rfl (by decide) (Nat.le_of_ble_eq_true rfl) (by decide) ?_
        exact j_ireturn C dX6_minutesToAlarm_64 (e_i h hg) (by decide) (by decide)
      · have h := (if_neg c15).symm.trans h
        refine j_iload_n C dX6_minutesToAlarm_55 3 rfl ?_
        refine j_goto C dX6_minutesToAlarm_56 64 (by decide) ?_
        exact j_ireturn C dX6_minutesToAlarm_64 (e_i h hg) (by decide) (by decide)
    · have h := (if_neg c8).symm.trans h
      refine j_aload_n C dX6_minutesToAlarm_23 0 rfl ?_
      refine j_iload_n C dX6_minutesToAlarm_24 1 rfl ?_
      obtain ⟨⟨r19, σ20⟩, h21, h⟩ := ob h
      try dsimp only at h
      refine j_callV C X (c_X6_alarms n G σ o0 l1 ho0 _ _ h21) dX6_minutesToAlarm_25 (gV u_354 u_356 u_357 u_315 u_355) rfl hy_X6_alarms rfl ho0 rfl (ci := 10) rfl rfl rfl (by decide) (Nat.le_of_ble_eq_true rfl) (by decide) ?_
      refine j_if_ne C dX6_minutesToAlarm_28 41 (by decide) (fun c22 => ?_) (fun c22 => ?_)
      · have h := (if_neg c22).symm.trans h
        refine j_aload_n C dX6_minutesToAlarm_41 0 rfl ?_
        refine j_iload_n C dX6_minutesToAlarm_42 1 rfl ?_
        obtain ⟨⟨r23, σ24⟩, h25, h⟩ := ob h
        try dsimp only at h
        refine j_callV C X (c_X6_alarms n G σ20 o0 l1 ho0 _ _ h25) dX6_minutesToAlarm_43 (gV u_354 u_356 u_357 u_315 u_355) rfl hy_X6_alarms rfl ho0 rfl (ci := 10) rfl rfl rfl (by decide) (Nat.le_of_ble_eq_true rfl) (by decide) ?_
        refine j_istore_n C dX6_minutesToAlarm_46 (by decide) [(3, .int (r23)), (0, .ref (G.2.2 (o0))), (1, .int (l1)), (2, .int (l2))] rfl ?_
        refine j_aload_n C dX6_minutesToAlarm_47 1 rfl ?_
        obtain ⟨⟨r26, σ27⟩, h28, h⟩ := ob h
        try dsimp only at h
        refine j_callV C X (c_X6_goesBack n G σ24 o0 ho0 _ _ h28) dX6_minutesToAlarm_48 (gV u_364 u_366 u_367 u_315 u_365) rfl hy_X6_goesBack rfl ho0 rfl (ci := 10) rfl rfl rfl (by decide) (Nat.le_of_ble_eq_true rfl) (by decide) ?_
        refine j_iload_n C dX6_minutesToAlarm_51 0 rfl ?_
        refine j_if_eq C dX6_minutesToAlarm_52 59 (by decide) (fun c29 => ?_) (fun c29 => ?_)
        · have h := (if_pos c29).symm.trans h
          refine j_aload_n C dX6_minutesToAlarm_59 1 rfl ?_
          refine j_iconst C dX6_minutesToAlarm_60 ((2 : Int32)) (by decide) ?_
          obtain ⟨⟨r30, σ31⟩, h32, h⟩ := ob h
          try dsimp only at h
          refine j_callV C X (c_X6_raises n G σ27 o0 ((2 : Int32)) ho0 _ _ h32) dX6_minutesToAlarm_61 (gV u_368 u_370 u_371 u_315 u_369) rfl hy_X6_raises rfl ho0 rfl (ci := 10) rfl rfl rfl (by decide) (Nat.le_of_ble_eq_true rfl) (by decide) ?_
          exact j_ireturn C dX6_minutesToAlarm_64 (e_i h hg) (by decide) (by decide)
        · have h := (if_neg c29).symm.trans h
          refine j_iload_n C dX6_minutesToAlarm_55 3 rfl ?_
          refine j_goto C dX6_minutesToAlarm_56 64 (by decide) ?_
          exact j_ireturn C dX6_minutesToAlarm_64 (e_i h hg) (by decide) (by decide)
      · have h := (if_pos c22).symm.trans h
        refine j_aload_n C dX6_minutesToAlarm_31 0 rfl ?_
        obtain ⟨⟨r33, σ34⟩, h35, h⟩ := ob h
        try dsimp only at h
        refine j_callV C X (c_X6_gases n G σ20 o0 ho0 _ _ h35) dX6_minutesToAlarm_32 (gV u_372 u_374 u_375 u_315 u_373) rfl hy_X6_gases rfl ho0 rfl (ci := 10) rfl rfl rfl (by decide) (Nat.le_of_ble_eq_true rfl) (by decide) ?_
        refine j_iinc C dX6_minutesToAlarm_35 2 rfl ((1 : Int32)) (by decide) (by decide) [(2, .int ((l2 + (1 : Int32)))), (0, .ref (G.2.2 (o0))), (1, .int (l1))] rfl ?_
        refine j_goto C dX6_minutesToAlarm_38 16 (by decide) ?_
        refine j_sub [1, 2, 0] [(0, .ref (G.2.2 (o0))), (1, .int (l1)), (2, .int ((l2 + (1 : Int32))))] rfl ?_
        exact ih σ34 l1 ((l2 + (1 : Int32)))  h
  unfold sp_X6_minutesToAlarm at h
  show J x [(0, .ref (G.2.2 (o0))), (1, .int (a1))] [] σ 0 0 0
  refine j_aload_n C dX6_minutesToAlarm_0 0 rfl ?_
  refine j_iload_n C dX6_minutesToAlarm_1 1 rfl ?_
  obtain ⟨⟨r1, σ2⟩, h3, h⟩ := ob h
  try dsimp only at h
  refine j_callV C X (c_X6_lacks n G σ o0 a1 ho0 _ _ h3) dX6_minutesToAlarm_2 (gV u_333 u_335 u_336 u_315 u_334) rfl hy_X6_lacks rfl ho0 rfl (ci := 10) rfl rfl rfl (by decide) (Nat.le_of_ble_eq_true rfl) (by decide) ?_
  refine j_if_eq C dX6_minutesToAlarm_5 10 (by decide) (fun c4 => ?_) (fun c4 => ?_)
  · have h := (if_pos c4).symm.trans h
    refine j_aload_n C dX6_minutesToAlarm_10 0 rfl ?_
    obtain ⟨⟨r5, σ6⟩, h7, h⟩ := ob h
    try dsimp only at h
    refine j_callV C X (c_X6_keeps n G σ2 o0 ho0 _ _ h7) dX6_minutesToAlarm_11 (gV u_360 u_362 u_363 u_315 u_361) rfl hy_X6_keeps rfl ho0 rfl (ci := 10) rfl rfl rfl (by decide) (Nat.le_of_ble_eq_true rfl) (by decide) ?_
    refine j_iconst C dX6_minutesToAlarm_14 ((0 : Int32)) (by decide) ?_
    refine j_istore_n C dX6_minutesToAlarm_15 (by decide) [(2, .int ((0 : Int32))), (0, .ref (G.2.2 (o0))), (1, .int (a1))] rfl ?_
    refine j_sub [1, 2, 0] [(0, .ref (G.2.2 (o0))), (1, .int (a1)), (2, .int ((0 : Int32)))] rfl ?_
    exact LP16 n σ6 a1 ((0 : Int32))  h
  · have h := (if_neg c4).symm.trans h
    refine j_iconst C dX6_minutesToAlarm_8 ((0 : Int32)) (by decide) ?_
    exact j_ireturn C dX6_minutesToAlarm_9 (e_i h hg) (by decide) (by decide)
def lp_X6_hire_32 (n : Nat) (o0 : Nat) (a1 : Int32) (σ : Mem) (l1 : Int32) (s0 : Int32) : Option (Int32 × Mem) := (lm (wi σ o0 14 s0) fun σ6 => if (σ6.1 o0 14) ≤ 0 then (lm (wi σ6 o0 10 ((σ6.1 o0 10) + l1)) fun σ9 => if inR (7 : Int32) 73 then if inR (7 : Int32) 73 then (lm (wi σ9 (rf o0 11) ((7 : Int32)).toNatClampNeg ((σ9.1 (rf o0 11) ((7 : Int32)).toNatClampNeg) + l1)) fun σ13 => if inR (7 : Int32) 73 then some ((σ13.1 (rf o0 11) ((7 : Int32)).toNatClampNeg), σ13) else none) else none else none) else some ((0 : Int32), σ6))
def sp_X6_hire (n : Nat) (σ : Mem) (o0 : Nat) (a1 : Int32) : Option (Int32 × Mem) := ((sp_X6_in n σ a1 ((1 : Int32)) ((99 : Int32))).bind fun q => match q with | (r1, σ2) => if r1 = 0 then lp_X6_hire_32 n o0 a1 σ2 a1 ((1 : Int32)) else if ((σ2.1 o0 10) + a1) ≤ (200 : Int32) then lp_X6_hire_32 n o0 a1 σ2 a1 ((0 : Int32)) else lp_X6_hire_32 n o0 a1 σ2 a1 ((2 : Int32)))
abbrev rm_X6_hire : Room := ({ frames := 11, cells := 0, slots := 0, locals := 222 } : Room)
abbrev wu_X6_hire : List Cond := (Cond.code yX6_hire cX6_hire 2 (some .int)) :: wsU
theorem hy_X6_hire : hyOk yX6_hire 1 := by decide +kernel
set_option maxRecDepth 20000 in
set_option maxHeartbeats 4000000 in
theorem c_X6_hire (n : Nat) (G : Gt) (σ : Mem) (o0 : Nat) (a1 : Int32) (ho0 : Ok o0 6) (r : Int32) (σ' : Mem) (h : sp_X6_hire n σ o0 a1 = some (r, σ')) : MM yX6_hire wu_X6_hire rm_X6_hire [.ref (G.2.2 (o0)), .int (a1)] G σ (.inl (some (.int r))) σ' := by
  refine mm_of (cc := cX6_hire) (maxL := 2) (ret := (some .int)) (by decide +kernel) rfl (Nat.le_of_ble_eq_true rfl) (fun x C X hg => ?_)
  have C : Cx x cX6_hire 2 RX6 (some .int) [] wu_X6_hire rm_X6_hire G.1 (tysF G) := C
  have JP32 : ∀ (σ : Mem) (l1 : Int32) (s0 : Int32), lp_X6_hire_32 n o0 a1 σ l1 s0 = some (r, σ') → J x [(0, .ref (G.2.2 (o0))), (1, .int (l1))] [.int (s0), .ref (G.2.2 (o0))] σ 32 0 0 := by
    intro σ l1 s0  h
    unfold lp_X6_hire_32 at h
    obtain ⟨σ6, e7, h⟩ := lm_e h
    refine j_put C X dX6_hire_32 ho0 (ty0 := tyX6) rfl rfl 14 (by decide) rfl rfl (Nat.le_of_ble_eq_true rfl) tyX6_ok nmX6 (ty := .int) rfl rfl rfl in_X6 (mU u_312) e7 ?_
    refine j_aload_n C dX6_hire_35 0 rfl ?_
    refine j_get C X dX6_hire_36 ho0 rfl rfl 14 (by decide) (fin := false) rfl rfl in_X6 (mU u_312) ?_
    refine j_if_le C dX6_hire_39 44 (by decide) (fun c8 => ?_) (fun c8 => ?_)
    · have h := (if_pos c8).symm.trans h
      refine j_aload_n C dX6_hire_44 0 rfl ?_
      refine j_dup C dX6_hire_45 rfl ?_
      refine j_get C X dX6_hire_46 ho0 rfl rfl 10 (by decide) (fin := false) rfl rfl in_X6 (mU u_376) ?_
      refine j_iload_n C dX6_hire_49 1 rfl ?_
      refine j_iadd C dX6_hire_50 ?_
      obtain ⟨σ9, e10, h⟩ := lm_e h
      refine j_put C X dX6_hire_51 ho0 (ty0 := tyX6) rfl rfl 10 (by decide) rfl rfl (Nat.le_of_ble_eq_true rfl) tyX6_ok nmX6 (ty := .int) rfl rfl rfl in_X6 (mU u_376) e10 ?_
      refine j_aload_n C dX6_hire_54 0 rfl ?_
      refine j_get C X dX6_hire_55 ho0 rfl rfl 11 (by decide) (fin := false) rfl rfl in_X6 (mU u_327) ?_
      refine j_bipush C dX6_hire_58 ((7 : Int32)) (by decide) ?_
      refine j_dup2 C dX6_hire_60 rfl rfl ?_
      obtain ⟨g11, h⟩ := sg h
      refine j_iald C X dX6_hire_61 (sh_6_11 ho0) (n := 73) rfl g11 ?_
      refine j_iload_n C dX6_hire_62 1 rfl ?_
      refine j_iadd C dX6_hire_63 ?_
      obtain ⟨g12, h⟩ := sg h
      obtain ⟨σ13, e14, h⟩ := lm_e h
      refine j_iast C X dX6_hire_64 (sh_6_11 ho0) (n := 73) (fun _ => rfl) g12 e14 ?_
      refine j_aload_n C dX6_hire_65 0 rfl ?_
      refine j_get C X dX6_hire_66 ho0 rfl rfl 11 (by decide) (fin := false) rfl rfl in_X6 (mU u_327) ?_
      refine j_bipush C dX6_hire_69 ((7 : Int32)) (by decide) ?_
      obtain ⟨g15, h⟩ := sg h
      refine j_iald C X dX6_hire_71 (sh_6_11 ho0) (n := 73) rfl g15 ?_
      exact j_ireturn C dX6_hire_72 (e_i h hg) (by decide) (by decide)
    · have h := (if_neg c8).symm.trans h
      refine j_iconst C dX6_hire_42 ((0 : Int32)) (by decide) ?_
      exact j_ireturn C dX6_hire_43 (e_i h hg) (by decide) (by decide)
  unfold sp_X6_hire at h
  show J x [(0, .ref (G.2.2 (o0))), (1, .int (a1))] [] σ 0 0 0
  refine j_aload_n C dX6_hire_0 0 rfl ?_
  refine j_iload_n C dX6_hire_1 1 rfl ?_
  refine j_iconst C dX6_hire_2 ((1 : Int32)) (by decide) ?_
  refine j_bipush C dX6_hire_3 ((99 : Int32)) (by decide) ?_
  obtain ⟨⟨r1, σ2⟩, h3, h⟩ := ob h
  try dsimp only at h
  refine j_callS C X (c_X6_in n G σ a1 ((1 : Int32)) ((99 : Int32))  _ _ h3) dX6_hire_5 (gS u_314 u_317 u_315 u_316) rfl hy_X6_in rfl rfl (by decide) (Nat.le_of_ble_eq_true rfl) (by decide) ?_
  refine j_if_ne C dX6_hire_8 15 (by decide) (fun c4 => ?_) (fun c4 => ?_)
  · have h := (if_neg c4).symm.trans h
    refine j_aload_n C dX6_hire_15 0 rfl ?_
    refine j_get C X dX6_hire_16 ho0 rfl rfl 10 (by decide) (fin := false) rfl rfl in_X6 (mU u_376) ?_
    refine j_iload_n C dX6_hire_19 1 rfl ?_
    refine j_iadd C dX6_hire_20 ?_
    refine j_sipush C dX6_hire_21 ((200 : Int32)) (by decide) ?_
    refine j_icmp_le C dX6_hire_24 31 (by decide) (fun c5 => ?_) (fun c5 => ?_)
    · have h := (if_pos c5).symm.trans h
      refine j_iconst C dX6_hire_31 ((0 : Int32)) (by decide) ?_
      refine j_sub [0, 1] [(0, .ref (G.2.2 (o0))), (1, .int (a1))] rfl ?_
      exact JP32 σ2 a1 ((0 : Int32))  h
    · have h := (if_neg c5).symm.trans h
      refine j_iconst C dX6_hire_27 ((2 : Int32)) (by decide) ?_
      refine j_goto C dX6_hire_28 32 (by decide) ?_
      refine j_sub [0, 1] [(0, .ref (G.2.2 (o0))), (1, .int (a1))] rfl ?_
      exact JP32 σ2 a1 ((2 : Int32))  h
  · have h := (if_pos c4).symm.trans h
    refine j_iconst C dX6_hire_11 ((1 : Int32)) (by decide) ?_
    refine j_goto C dX6_hire_12 32 (by decide) ?_
    refine j_sub [0, 1] [(0, .ref (G.2.2 (o0))), (1, .int (a1))] rfl ?_
    exact JP32 σ2 a1 ((1 : Int32))  h
def sp_X6_peopleAt (n : Nat) (σ : Mem) (o0 : Nat) (a1 : Int32) : Option (Int32 × Mem) := ((sp_X6_lacksPlace n σ o0 a1).bind fun q => match q with | (r1, σ2) => if r1 = 0 then if inR ((7 : Int32) + a1) 73 then some ((σ2.1 (rf o0 11) (((7 : Int32) + a1)).toNatClampNeg), σ2) else none else some ((0 : Int32), σ2))
abbrev rm_X6_peopleAt : Room := ({ frames := 12, cells := 0, slots := 0, locals := 243 } : Room)
abbrev wu_X6_peopleAt : List Cond := (Cond.code yX6_peopleAt cX6_peopleAt 2 (some .int)) :: wsU
theorem hy_X6_peopleAt : hyOk yX6_peopleAt 1 := by decide +kernel
set_option maxRecDepth 20000 in
set_option maxHeartbeats 4000000 in
theorem c_X6_peopleAt (n : Nat) (G : Gt) (σ : Mem) (o0 : Nat) (a1 : Int32) (ho0 : Ok o0 6) (r : Int32) (σ' : Mem) (h : sp_X6_peopleAt n σ o0 a1 = some (r, σ')) : MM yX6_peopleAt wu_X6_peopleAt rm_X6_peopleAt [.ref (G.2.2 (o0)), .int (a1)] G σ (.inl (some (.int r))) σ' := by
  refine mm_of (cc := cX6_peopleAt) (maxL := 2) (ret := (some .int)) (by decide +kernel) rfl (Nat.le_of_ble_eq_true rfl) (fun x C X hg => ?_)
  have C : Cx x cX6_peopleAt 2 RX6 (some .int) [] wu_X6_peopleAt rm_X6_peopleAt G.1 (tysF G) := C
  unfold sp_X6_peopleAt at h
  show J x [(0, .ref (G.2.2 (o0))), (1, .int (a1))] [] σ 0 0 0
  refine j_aload_n C dX6_peopleAt_0 0 rfl ?_
  refine j_iload_n C dX6_peopleAt_1 1 rfl ?_
  obtain ⟨⟨r1, σ2⟩, h3, h⟩ := ob h
  try dsimp only at h
  refine j_callV C X (c_X6_lacksPlace n G σ o0 a1 ho0 _ _ h3) dX6_peopleAt_2 (gV u_328 u_330 u_331 u_315 u_329) rfl hy_X6_lacksPlace rfl ho0 rfl (ci := 10) rfl rfl rfl (by decide) (Nat.le_of_ble_eq_true rfl) (by decide) ?_
  refine j_if_eq C dX6_peopleAt_5 12 (by decide) (fun c4 => ?_) (fun c4 => ?_)
  · have h := (if_pos c4).symm.trans h
    refine j_aload_n C dX6_peopleAt_12 0 rfl ?_
    refine j_get C X dX6_peopleAt_13 ho0 rfl rfl 11 (by decide) (fin := false) rfl rfl in_X6 (mU u_327) ?_
    refine j_bipush C dX6_peopleAt_16 ((7 : Int32)) (by decide) ?_
    refine j_iload_n C dX6_peopleAt_18 1 rfl ?_
    refine j_iadd C dX6_peopleAt_19 ?_
    obtain ⟨g5, h⟩ := sg h
    refine j_iald C X dX6_peopleAt_20 (sh_6_11 ho0) (n := 73) rfl g5 ?_
    exact j_ireturn C dX6_peopleAt_21 (e_i h hg) (by decide) (by decide)
  · have h := (if_neg c4).symm.trans h
    refine j_iconst C dX6_peopleAt_8 ((0 : Int32)) (by decide) ?_
    refine j_goto C dX6_peopleAt_9 21 (by decide) ?_
    exact j_ireturn C dX6_peopleAt_21 (e_i h hg) (by decide) (by decide)
def sp_X6_peopleTotal (n : Nat) (σ : Mem) (o0 : Nat) : Option (Int32 × Mem) := (lm (wi σ o0 14 (0 : Int32)) fun σ1 => some ((σ1.1 o0 10), σ1))
abbrev rm_X6_peopleTotal : Room := ({ frames := 10, cells := 0, slots := 0, locals := 200 } : Room)
abbrev wu_X6_peopleTotal : List Cond := (Cond.code yX6_peopleTotal cX6_peopleTotal 1 (some .int)) :: wsU
theorem hy_X6_peopleTotal : hyOk yX6_peopleTotal 0 := by decide +kernel
set_option maxRecDepth 20000 in
set_option maxHeartbeats 4000000 in
theorem c_X6_peopleTotal (n : Nat) (G : Gt) (σ : Mem) (o0 : Nat) (ho0 : Ok o0 6) (r : Int32) (σ' : Mem) (h : sp_X6_peopleTotal n σ o0 = some (r, σ')) : MM yX6_peopleTotal wu_X6_peopleTotal rm_X6_peopleTotal [.ref (G.2.2 (o0))] G σ (.inl (some (.int r))) σ' := by
  refine mm_of (cc := cX6_peopleTotal) (maxL := 1) (ret := (some .int)) (by decide +kernel) rfl (Nat.le_of_ble_eq_true rfl) (fun x C X hg => ?_)
  have C : Cx x cX6_peopleTotal 1 RX6 (some .int) [] wu_X6_peopleTotal rm_X6_peopleTotal G.1 (tysF G) := C
  unfold sp_X6_peopleTotal at h
  show J x [(0, .ref (G.2.2 (o0)))] [] σ 0 0 0
  refine j_aload_n C dX6_peopleTotal_0 0 rfl ?_
  refine j_iconst C dX6_peopleTotal_1 ((0 : Int32)) (by decide) ?_
  obtain ⟨σ1, e2, h⟩ := lm_e h
  refine j_put C X dX6_peopleTotal_2 ho0 (ty0 := tyX6) rfl rfl 14 (by decide) rfl rfl (Nat.le_of_ble_eq_true rfl) tyX6_ok nmX6 (ty := .int) rfl rfl rfl in_X6 (mU u_312) e2 ?_
  refine j_aload_n C dX6_peopleTotal_5 0 rfl ?_
  refine j_get C X dX6_peopleTotal_6 ho0 rfl rfl 10 (by decide) (fin := false) rfl rfl in_X6 (mU u_376) ?_
  exact j_ireturn C dX6_peopleTotal_9 (e_i h hg) (by decide) (by decide)
def lp_X6_endangered_9 (n : Nat) (o0 : Nat) : Nat → Mem → Int32 → Int32 → Option (Int32 × Mem)
  | 0, _, _, _ => none
  | k + 1, σ, l1, l2 => if (σ.1 o0 0) < l2 then some (l1, σ) else ((sp_X6_alarms n σ o0 l2).bind fun q => match q with | (r4, σ5) => if r4 = 0 then lp_X6_endangered_9 n o0 k σ5 ((l1 + (0 : Int32))) ((l2 + (1 : Int32))) else if inR ((7 : Int32) + l2) 73 then lp_X6_endangered_9 n o0 k σ5 ((l1 + (σ5.1 (rf o0 11) (((7 : Int32) + l2)).toNatClampNeg))) ((l2 + (1 : Int32))) else none)
theorem lp_X6_endangered_9_s (n : Nat) (o0 : Nat) (k : Nat) (σ : Mem) (l1 : Int32) (l2 : Int32) : lp_X6_endangered_9 n o0 (k + 1) σ l1 l2 = (if (σ.1 o0 0) < l2 then some (l1, σ) else ((sp_X6_alarms n σ o0 l2).bind fun q => match q with | (r4, σ5) => if r4 = 0 then lp_X6_endangered_9 n o0 k σ5 ((l1 + (0 : Int32))) ((l2 + (1 : Int32))) else if inR ((7 : Int32) + l2) 73 then lp_X6_endangered_9 n o0 k σ5 ((l1 + (σ5.1 (rf o0 11) (((7 : Int32) + l2)).toNatClampNeg))) ((l2 + (1 : Int32))) else none)) := rfl
def sp_X6_endangered (n : Nat) (σ : Mem) (o0 : Nat) : Option (Int32 × Mem) := (lm (wi σ o0 14 (0 : Int32)) fun σ1 => lp_X6_endangered_9 n o0 n σ1 ((0 : Int32)) ((1 : Int32)))
abbrev rm_X6_endangered : Room := ({ frames := 12, cells := 0, slots := 0, locals := 242 } : Room)
abbrev wu_X6_endangered : List Cond := (Cond.code yX6_endangered cX6_endangered 3 (some .int)) :: wsU
theorem hy_X6_endangered : hyOk yX6_endangered 0 := by decide +kernel
set_option maxRecDepth 20000 in
set_option maxHeartbeats 4000000 in
theorem c_X6_endangered (n : Nat) (G : Gt) (σ : Mem) (o0 : Nat) (ho0 : Ok o0 6) (r : Int32) (σ' : Mem) (h : sp_X6_endangered n σ o0 = some (r, σ')) : MM yX6_endangered wu_X6_endangered rm_X6_endangered [.ref (G.2.2 (o0))] G σ (.inl (some (.int r))) σ' := by
  refine mm_of (cc := cX6_endangered) (maxL := 3) (ret := (some .int)) (by decide +kernel) rfl (Nat.le_of_ble_eq_true rfl) (fun x C X hg => ?_)
  have C : Cx x cX6_endangered 3 RX6 (some .int) [] wu_X6_endangered rm_X6_endangered G.1 (tysF G) := C
  have LP9 : ∀ (k : Nat) (σ : Mem) (l1 : Int32) (l2 : Int32), lp_X6_endangered_9 n o0 k σ l1 l2 = some (r, σ') → J x [(0, .ref (G.2.2 (o0))), (1, .int (l1)), (2, .int (l2))] [] σ 9 0 0 := by
    intro k
    induction k with
    | zero => intro σ l1 l2  h; cases h
    | succ k ih =>
    intro σ l1 l2  h
    rw [lp_X6_endangered_9_s] at h
    refine j_iload_n C dX6_endangered_9 2 rfl ?_
    refine j_aload_n C dX6_endangered_10 0 rfl ?_
    refine j_get C X dX6_endangered_11 ho0 rfl rfl 0 (by decide) (fin := false) rfl rfl in_X6 (mU u_313) ?_
    refine j_icmp_gt C dX6_endangered_14 47 (by decide) (fun c3 => ?_) (fun c3 => ?_)
    · have h := (if_pos c3).symm.trans h
      refine j_iload_n C dX6_endangered_47 1 rfl ?_
      exact j_ireturn C dX6_endangered_48 (e_i h hg) (by decide) (by decide)
    · have h := (if_neg c3).symm.trans h
      refine j_iload_n C dX6_endangered_17 1 rfl ?_
      refine j_aload_n C dX6_endangered_18 0 rfl ?_
      refine j_iload_n C dX6_endangered_19 2 rfl ?_
      obtain ⟨⟨r4, σ5⟩, h6, h⟩ := ob h
      try dsimp only at h
      refine j_callV C X (c_X6_alarms n G σ o0 l2 ho0 _ _ h6) dX6_endangered_20 (gV u_354 u_356 u_357 u_315 u_355) rfl hy_X6_alarms rfl ho0 rfl (ci := 10) rfl rfl rfl (by decide) (Nat.le_of_ble_eq_true rfl) (by decide) ?_
      refine j_if_eq C dX6_endangered_23 38 (by decide) (fun c7 => ?_) (fun c7 => ?_)
      · have h := (if_pos c7).symm.trans h
        refine j_iconst C dX6_endangered_38 ((0 : Int32)) (by decide) ?_
        refine j_iadd C dX6_endangered_39 ?_
        refine j_istore_n C dX6_endangered_40 (by decide) [(1, .int ((l1 + (0 : Int32)))), (0, .ref (G.2.2 (o0))), (2, .int (l2))] rfl ?_
        refine j_iinc C dX6_endangered_41 2 rfl ((1 : Int32)) (by decide) (by decide) [(2, .int ((l2 + (1 : Int32)))), (1, .int ((l1 + (0 : Int32)))), (0, .ref (G.2.2 (o0)))] rfl ?_
        refine j_goto C dX6_endangered_44 9 (by decide) ?_
        refine j_sub [2, 1, 0] [(0, .ref (G.2.2 (o0))), (1, .int ((l1 + (0 : Int32)))), (2, .int ((l2 + (1 : Int32))))] rfl ?_
        exact ih σ5 ((l1 + (0 : Int32))) ((l2 + (1 : Int32)))  h
      · have h := (if_neg c7).symm.trans h
        refine j_aload_n C dX6_endangered_26 0 rfl ?_
        refine j_get C X dX6_endangered_27 ho0 rfl rfl 11 (by decide) (fin := false) rfl rfl in_X6 (mU u_327) ?_
        refine j_bipush C dX6_endangered_30 ((7 : Int32)) (by decide) ?_
        refine j_iload_n C dX6_endangered_32 2 rfl ?_
        refine j_iadd C dX6_endangered_33 ?_
        obtain ⟨g8, h⟩ := sg h
        refine j_iald C X dX6_endangered_34 (sh_6_11 ho0) (n := 73) rfl g8 ?_
        refine j_goto C dX6_endangered_35 39 (by decide) ?_
        refine j_iadd C dX6_endangered_39 ?_
        refine j_istore_n C dX6_endangered_40 (by decide) [(1, .int ((l1 + (σ5.1 (rf o0 11) (((7 : Int32) + l2)).toNatClampNeg)))), (0, .ref (G.2.2 (o0))), (2, .int (l2))] rfl ?_
        refine j_iinc C dX6_endangered_41 2 rfl ((1 : Int32)) (by decide) (by decide) [(2, .int ((l2 + (1 : Int32)))), (1, .int ((l1 + (σ5.1 (rf o0 11) (((7 : Int32) + l2)).toNatClampNeg)))), (0, .ref (G.2.2 (o0)))] rfl ?_
        refine j_goto C dX6_endangered_44 9 (by decide) ?_
        refine j_sub [2, 1, 0] [(0, .ref (G.2.2 (o0))), (1, .int ((l1 + (σ5.1 (rf o0 11) (((7 : Int32) + l2)).toNatClampNeg)))), (2, .int ((l2 + (1 : Int32))))] rfl ?_
        exact ih σ5 ((l1 + (σ5.1 (rf o0 11) (((7 : Int32) + l2)).toNatClampNeg))) ((l2 + (1 : Int32)))  h
  unfold sp_X6_endangered at h
  show J x [(0, .ref (G.2.2 (o0)))] [] σ 0 0 0
  refine j_aload_n C dX6_endangered_0 0 rfl ?_
  refine j_iconst C dX6_endangered_1 ((0 : Int32)) (by decide) ?_
  obtain ⟨σ1, e2, h⟩ := lm_e h
  refine j_put C X dX6_endangered_2 ho0 (ty0 := tyX6) rfl rfl 14 (by decide) rfl rfl (Nat.le_of_ble_eq_true rfl) tyX6_ok nmX6 (ty := .int) rfl rfl rfl in_X6 (mU u_312) e2 ?_
  refine j_iconst C dX6_endangered_5 ((0 : Int32)) (by decide) ?_
  refine j_istore_n C dX6_endangered_6 (by decide) [(1, .int ((0 : Int32))), (0, .ref (G.2.2 (o0)))] rfl ?_
  refine j_iconst C dX6_endangered_7 ((1 : Int32)) (by decide) ?_
  refine j_istore_n C dX6_endangered_8 (by decide) [(2, .int ((1 : Int32))), (1, .int ((0 : Int32))), (0, .ref (G.2.2 (o0)))] rfl ?_
  refine j_sub [2, 1, 0] [(0, .ref (G.2.2 (o0))), (1, .int ((0 : Int32))), (2, .int ((1 : Int32)))] rfl ?_
  exact LP9 n σ1 ((0 : Int32)) ((1 : Int32))  h
def sp_X6_oreAt (n : Nat) (σ : Mem) (o0 : Nat) (a1 : Int32) : Option (Int32 × Mem) := ((sp_X6_lacksPlace n σ o0 a1).bind fun q => match q with | (r1, σ2) => if r1 = 0 then if inR ((14 : Int32) + a1) 73 then some ((σ2.1 (rf o0 11) (((14 : Int32) + a1)).toNatClampNeg), σ2) else none else some ((0 : Int32), σ2))
abbrev rm_X6_oreAt : Room := ({ frames := 12, cells := 0, slots := 0, locals := 243 } : Room)
abbrev wu_X6_oreAt : List Cond := (Cond.code yX6_oreAt cX6_oreAt 2 (some .int)) :: wsU
theorem hy_X6_oreAt : hyOk yX6_oreAt 1 := by decide +kernel
set_option maxRecDepth 20000 in
set_option maxHeartbeats 4000000 in
theorem c_X6_oreAt (n : Nat) (G : Gt) (σ : Mem) (o0 : Nat) (a1 : Int32) (ho0 : Ok o0 6) (r : Int32) (σ' : Mem) (h : sp_X6_oreAt n σ o0 a1 = some (r, σ')) : MM yX6_oreAt wu_X6_oreAt rm_X6_oreAt [.ref (G.2.2 (o0)), .int (a1)] G σ (.inl (some (.int r))) σ' := by
  refine mm_of (cc := cX6_oreAt) (maxL := 2) (ret := (some .int)) (by decide +kernel) rfl (Nat.le_of_ble_eq_true rfl) (fun x C X hg => ?_)
  have C : Cx x cX6_oreAt 2 RX6 (some .int) [] wu_X6_oreAt rm_X6_oreAt G.1 (tysF G) := C
  unfold sp_X6_oreAt at h
  show J x [(0, .ref (G.2.2 (o0))), (1, .int (a1))] [] σ 0 0 0
  refine j_aload_n C dX6_oreAt_0 0 rfl ?_
  refine j_iload_n C dX6_oreAt_1 1 rfl ?_
  obtain ⟨⟨r1, σ2⟩, h3, h⟩ := ob h
  try dsimp only at h
  refine j_callV C X (c_X6_lacksPlace n G σ o0 a1 ho0 _ _ h3) dX6_oreAt_2 (gV u_328 u_330 u_331 u_315 u_329) rfl hy_X6_lacksPlace rfl ho0 rfl (ci := 10) rfl rfl rfl (by decide) (Nat.le_of_ble_eq_true rfl) (by decide) ?_
  refine j_if_eq C dX6_oreAt_5 12 (by decide) (fun c4 => ?_) (fun c4 => ?_)
  · have h := (if_pos c4).symm.trans h
    refine j_aload_n C dX6_oreAt_12 0 rfl ?_
    refine j_get C X dX6_oreAt_13 ho0 rfl rfl 11 (by decide) (fin := false) rfl rfl in_X6 (mU u_327) ?_
    refine j_bipush C dX6_oreAt_16 ((14 : Int32)) (by decide) ?_
    refine j_iload_n C dX6_oreAt_18 1 rfl ?_
    refine j_iadd C dX6_oreAt_19 ?_
    obtain ⟨g5, h⟩ := sg h
    refine j_iald C X dX6_oreAt_20 (sh_6_11 ho0) (n := 73) rfl g5 ?_
    exact j_ireturn C dX6_oreAt_21 (e_i h hg) (by decide) (by decide)
  · have h := (if_neg c4).symm.trans h
    refine j_iconst C dX6_oreAt_8 ((0 : Int32)) (by decide) ?_
    refine j_goto C dX6_oreAt_9 21 (by decide) ?_
    exact j_ireturn C dX6_oreAt_21 (e_i h hg) (by decide) (by decide)
def sp_X6_closed (n : Nat) (σ : Mem) (o0 : Nat) (a1 : Int32) : Option (Int32 × Mem) := if inR (61 : Int32) 73 then if inR ((21 : Int32) + a1) 73 then if (σ.1 (rf o0 11) (((21 : Int32) + a1)).toNatClampNeg) ≤ (σ.1 (rf o0 11) ((61 : Int32)).toNatClampNeg) then some ((0 : Int32), σ) else some ((1 : Int32), σ) else none else none
abbrev rm_X6_closed : Room := ({ frames := 10, cells := 0, slots := 0, locals := 200 } : Room)
abbrev wu_X6_closed : List Cond := (Cond.code yX6_closed cX6_closed 2 (some .boolean)) :: wsU
theorem hy_X6_closed : hyOk yX6_closed 1 := by decide +kernel
set_option maxRecDepth 20000 in
set_option maxHeartbeats 4000000 in
theorem c_X6_closed (n : Nat) (G : Gt) (σ : Mem) (o0 : Nat) (a1 : Int32) (ho0 : Ok o0 6) (r : Int32) (σ' : Mem) (h : sp_X6_closed n σ o0 a1 = some (r, σ')) : MM yX6_closed wu_X6_closed rm_X6_closed [.ref (G.2.2 (o0)), .int (a1)] G σ (.inl (some (.int r))) σ' := by
  refine mm_of (cc := cX6_closed) (maxL := 2) (ret := (some .boolean)) (by decide +kernel) rfl (Nat.le_of_ble_eq_true rfl) (fun x C X hg => ?_)
  have C : Cx x cX6_closed 2 RX6 (some .boolean) [] wu_X6_closed rm_X6_closed G.1 (tysF G) := C
  unfold sp_X6_closed at h
  show J x [(0, .ref (G.2.2 (o0))), (1, .int (a1))] [] σ 0 0 0
  refine j_aload_n C dX6_closed_0 0 rfl ?_
  refine j_get C X dX6_closed_1 ho0 rfl rfl 11 (by decide) (fin := false) rfl rfl in_X6 (mU u_327) ?_
  refine j_bipush C dX6_closed_4 ((61 : Int32)) (by decide) ?_
  obtain ⟨g1, h⟩ := sg h
  refine j_iald C X dX6_closed_6 (sh_6_11 ho0) (n := 73) rfl g1 ?_
  refine j_aload_n C dX6_closed_7 0 rfl ?_
  refine j_get C X dX6_closed_8 ho0 rfl rfl 11 (by decide) (fin := false) rfl rfl in_X6 (mU u_327) ?_
  refine j_bipush C dX6_closed_11 ((21 : Int32)) (by decide) ?_
  refine j_iload_n C dX6_closed_13 1 rfl ?_
  refine j_iadd C dX6_closed_14 ?_
  obtain ⟨g2, h⟩ := sg h
  refine j_iald C X dX6_closed_15 (sh_6_11 ho0) (n := 73) rfl g2 ?_
  refine j_icmp_ge C dX6_closed_16 23 (by decide) (fun c3 => ?_) (fun c3 => ?_)
  · have h := (if_pos c3).symm.trans h
    refine j_iconst C dX6_closed_23 ((0 : Int32)) (by decide) ?_
    exact j_zreturn C (by decide) dX6_closed_24 (e_i h hg) (by decide) (by decide)
  · have h := (if_neg c3).symm.trans h
    refine j_iconst C dX6_closed_19 ((1 : Int32)) (by decide) ?_
    refine j_goto C dX6_closed_20 24 (by decide) ?_
    exact j_zreturn C (by decide) dX6_closed_24 (e_i h hg) (by decide) (by decide)
def lp_X6_blast_79 (n : Nat) (o0 : Nat) (a1 : Int32) (a2 : Int32) (σ : Mem) (l1 : Int32) (l2 : Int32) (s0 : Int32) : Option (Int32 × Mem) := (lm (wi σ o0 14 s0) fun σ15 => if (σ15.1 o0 14) ≤ 0 then if inR ((0 : Int32) + l1) 73 then if inR ((0 : Int32) + l1) 73 then (lm (wi σ15 (rf o0 11) (((0 : Int32) + l1)).toNatClampNeg ((σ15.1 (rf o0 11) (((0 : Int32) + l1)).toNatClampNeg) + ((5 : Int32) * l2))) fun σ20 => if inR (70 : Int32) 73 then if inR (70 : Int32) 73 then (lm (wi σ20 (rf o0 11) ((70 : Int32)).toNatClampNeg ((σ20.1 (rf o0 11) ((70 : Int32)).toNatClampNeg) + ((5 : Int32) * l2))) fun σ24 => if inR ((14 : Int32) + l1) 73 then if inR ((14 : Int32) + l1) 73 then (lm (wi σ24 (rf o0 11) (((14 : Int32) + l1)).toNatClampNeg ((σ24.1 (rf o0 11) (((14 : Int32) + l1)).toNatClampNeg) + ((3 : Int32) * l2))) fun σ28 => if inR (61 : Int32) 73 then if inR ((21 : Int32) + l1) 73 then (lm (wi σ28 (rf o0 11) (((21 : Int32) + l1)).toNatClampNeg ((σ28.1 (rf o0 11) ((61 : Int32)).toNatClampNeg) + (30 : Int32))) fun σ32 => if inR ((21 : Int32) + l1) 73 then some ((σ32.1 (rf o0 11) (((21 : Int32) + l1)).toNatClampNeg), σ32) else none) else none else none) else none else none) else none else none) else none else none else some ((0 : Int32), σ15))
def sp_X6_blast (n : Nat) (σ : Mem) (o0 : Nat) (a1 : Int32) (a2 : Int32) : Option (Int32 × Mem) := ((sp_X6_isLevel n σ o0 a1).bind fun q => match q with | (r1, σ2) => if r1 = 0 then lp_X6_blast_79 n o0 a1 a2 σ2 a1 a2 ((1 : Int32)) else ((sp_X6_in n σ2 a2 ((1 : Int32)) ((20 : Int32))).bind fun q => match q with | (r5, σ6) => if r5 = 0 then lp_X6_blast_79 n o0 a1 a2 σ6 a1 a2 ((2 : Int32)) else ((sp_X6_closed n σ6 o0 a1).bind fun q => match q with | (r9, σ10) => if r9 = 0 then if inR ((7 : Int32) + a1) 73 then if 0 < (σ10.1 (rf o0 11) (((7 : Int32) + a1)).toNatClampNeg) then lp_X6_blast_79 n o0 a1 a2 σ10 a1 a2 ((4 : Int32)) else if inR (63 : Int32) 73 then if (σ10.1 (rf o0 11) ((63 : Int32)).toNatClampNeg) = (45 : Int32) then lp_X6_blast_79 n o0 a1 a2 σ10 a1 a2 ((0 : Int32)) else if inR (64 : Int32) 73 then if (σ10.1 (rf o0 11) ((64 : Int32)).toNatClampNeg) = a1 then lp_X6_blast_79 n o0 a1 a2 σ10 a1 a2 ((4 : Int32)) else lp_X6_blast_79 n o0 a1 a2 σ10 a1 a2 ((0 : Int32)) else none else none else none else lp_X6_blast_79 n o0 a1 a2 σ10 a1 a2 ((3 : Int32)))))
abbrev rm_X6_blast : Room := ({ frames := 12, cells := 0, slots := 0, locals := 243 } : Room)
abbrev wu_X6_blast : List Cond := (Cond.code yX6_blast cX6_blast 3 (some .int)) :: wsU
theorem hy_X6_blast : hyOk yX6_blast 2 := by decide +kernel
set_option maxRecDepth 20000 in
set_option maxHeartbeats 4000000 in
theorem c_X6_blast (n : Nat) (G : Gt) (σ : Mem) (o0 : Nat) (a1 : Int32) (a2 : Int32) (ho0 : Ok o0 6) (r : Int32) (σ' : Mem) (h : sp_X6_blast n σ o0 a1 a2 = some (r, σ')) : MM yX6_blast wu_X6_blast rm_X6_blast [.ref (G.2.2 (o0)), .int (a1), .int (a2)] G σ (.inl (some (.int r))) σ' := by
  refine mm_of (cc := cX6_blast) (maxL := 3) (ret := (some .int)) (by decide +kernel) rfl (Nat.le_of_ble_eq_true rfl) (fun x C X hg => ?_)
  have C : Cx x cX6_blast 3 RX6 (some .int) [] wu_X6_blast rm_X6_blast G.1 (tysF G) := C
  have JP79 : ∀ (σ : Mem) (l1 : Int32) (l2 : Int32) (s0 : Int32), lp_X6_blast_79 n o0 a1 a2 σ l1 l2 s0 = some (r, σ') → J x [(0, .ref (G.2.2 (o0))), (1, .int (l1)), (2, .int (l2))] [.int (s0), .ref (G.2.2 (o0))] σ 79 0 0 := by
    intro σ l1 l2 s0  h
    unfold lp_X6_blast_79 at h
    obtain ⟨σ15, e16, h⟩ := lm_e h
    refine j_put C X dX6_blast_79 ho0 (ty0 := tyX6) rfl rfl 14 (by decide) rfl rfl (Nat.le_of_ble_eq_true rfl) tyX6_ok nmX6 (ty := .int) rfl rfl rfl in_X6 (mU u_312) e16 ?_
    refine j_aload_n C dX6_blast_82 0 rfl ?_
    refine j_get C X dX6_blast_83 ho0 rfl rfl 14 (by decide) (fin := false) rfl rfl in_X6 (mU u_312) ?_
    refine j_if_le C dX6_blast_86 91 (by decide) (fun c17 => ?_) (fun c17 => ?_)
    · have h := (if_pos c17).symm.trans h
      refine j_aload_n C dX6_blast_91 0 rfl ?_
      refine j_get C X dX6_blast_92 ho0 rfl rfl 11 (by decide) (fin := false) rfl rfl in_X6 (mU u_327) ?_
      refine j_iconst C dX6_blast_95 ((0 : Int32)) (by decide) ?_
      refine j_iload_n C dX6_blast_96 1 rfl ?_
      refine j_iadd C dX6_blast_97 ?_
      refine j_dup2 C dX6_blast_98 rfl rfl ?_
      obtain ⟨g18, h⟩ := sg h
      refine j_iald C X dX6_blast_99 (sh_6_11 ho0) (n := 73) rfl g18 ?_
      refine j_iconst C dX6_blast_100 ((5 : Int32)) (by decide) ?_
      refine j_iload_n C dX6_blast_101 2 rfl ?_
      refine j_imul C dX6_blast_102 ?_
      refine j_iadd C dX6_blast_103 ?_
      obtain ⟨g19, h⟩ := sg h
      obtain ⟨σ20, e21, h⟩ := lm_e h
      refine j_iast C X dX6_blast_104 (sh_6_11 ho0) (n := 73) (fun _ => rfl) g19 e21 ?_
      refine j_aload_n C dX6_blast_105 0 rfl ?_
      refine j_get C X dX6_blast_106 ho0 rfl rfl 11 (by decide) (fin := false) rfl rfl in_X6 (mU u_327) ?_
      refine j_bipush C dX6_blast_109 ((70 : Int32)) (by decide) ?_
      refine j_dup2 C dX6_blast_111 rfl rfl ?_
      obtain ⟨g22, h⟩ := sg h
      refine j_iald C X dX6_blast_112 (sh_6_11 ho0) (n := 73) rfl g22 ?_
      refine j_iconst C dX6_blast_113 ((5 : Int32)) (by decide) ?_
      refine j_iload_n C dX6_blast_114 2 rfl ?_
      refine j_imul C dX6_blast_115 ?_
      refine j_iadd C dX6_blast_116 ?_
      obtain ⟨g23, h⟩ := sg h
      obtain ⟨σ24, e25, h⟩ := lm_e h
      refine j_iast C X dX6_blast_117 (sh_6_11 ho0) (n := 73) (fun _ => rfl) g23 e25 ?_
      refine j_aload_n C dX6_blast_118 0 rfl ?_
      refine j_get C X dX6_blast_119 ho0 rfl rfl 11 (by decide) (fin := false) rfl rfl in_X6 (mU u_327) ?_
      refine j_bipush C dX6_blast_122 ((14 : Int32)) (by decide) ?_
      refine j_iload_n C dX6_blast_124 1 rfl ?_
      refine j_iadd C dX6_blast_125 ?_
      refine j_dup2 C dX6_blast_126 rfl rfl ?_
      obtain ⟨g26, h⟩ := sg h
      refine j_iald C X dX6_blast_127 (sh_6_11 ho0) (n := 73) rfl g26 ?_
      refine j_iconst C dX6_blast_128 ((3 : Int32)) (by decide) ?_
      refine j_iload_n C dX6_blast_129 2 rfl ?_
      refine j_imul C dX6_blast_130 ?_
      refine j_iadd C dX6_blast_131 ?_
      obtain ⟨g27, h⟩ := sg h
      obtain ⟨σ28, e29, h⟩ := lm_e h
      refine j_iast C X dX6_blast_132 (sh_6_11 ho0) (n := 73) (fun _ => rfl) g27 e29 ?_
      refine j_aload_n C dX6_blast_133 0 rfl ?_
      refine j_get C X dX6_blast_134 ho0 rfl rfl 11 (by decide) (fin := false) rfl rfl in_X6 (mU u_327) ?_
      refine j_bipush C dX6_blast_137 ((21 : Int32)) (by decide) ?_
      refine j_iload_n C dX6_blast_139 1 rfl ?_
      refine j_iadd C dX6_blast_140 ?_
      refine j_aload_n C dX6_blast_141 0 rfl ?_
      refine j_get C X dX6_blast_142 ho0 rfl rfl 11 (by decide) (fin := false) rfl rfl in_X6 (mU u_327) ?_
      refine j_bipush C dX6_blast_145 ((61 : Int32)) (by decide) ?_
      obtain ⟨g30, h⟩ := sg h
      refine j_iald C X dX6_blast_147 (sh_6_11 ho0) (n := 73) rfl g30 ?_
      refine j_bipush C dX6_blast_148 ((30 : Int32)) (by decide) ?_
      refine j_iadd C dX6_blast_150 ?_
      obtain ⟨g31, h⟩ := sg h
      obtain ⟨σ32, e33, h⟩ := lm_e h
      refine j_iast C X dX6_blast_151 (sh_6_11 ho0) (n := 73) (fun _ => rfl) g31 e33 ?_
      refine j_aload_n C dX6_blast_152 0 rfl ?_
      refine j_get C X dX6_blast_153 ho0 rfl rfl 11 (by decide) (fin := false) rfl rfl in_X6 (mU u_327) ?_
      refine j_bipush C dX6_blast_156 ((21 : Int32)) (by decide) ?_
      refine j_iload_n C dX6_blast_158 1 rfl ?_
      refine j_iadd C dX6_blast_159 ?_
      obtain ⟨g34, h⟩ := sg h
      refine j_iald C X dX6_blast_160 (sh_6_11 ho0) (n := 73) rfl g34 ?_
      exact j_ireturn C dX6_blast_161 (e_i h hg) (by decide) (by decide)
    · have h := (if_neg c17).symm.trans h
      refine j_iconst C dX6_blast_89 ((0 : Int32)) (by decide) ?_
      exact j_ireturn C dX6_blast_90 (e_i h hg) (by decide) (by decide)
  unfold sp_X6_blast at h
  show J x [(0, .ref (G.2.2 (o0))), (1, .int (a1)), (2, .int (a2))] [] σ 0 0 0
  refine j_aload_n C dX6_blast_0 0 rfl ?_
  refine j_aload_n C dX6_blast_1 0 rfl ?_
  refine j_iload_n C dX6_blast_2 1 rfl ?_
  obtain ⟨⟨r1, σ2⟩, h3, h⟩ := ob h
  try dsimp only at h
  refine j_callV C X (c_X6_isLevel n G σ o0 a1 ho0 _ _ h3) dX6_blast_3 (gV u_318 u_320 u_321 u_315 u_319) rfl hy_X6_isLevel rfl ho0 rfl (ci := 10) rfl rfl rfl (by decide) (Nat.le_of_ble_eq_true rfl) (by decide) ?_
  refine j_if_ne C dX6_blast_6 13 (by decide) (fun c4 => ?_) (fun c4 => ?_)
  · have h := (if_neg c4).symm.trans h
    refine j_iload_n C dX6_blast_13 2 rfl ?_
    refine j_iconst C dX6_blast_14 ((1 : Int32)) (by decide) ?_
    refine j_bipush C dX6_blast_15 ((20 : Int32)) (by decide) ?_
    obtain ⟨⟨r5, σ6⟩, h7, h⟩ := ob h
    try dsimp only at h
    refine j_callS C X (c_X6_in n G σ2 a2 ((1 : Int32)) ((20 : Int32))  _ _ h7) dX6_blast_17 (gS u_314 u_317 u_315 u_316) rfl hy_X6_in rfl rfl (by decide) (Nat.le_of_ble_eq_true rfl) (by decide) ?_
    refine j_if_ne C dX6_blast_20 27 (by decide) (fun c8 => ?_) (fun c8 => ?_)
    · have h := (if_neg c8).symm.trans h
      refine j_aload_n C dX6_blast_27 0 rfl ?_
      refine j_iload_n C dX6_blast_28 1 rfl ?_
      obtain ⟨⟨r9, σ10⟩, h11, h⟩ := ob h
      try dsimp only at h
      refine j_callV C X (c_X6_closed n G σ6 o0 a1 ho0 _ _ h11) dX6_blast_29 (gV u_377 u_379 u_380 u_315 u_378) rfl hy_X6_closed rfl ho0 rfl (ci := 10) rfl rfl rfl (by decide) (Nat.le_of_ble_eq_true rfl) (by decide) ?_
      refine j_if_eq C dX6_blast_32 39 (by decide) (fun c12 => ?_) (fun c12 => ?_)
      · have h := (if_pos c12).symm.trans h
        refine j_aload_n C dX6_blast_39 0 rfl ?_
        refine j_get C X dX6_blast_40 ho0 rfl rfl 11 (by decide) (fin := false) rfl rfl in_X6 (mU u_327) ?_
        refine j_bipush C dX6_blast_43 ((7 : Int32)) (by decide) ?_
        refine j_iload_n C dX6_blast_45 1 rfl ?_
        refine j_iadd C dX6_blast_46 ?_
        obtain ⟨g13, h⟩ := sg h
        refine j_iald C X dX6_blast_47 (sh_6_11 ho0) (n := 73) rfl g13 ?_
        refine j_if_gt C dX6_blast_48 74 (by decide) (fun c14 => ?_) (fun c14 => ?_)
        · have h := (if_pos c14).symm.trans h
          refine j_iconst C dX6_blast_74 ((4 : Int32)) (by decide) ?_
          refine j_goto C dX6_blast_75 79 (by decide) ?_
          refine j_sub [0, 1, 2] [(0, .ref (G.2.2 (o0))), (1, .int (a1)), (2, .int (a2))] rfl ?_
          exact JP79 σ10 a1 a2 ((4 : Int32))  h
        · have h := (if_neg c14).symm.trans h
          refine j_aload_n C dX6_blast_51 0 rfl ?_
          refine j_get C X dX6_blast_52 ho0 rfl rfl 11 (by decide) (fin := false) rfl rfl in_X6 (mU u_327) ?_
          refine j_bipush C dX6_blast_55 ((63 : Int32)) (by decide) ?_
          obtain ⟨g35, h⟩ := sg h
          refine j_iald C X dX6_blast_57 (sh_6_11 ho0) (n := 73) rfl g35 ?_
          refine j_bipush C dX6_blast_58 ((45 : Int32)) (by decide) ?_
          refine j_icmp_eq C dX6_blast_60 78 (by decide) (fun c36 => ?_) (fun c36 => ?_)
          · have h := (if_pos c36).symm.trans h
            refine j_iconst C dX6_blast_78 ((0 : Int32)) (by decide) ?_
            refine j_sub [0, 1, 2] [(0, .ref (G.2.2 (o0))), (1, .int (a1)), (2, .int (a2))] rfl ?_
            exact JP79 σ10 a1 a2 ((0 : Int32))  h
          · have h := (if_neg c36).symm.trans h
            refine j_aload_n C dX6_blast_63 0 rfl ?_
            refine j_get C X dX6_blast_64 ho0 rfl rfl 11 (by decide) (fin := false) rfl rfl in_X6 (mU u_327) ?_
            refine j_bipush C dX6_blast_67 ((64 : Int32)) (by decide) ?_
            obtain ⟨g37, h⟩ := sg h
            refine j_iald C X dX6_blast_69 (sh_6_11 ho0) (n := 73) rfl g37 ?_
            refine j_iload_n C dX6_blast_70 1 rfl ?_
            refine j_icmp_ne C dX6_blast_71 78 (by decide) (fun c38 => ?_) (fun c38 => ?_)
            · have h := (if_neg c38).symm.trans h
              refine j_iconst C dX6_blast_78 ((0 : Int32)) (by decide) ?_
              refine j_sub [0, 1, 2] [(0, .ref (G.2.2 (o0))), (1, .int (a1)), (2, .int (a2))] rfl ?_
              exact JP79 σ10 a1 a2 ((0 : Int32))  h
            · have h := (if_pos c38).symm.trans h
              refine j_iconst C dX6_blast_74 ((4 : Int32)) (by decide) ?_
              refine j_goto C dX6_blast_75 79 (by decide) ?_
              refine j_sub [0, 1, 2] [(0, .ref (G.2.2 (o0))), (1, .int (a1)), (2, .int (a2))] rfl ?_
              exact JP79 σ10 a1 a2 ((4 : Int32))  h
      · have h := (if_neg c12).symm.trans h
        refine j_iconst C dX6_blast_35 ((3 : Int32)) (by decide) ?_
        refine j_goto C dX6_blast_36 79 (by decide) ?_
        refine j_sub [0, 1, 2] [(0, .ref (G.2.2 (o0))), (1, .int (a1)), (2, .int (a2))] rfl ?_
        exact JP79 σ10 a1 a2 ((3 : Int32))  h
    · have h := (if_pos c8).symm.trans h
      refine j_iconst C dX6_blast_23 ((2 : Int32)) (by decide) ?_
      refine j_goto C dX6_blast_24 79 (by decide) ?_
      refine j_sub [0, 1, 2] [(0, .ref (G.2.2 (o0))), (1, .int (a1)), (2, .int (a2))] rfl ?_
      exact JP79 σ6 a1 a2 ((2 : Int32))  h
  · have h := (if_pos c4).symm.trans h
    refine j_iconst C dX6_blast_9 ((1 : Int32)) (by decide) ?_
    refine j_goto C dX6_blast_10 79 (by decide) ?_
    refine j_sub [0, 1, 2] [(0, .ref (G.2.2 (o0))), (1, .int (a1)), (2, .int (a2))] rfl ?_
    exact JP79 σ2 a1 a2 ((1 : Int32))  h
def sp_X6_isClosed (n : Nat) (σ : Mem) (o0 : Nat) (a1 : Int32) : Option (Int32 × Mem) := ((sp_X6_lacks n σ o0 a1).bind fun q => match q with | (r1, σ2) => if r1 = 0 then ((sp_X6_closed n σ2 o0 a1).bind fun q => match q with | (r5, σ6) => if r5 = 0 then some ((0 : Int32), σ6) else some ((1 : Int32), σ6)) else some ((0 : Int32), σ2))
abbrev rm_X6_isClosed : Room := ({ frames := 13, cells := 0, slots := 0, locals := 264 } : Room)
abbrev wu_X6_isClosed : List Cond := (Cond.code yX6_isClosed cX6_isClosed 2 (some .boolean)) :: wsU
theorem hy_X6_isClosed : hyOk yX6_isClosed 1 := by decide +kernel
set_option maxRecDepth 20000 in
set_option maxHeartbeats 4000000 in
theorem c_X6_isClosed (n : Nat) (G : Gt) (σ : Mem) (o0 : Nat) (a1 : Int32) (ho0 : Ok o0 6) (r : Int32) (σ' : Mem) (h : sp_X6_isClosed n σ o0 a1 = some (r, σ')) : MM yX6_isClosed wu_X6_isClosed rm_X6_isClosed [.ref (G.2.2 (o0)), .int (a1)] G σ (.inl (some (.int r))) σ' := by
  refine mm_of (cc := cX6_isClosed) (maxL := 2) (ret := (some .boolean)) (by decide +kernel) rfl (Nat.le_of_ble_eq_true rfl) (fun x C X hg => ?_)
  have C : Cx x cX6_isClosed 2 RX6 (some .boolean) [] wu_X6_isClosed rm_X6_isClosed G.1 (tysF G) := C
  unfold sp_X6_isClosed at h
  show J x [(0, .ref (G.2.2 (o0))), (1, .int (a1))] [] σ 0 0 0
  refine j_aload_n C dX6_isClosed_0 0 rfl ?_
  refine j_iload_n C dX6_isClosed_1 1 rfl ?_
  obtain ⟨⟨r1, σ2⟩, h3, h⟩ := ob h
  try dsimp only at h
  refine j_callV C X (c_X6_lacks n G σ o0 a1 ho0 _ _ h3) dX6_isClosed_2 (gV u_333 u_335 u_336 u_315 u_334) rfl hy_X6_lacks rfl ho0 rfl (ci := 10) rfl rfl rfl (by decide) (Nat.le_of_ble_eq_true rfl) (by decide) ?_
  refine j_if_ne C dX6_isClosed_5 20 (by decide) (fun c4 => ?_) (fun c4 => ?_)
  · have h := (if_neg c4).symm.trans h
    refine j_iconst C dX6_isClosed_20 ((0 : Int32)) (by decide) ?_
    exact j_zreturn C (by decide) dX6_isClosed_21 (e_i h hg) (by decide) (by decide)
  · have h := (if_pos c4).symm.trans h
    refine j_aload_n C dX6_isClosed_8 0 rfl ?_
    refine j_iload_n C dX6_isClosed_9 1 rfl ?_
    obtain ⟨⟨r5, σ6⟩, h7, h⟩ := ob h
    try dsimp only at h
    refine j_callV C X (c_X6_closed n G σ2 o0 a1 ho0 _ _ h7) dX6_isClosed_10 (gV u_377 u_379 u_380 u_315 u_378) rfl hy_X6_closed rfl ho0 rfl (ci := 10) rfl rfl rfl (by decide) (Nat.le_of_ble_eq_true rfl) (by decide) ?_
    refine j_if_eq C dX6_isClosed_13 20 (by decide) (fun c8 => ?_) (fun c8 => ?_)
    · have h := (if_pos c8).symm.trans h
      refine j_iconst C dX6_isClosed_20 ((0 : Int32)) (by decide) ?_
      exact j_zreturn C (by decide) dX6_isClosed_21 (e_i h hg) (by decide) (by decide)
    · have h := (if_neg c8).symm.trans h
      refine j_iconst C dX6_isClosed_16 ((1 : Int32)) (by decide) ?_
      refine j_goto C dX6_isClosed_17 21 (by decide) ?_
      exact j_zreturn C (by decide) dX6_isClosed_21 (e_i h hg) (by decide) (by decide)
def sp_X6_setSpeed (n : Nat) (σ : Mem) (o0 : Nat) (a1 : Int32) : Option (Int32 × Mem) := ((sp_X6_in n σ a1 ((10 : Int32)) ((500 : Int32))).bind fun q => match q with | (r1, σ2) => if r1 = 0 then (lm (wi σ2 o0 14 (1 : Int32)) fun σ5 => if (σ5.1 o0 14) ≤ 0 then (lm (wi σ5 o0 8 a1) fun σ8 => some ((σ5.1 o0 8), σ8)) else some ((0 : Int32), σ5)) else (lm (wi σ2 o0 14 (0 : Int32)) fun σ10 => if (σ10.1 o0 14) ≤ 0 then (lm (wi σ10 o0 8 a1) fun σ13 => some ((σ10.1 o0 8), σ13)) else some ((0 : Int32), σ10)))
abbrev rm_X6_setSpeed : Room := ({ frames := 11, cells := 0, slots := 0, locals := 222 } : Room)
abbrev wu_X6_setSpeed : List Cond := (Cond.code yX6_setSpeed cX6_setSpeed 3 (some .int)) :: wsU
theorem hy_X6_setSpeed : hyOk yX6_setSpeed 1 := by decide +kernel
set_option maxRecDepth 20000 in
set_option maxHeartbeats 4000000 in
theorem c_X6_setSpeed (n : Nat) (G : Gt) (σ : Mem) (o0 : Nat) (a1 : Int32) (ho0 : Ok o0 6) (r : Int32) (σ' : Mem) (h : sp_X6_setSpeed n σ o0 a1 = some (r, σ')) : MM yX6_setSpeed wu_X6_setSpeed rm_X6_setSpeed [.ref (G.2.2 (o0)), .int (a1)] G σ (.inl (some (.int r))) σ' := by
  refine mm_of (cc := cX6_setSpeed) (maxL := 3) (ret := (some .int)) (by decide +kernel) rfl (Nat.le_of_ble_eq_true rfl) (fun x C X hg => ?_)
  have C : Cx x cX6_setSpeed 3 RX6 (some .int) [] wu_X6_setSpeed rm_X6_setSpeed G.1 (tysF G) := C
  unfold sp_X6_setSpeed at h
  show J x [(0, .ref (G.2.2 (o0))), (1, .int (a1))] [] σ 0 0 0
  refine j_aload_n C dX6_setSpeed_0 0 rfl ?_
  refine j_iload_n C dX6_setSpeed_1 1 rfl ?_
  refine j_bipush C dX6_setSpeed_2 ((10 : Int32)) (by decide) ?_
  refine j_sipush C dX6_setSpeed_4 ((500 : Int32)) (by decide) ?_
  obtain ⟨⟨r1, σ2⟩, h3, h⟩ := ob h
  try dsimp only at h
  refine j_callS C X (c_X6_in n G σ a1 ((10 : Int32)) ((500 : Int32))  _ _ h3) dX6_setSpeed_7 (gS u_314 u_317 u_315 u_316) rfl hy_X6_in rfl rfl (by decide) (Nat.le_of_ble_eq_true rfl) (by decide) ?_
  refine j_if_eq C dX6_setSpeed_10 17 (by decide) (fun c4 => ?_) (fun c4 => ?_)
  · have h := (if_pos c4).symm.trans h
    refine j_iconst C dX6_setSpeed_17 ((1 : Int32)) (by decide) ?_
    obtain ⟨σ5, e6, h⟩ := lm_e h
    refine j_put C X dX6_setSpeed_18 ho0 (ty0 := tyX6) rfl rfl 14 (by decide) rfl rfl (Nat.le_of_ble_eq_true rfl) tyX6_ok nmX6 (ty := .int) rfl rfl rfl in_X6 (mU u_312) e6 ?_
    refine j_aload_n C dX6_setSpeed_21 0 rfl ?_
    refine j_get C X dX6_setSpeed_22 ho0 rfl rfl 14 (by decide) (fin := false) rfl rfl in_X6 (mU u_312) ?_
    refine j_if_le C dX6_setSpeed_25 30 (by decide) (fun c7 => ?_) (fun c7 => ?_)
    · have h := (if_pos c7).symm.trans h
      refine j_aload_n C dX6_setSpeed_30 0 rfl ?_
      refine j_get C X dX6_setSpeed_31 ho0 rfl rfl 8 (by decide) (fin := false) rfl rfl in_X6 (mU u_381) ?_
      refine j_istore_n C dX6_setSpeed_34 (by decide) [(2, .int ((σ5.1 o0 8))), (0, .ref (G.2.2 (o0))), (1, .int (a1))] rfl ?_
      refine j_aload_n C dX6_setSpeed_35 1 rfl ?_
      refine j_iload_n C dX6_setSpeed_36 2 rfl ?_
      obtain ⟨σ8, e9, h⟩ := lm_e h
      refine j_put C X dX6_setSpeed_37 ho0 (ty0 := tyX6) rfl rfl 8 (by decide) rfl rfl (Nat.le_of_ble_eq_true rfl) tyX6_ok nmX6 (ty := .int) rfl rfl rfl in_X6 (mU u_381) e9 ?_
      refine j_iload_n C dX6_setSpeed_40 0 rfl ?_
      exact j_ireturn C dX6_setSpeed_41 (e_i h hg) (by decide) (by decide)
    · have h := (if_neg c7).symm.trans h
      refine j_iconst C dX6_setSpeed_28 ((0 : Int32)) (by decide) ?_
      exact j_ireturn C dX6_setSpeed_29 (e_i h hg) (by decide) (by decide)
  · have h := (if_neg c4).symm.trans h
    refine j_iconst C dX6_setSpeed_13 ((0 : Int32)) (by decide) ?_
    refine j_goto C dX6_setSpeed_14 18 (by decide) ?_
    obtain ⟨σ10, e11, h⟩ := lm_e h
    refine j_put C X dX6_setSpeed_18 ho0 (ty0 := tyX6) rfl rfl 14 (by decide) rfl rfl (Nat.le_of_ble_eq_true rfl) tyX6_ok nmX6 (ty := .int) rfl rfl rfl in_X6 (mU u_312) e11 ?_
    refine j_aload_n C dX6_setSpeed_21 0 rfl ?_
    refine j_get C X dX6_setSpeed_22 ho0 rfl rfl 14 (by decide) (fin := false) rfl rfl in_X6 (mU u_312) ?_
    refine j_if_le C dX6_setSpeed_25 30 (by decide) (fun c12 => ?_) (fun c12 => ?_)
    · have h := (if_pos c12).symm.trans h
      refine j_aload_n C dX6_setSpeed_30 0 rfl ?_
      refine j_get C X dX6_setSpeed_31 ho0 rfl rfl 8 (by decide) (fin := false) rfl rfl in_X6 (mU u_381) ?_
      refine j_istore_n C dX6_setSpeed_34 (by decide) [(2, .int ((σ10.1 o0 8))), (0, .ref (G.2.2 (o0))), (1, .int (a1))] rfl ?_
      refine j_aload_n C dX6_setSpeed_35 1 rfl ?_
      refine j_iload_n C dX6_setSpeed_36 2 rfl ?_
      obtain ⟨σ13, e14, h⟩ := lm_e h
      refine j_put C X dX6_setSpeed_37 ho0 (ty0 := tyX6) rfl rfl 8 (by decide) rfl rfl (Nat.le_of_ble_eq_true rfl) tyX6_ok nmX6 (ty := .int) rfl rfl rfl in_X6 (mU u_381) e14 ?_
      refine j_iload_n C dX6_setSpeed_40 0 rfl ?_
      exact j_ireturn C dX6_setSpeed_41 (e_i h hg) (by decide) (by decide)
    · have h := (if_neg c12).symm.trans h
      refine j_iconst C dX6_setSpeed_28 ((0 : Int32)) (by decide) ?_
      exact j_ireturn C dX6_setSpeed_29 (e_i h hg) (by decide) (by decide)
def sp_X6_waits (n : Nat) (σ : Mem) (o0 : Nat) (a1 : Int32) (a2 : Int32) (a3 : Int32) : Option (Int32 × Mem) := if inR (60 : Int32) 73 then if inR ((28 : Int32) + ((4 : Int32) * (σ.1 (rf o0 11) ((60 : Int32)).toNatClampNeg))) 73 then (lm (wi σ (rf o0 11) (((28 : Int32) + ((4 : Int32) * (σ.1 (rf o0 11) ((60 : Int32)).toNatClampNeg)))).toNatClampNeg (σ.1 o0 9)) fun σ3 => if inR (((28 : Int32) + ((4 : Int32) * (σ.1 (rf o0 11) ((60 : Int32)).toNatClampNeg))) + (1 : Int32)) 73 then (lm (wi σ3 (rf o0 11) ((((28 : Int32) + ((4 : Int32) * (σ.1 (rf o0 11) ((60 : Int32)).toNatClampNeg))) + (1 : Int32))).toNatClampNeg a1) fun σ6 => if inR (((28 : Int32) + ((4 : Int32) * (σ.1 (rf o0 11) ((60 : Int32)).toNatClampNeg))) + (2 : Int32)) 73 then (lm (wi σ6 (rf o0 11) ((((28 : Int32) + ((4 : Int32) * (σ.1 (rf o0 11) ((60 : Int32)).toNatClampNeg))) + (2 : Int32))).toNatClampNeg a2) fun σ9 => if inR (((28 : Int32) + ((4 : Int32) * (σ.1 (rf o0 11) ((60 : Int32)).toNatClampNeg))) + (3 : Int32)) 73 then (lm (wi σ9 (rf o0 11) ((((28 : Int32) + ((4 : Int32) * (σ.1 (rf o0 11) ((60 : Int32)).toNatClampNeg))) + (3 : Int32))).toNatClampNeg a3) fun σ12 => if inR (60 : Int32) 73 then if inR (60 : Int32) 73 then (lm (wi σ12 (rf o0 11) ((60 : Int32)).toNatClampNeg ((σ12.1 (rf o0 11) ((60 : Int32)).toNatClampNeg) + (1 : Int32))) fun σ16 => (lm (wi σ16 o0 9 ((σ16.1 o0 9) + (1 : Int32))) fun σ18 => some (((σ18.1 o0 9) - (1 : Int32)), σ18))) else none else none) else none) else none) else none) else none else none
abbrev rm_X6_waits : Room := ({ frames := 10, cells := 0, slots := 0, locals := 200 } : Room)
abbrev wu_X6_waits : List Cond := (Cond.code yX6_waits cX6_waits 5 (some .int)) :: wsU
theorem hy_X6_waits : hyOk yX6_waits 3 := by decide +kernel
set_option maxRecDepth 20000 in
set_option maxHeartbeats 4000000 in
theorem c_X6_waits (n : Nat) (G : Gt) (σ : Mem) (o0 : Nat) (a1 : Int32) (a2 : Int32) (a3 : Int32) (ho0 : Ok o0 6) (r : Int32) (σ' : Mem) (h : sp_X6_waits n σ o0 a1 a2 a3 = some (r, σ')) : MM yX6_waits wu_X6_waits rm_X6_waits [.ref (G.2.2 (o0)), .int (a1), .int (a2), .int (a3)] G σ (.inl (some (.int r))) σ' := by
  refine mm_of (cc := cX6_waits) (maxL := 5) (ret := (some .int)) (by decide +kernel) rfl (Nat.le_of_ble_eq_true rfl) (fun x C X hg => ?_)
  have C : Cx x cX6_waits 5 RX6 (some .int) [] wu_X6_waits rm_X6_waits G.1 (tysF G) := C
  unfold sp_X6_waits at h
  show J x [(0, .ref (G.2.2 (o0))), (1, .int (a1)), (2, .int (a2)), (3, .int (a3))] [] σ 0 0 0
  refine j_bipush C dX6_waits_0 ((28 : Int32)) (by decide) ?_
  refine j_iconst C dX6_waits_2 ((4 : Int32)) (by decide) ?_
  refine j_aload_n C dX6_waits_3 0 rfl ?_
  refine j_get C X dX6_waits_4 ho0 rfl rfl 11 (by decide) (fin := false) rfl rfl in_X6 (mU u_327) ?_
  refine j_bipush C dX6_waits_7 ((60 : Int32)) (by decide) ?_
  obtain ⟨g1, h⟩ := sg h
  refine j_iald C X dX6_waits_9 (sh_6_11 ho0) (n := 73) rfl g1 ?_
  refine j_imul C dX6_waits_10 ?_
  refine j_iadd C dX6_waits_11 ?_
  refine j_istore C dX6_waits_12 (by decide) [(4, .int (((28 : Int32) + ((4 : Int32) * (σ.1 (rf o0 11) ((60 : Int32)).toNatClampNeg))))), (0, .ref (G.2.2 (o0))), (1, .int (a1)), (2, .int (a2)), (3, .int (a3))] rfl ?_
  refine j_aload_n C dX6_waits_14 1 rfl ?_
  refine j_get C X dX6_waits_15 ho0 rfl rfl 11 (by decide) (fin := false) rfl rfl in_X6 (mU u_327) ?_
  refine j_iload C dX6_waits_18 0 rfl ?_
  refine j_aload_n C dX6_waits_20 1 rfl ?_
  refine j_get C X dX6_waits_21 ho0 rfl rfl 9 (by decide) (fin := false) rfl rfl in_X6 (mU u_382) ?_
  obtain ⟨g2, h⟩ := sg h
  obtain ⟨σ3, e4, h⟩ := lm_e h
  refine j_iast C X dX6_waits_24 (sh_6_11 ho0) (n := 73) (fun _ => rfl) g2 e4 ?_
  refine j_aload_n C dX6_waits_25 1 rfl ?_
  refine j_get C X dX6_waits_26 ho0 rfl rfl 11 (by decide) (fin := false) rfl rfl in_X6 (mU u_327) ?_
  refine j_iload C dX6_waits_29 0 rfl ?_
  refine j_iconst C dX6_waits_31 ((1 : Int32)) (by decide) ?_
  refine j_iadd C dX6_waits_32 ?_
  refine j_iload_n C dX6_waits_33 2 rfl ?_
  obtain ⟨g5, h⟩ := sg h
  obtain ⟨σ6, e7, h⟩ := lm_e h
  refine j_iast C X dX6_waits_34 (sh_6_11 ho0) (n := 73) (fun _ => rfl) g5 e7 ?_
  refine j_aload_n C dX6_waits_35 1 rfl ?_
  refine j_get C X dX6_waits_36 ho0 rfl rfl 11 (by decide) (fin := false) rfl rfl in_X6 (mU u_327) ?_
  refine j_iload C dX6_waits_39 0 rfl ?_
  refine j_iconst C dX6_waits_41 ((2 : Int32)) (by decide) ?_
  refine j_iadd C dX6_waits_42 ?_
  refine j_iload_n C dX6_waits_43 3 rfl ?_
  obtain ⟨g8, h⟩ := sg h
  obtain ⟨σ9, e10, h⟩ := lm_e h
  refine j_iast C X dX6_waits_44 (sh_6_11 ho0) (n := 73) (fun _ => rfl) g8 e10 ?_
  refine j_aload_n C dX6_waits_45 1 rfl ?_
  refine j_get C X dX6_waits_46 ho0 rfl rfl 11 (by decide) (fin := false) rfl rfl in_X6 (mU u_327) ?_
  refine j_iload C dX6_waits_49 0 rfl ?_
  refine j_iconst C dX6_waits_51 ((3 : Int32)) (by decide) ?_
  refine j_iadd C dX6_waits_52 ?_
  refine j_iload_n C dX6_waits_53 4 rfl ?_
  obtain ⟨g11, h⟩ := sg h
  obtain ⟨σ12, e13, h⟩ := lm_e h
  refine j_iast C X dX6_waits_54 (sh_6_11 ho0) (n := 73) (fun _ => rfl) g11 e13 ?_
  refine j_aload_n C dX6_waits_55 1 rfl ?_
  refine j_get C X dX6_waits_56 ho0 rfl rfl 11 (by decide) (fin := false) rfl rfl in_X6 (mU u_327) ?_
  refine j_bipush C dX6_waits_59 ((60 : Int32)) (by decide) ?_
  refine j_dup2 C dX6_waits_61 rfl rfl ?_
  obtain ⟨g14, h⟩ := sg h
  refine j_iald C X dX6_waits_62 (sh_6_11 ho0) (n := 73) rfl g14 ?_
  refine j_iconst C dX6_waits_63 ((1 : Int32)) (by decide) ?_
  refine j_iadd C dX6_waits_64 ?_
  obtain ⟨g15, h⟩ := sg h
  obtain ⟨σ16, e17, h⟩ := lm_e h
  refine j_iast C X dX6_waits_65 (sh_6_11 ho0) (n := 73) (fun _ => rfl) g15 e17 ?_
  refine j_aload_n C dX6_waits_66 1 rfl ?_
  refine j_dup C dX6_waits_67 rfl ?_
  refine j_get C X dX6_waits_68 ho0 rfl rfl 9 (by decide) (fin := false) rfl rfl in_X6 (mU u_382) ?_
  refine j_iconst C dX6_waits_71 ((1 : Int32)) (by decide) ?_
  refine j_iadd C dX6_waits_72 ?_
  obtain ⟨σ18, e19, h⟩ := lm_e h
  refine j_put C X dX6_waits_73 ho0 (ty0 := tyX6) rfl rfl 9 (by decide) rfl rfl (Nat.le_of_ble_eq_true rfl) tyX6_ok nmX6 (ty := .int) rfl rfl rfl in_X6 (mU u_382) e19 ?_
  refine j_aload_n C dX6_waits_76 1 rfl ?_
  refine j_get C X dX6_waits_77 ho0 rfl rfl 9 (by decide) (fin := false) rfl rfl in_X6 (mU u_382) ?_
  refine j_iconst C dX6_waits_80 ((1 : Int32)) (by decide) ?_
  refine j_isub C dX6_waits_81 ?_
  exact j_ireturn C dX6_waits_82 (e_i h hg) (by decide) (by decide)
def lp_X6_sendDown_64 (n : Nat) (o0 : Nat) (a1 : Int32) (a2 : Int32) (σ : Mem) (l1 : Int32) (l2 : Int32) (s0 : Int32) : Option (Int32 × Mem) := (lm (wi σ o0 14 s0) fun σ13 => if (σ13.1 o0 14) ≤ 0 then ((sp_X6_waits n σ13 o0 ((100 : Int32)) l1 l2).bind fun q => match q with | (r16, σ17) => some (r16, σ17)) else some ((0 : Int32), σ13))
def sp_X6_sendDown (n : Nat) (σ : Mem) (o0 : Nat) (a1 : Int32) (a2 : Int32) : Option (Int32 × Mem) := ((sp_X6_isLevel n σ o0 a1).bind fun q => match q with | (r1, σ2) => if r1 = 0 then lp_X6_sendDown_64 n o0 a1 a2 σ2 a1 a2 ((1 : Int32)) else ((sp_X6_in n σ2 a2 ((1 : Int32)) ((12 : Int32))).bind fun q => match q with | (r5, σ6) => if r5 = 0 then lp_X6_sendDown_64 n o0 a1 a2 σ6 a1 a2 ((2 : Int32)) else ((sp_X6_alarms n σ6 o0 a1).bind fun q => match q with | (r9, σ10) => if r9 = 0 then ((sp_X6_closed n σ10 o0 a1).bind fun q => match q with | (r19, σ20) => if r19 = 0 then if inR (60 : Int32) 73 then if (σ20.1 (rf o0 11) ((60 : Int32)).toNatClampNeg) = (8 : Int32) then lp_X6_sendDown_64 n o0 a1 a2 σ20 a1 a2 ((4 : Int32)) else lp_X6_sendDown_64 n o0 a1 a2 σ20 a1 a2 ((0 : Int32)) else none else lp_X6_sendDown_64 n o0 a1 a2 σ20 a1 a2 ((3 : Int32))) else lp_X6_sendDown_64 n o0 a1 a2 σ10 a1 a2 ((3 : Int32)))))
abbrev rm_X6_sendDown : Room := ({ frames := 12, cells := 0, slots := 0, locals := 243 } : Room)
abbrev wu_X6_sendDown : List Cond := (Cond.code yX6_sendDown cX6_sendDown 3 (some .int)) :: wsU
theorem hy_X6_sendDown : hyOk yX6_sendDown 2 := by decide +kernel
set_option maxRecDepth 20000 in
set_option maxHeartbeats 4000000 in
theorem c_X6_sendDown (n : Nat) (G : Gt) (σ : Mem) (o0 : Nat) (a1 : Int32) (a2 : Int32) (ho0 : Ok o0 6) (r : Int32) (σ' : Mem) (h : sp_X6_sendDown n σ o0 a1 a2 = some (r, σ')) : MM yX6_sendDown wu_X6_sendDown rm_X6_sendDown [.ref (G.2.2 (o0)), .int (a1), .int (a2)] G σ (.inl (some (.int r))) σ' := by
  refine mm_of (cc := cX6_sendDown) (maxL := 3) (ret := (some .int)) (by decide +kernel) rfl (Nat.le_of_ble_eq_true rfl) (fun x C X hg => ?_)
  have C : Cx x cX6_sendDown 3 RX6 (some .int) [] wu_X6_sendDown rm_X6_sendDown G.1 (tysF G) := C
  have JP64 : ∀ (σ : Mem) (l1 : Int32) (l2 : Int32) (s0 : Int32), lp_X6_sendDown_64 n o0 a1 a2 σ l1 l2 s0 = some (r, σ') → J x [(0, .ref (G.2.2 (o0))), (1, .int (l1)), (2, .int (l2))] [.int (s0), .ref (G.2.2 (o0))] σ 64 0 0 := by
    intro σ l1 l2 s0  h
    unfold lp_X6_sendDown_64 at h
    obtain ⟨σ13, e14, h⟩ := lm_e h
    refine j_put C X dX6_sendDown_64 ho0 (ty0 := tyX6) rfl rfl 14 (by decide) rfl rfl (Nat.le_of_ble_eq_true rfl) tyX6_ok nmX6 (ty := .int) rfl rfl rfl in_X6 (mU u_312) e14 ?_
    refine j_aload_n C dX6_sendDown_67 0 rfl ?_
    refine j_get C X dX6_sendDown_68 ho0 rfl rfl 14 (by decide) (fin := false) rfl rfl in_X6 (mU u_312) ?_
    refine j_if_le C dX6_sendDown_71 78 (by decide) (fun c15 => ?_) (fun c15 => ?_)
    · have h := (if_pos c15).symm.trans h
      refine j_aload_n C dX6_sendDown_78 0 rfl ?_
      refine j_bipush C dX6_sendDown_79 ((100 : Int32)) (by decide) ?_
      refine j_iload_n C dX6_sendDown_81 1 rfl ?_
      refine j_iload_n C dX6_sendDown_82 2 rfl ?_
      obtain ⟨⟨r16, σ17⟩, h18, h⟩ := ob h
      try dsimp only at h
      refine j_callV C X (c_X6_waits n G σ13 o0 ((100 : Int32)) l1 l2 ho0 _ _ h18) dX6_sendDown_83 (gV u_383 u_385 u_386 u_315 u_384) rfl hy_X6_waits rfl ho0 rfl (ci := 10) rfl rfl rfl (by decide) (Nat.le_of_ble_eq_true rfl) (by decide) ?_
      exact j_ireturn C dX6_sendDown_86 (e_i h hg) (by decide) (by decide)
    · have h := (if_neg c15).symm.trans h
      refine j_iconst C dX6_sendDown_74 ((0 : Int32)) (by decide) ?_
      refine j_goto C dX6_sendDown_75 86 (by decide) ?_
      exact j_ireturn C dX6_sendDown_86 (e_i h hg) (by decide) (by decide)
  unfold sp_X6_sendDown at h
  show J x [(0, .ref (G.2.2 (o0))), (1, .int (a1)), (2, .int (a2))] [] σ 0 0 0
  refine j_aload_n C dX6_sendDown_0 0 rfl ?_
  refine j_aload_n C dX6_sendDown_1 0 rfl ?_
  refine j_iload_n C dX6_sendDown_2 1 rfl ?_
  obtain ⟨⟨r1, σ2⟩, h3, h⟩ := ob h
  try dsimp only at h
  refine j_callV C X (c_X6_isLevel n G σ o0 a1 ho0 _ _ h3) dX6_sendDown_3 (gV u_318 u_320 u_321 u_315 u_319) rfl hy_X6_isLevel rfl ho0 rfl (ci := 10) rfl rfl rfl (by decide) (Nat.le_of_ble_eq_true rfl) (by decide) ?_
  refine j_if_ne C dX6_sendDown_6 13 (by decide) (fun c4 => ?_) (fun c4 => ?_)
  · have h := (if_neg c4).symm.trans h
    refine j_iload_n C dX6_sendDown_13 2 rfl ?_
    refine j_iconst C dX6_sendDown_14 ((1 : Int32)) (by decide) ?_
    refine j_bipush C dX6_sendDown_15 ((12 : Int32)) (by decide) ?_
    obtain ⟨⟨r5, σ6⟩, h7, h⟩ := ob h
    try dsimp only at h
    refine j_callS C X (c_X6_in n G σ2 a2 ((1 : Int32)) ((12 : Int32))  _ _ h7) dX6_sendDown_17 (gS u_314 u_317 u_315 u_316) rfl hy_X6_in rfl rfl (by decide) (Nat.le_of_ble_eq_true rfl) (by decide) ?_
    refine j_if_ne C dX6_sendDown_20 27 (by decide) (fun c8 => ?_) (fun c8 => ?_)
    · have h := (if_neg c8).symm.trans h
      refine j_aload_n C dX6_sendDown_27 0 rfl ?_
      refine j_iload_n C dX6_sendDown_28 1 rfl ?_
      obtain ⟨⟨r9, σ10⟩, h11, h⟩ := ob h
      try dsimp only at h
      refine j_callV C X (c_X6_alarms n G σ6 o0 a1 ho0 _ _ h11) dX6_sendDown_29 (gV u_354 u_356 u_357 u_315 u_355) rfl hy_X6_alarms rfl ho0 rfl (ci := 10) rfl rfl rfl (by decide) (Nat.le_of_ble_eq_true rfl) (by decide) ?_
      refine j_if_ne C dX6_sendDown_32 43 (by decide) (fun c12 => ?_) (fun c12 => ?_)
      · have h := (if_neg c12).symm.trans h
        refine j_iconst C dX6_sendDown_43 ((3 : Int32)) (by decide) ?_
        refine j_goto C dX6_sendDown_44 64 (by decide) ?_
        refine j_sub [0, 1, 2] [(0, .ref (G.2.2 (o0))), (1, .int (a1)), (2, .int (a2))] rfl ?_
        exact JP64 σ10 a1 a2 ((3 : Int32))  h
      · have h := (if_pos c12).symm.trans h
        refine j_aload_n C dX6_sendDown_35 0 rfl ?_
        refine j_iload_n C dX6_sendDown_36 1 rfl ?_
        obtain ⟨⟨r19, σ20⟩, h21, h⟩ := ob h
        try dsimp only at h
        refine j_callV C X (c_X6_closed n G σ10 o0 a1 ho0 _ _ h21) dX6_sendDown_37 (gV u_377 u_379 u_380 u_315 u_378) rfl hy_X6_closed rfl ho0 rfl (ci := 10) rfl rfl rfl (by decide) (Nat.le_of_ble_eq_true rfl) (by decide) ?_
        refine j_if_eq C dX6_sendDown_40 47 (by decide) (fun c22 => ?_) (fun c22 => ?_)
        · have h := (if_pos c22).symm.trans h
          refine j_aload_n C dX6_sendDown_47 0 rfl ?_
          refine j_get C X dX6_sendDown_48 ho0 rfl rfl 11 (by decide) (fin := false) rfl rfl in_X6 (mU u_327) ?_
          refine j_bipush C dX6_sendDown_51 ((60 : Int32)) (by decide) ?_
          obtain ⟨g23, h⟩ := sg h
          refine j_iald C X dX6_sendDown_53 (sh_6_11 ho0) (n := 73) rfl g23 ?_
          refine j_bipush C dX6_sendDown_54 ((8 : Int32)) (by decide) ?_
          refine j_icmp_ne C dX6_sendDown_56 63 (by decide) (fun c24 => ?_) (fun c24 => ?_)
          · have h := (if_neg c24).symm.trans h
            refine j_iconst C dX6_sendDown_63 ((0 : Int32)) (by decide) ?_
            refine j_sub [0, 1, 2] [(0, .ref (G.2.2 (o0))), (1, .int (a1)), (2, .int (a2))] rfl ?_
            exact JP64 σ20 a1 a2 ((0 : Int32))  h
          · have h := (if_pos c24).symm.trans h
            refine j_iconst C dX6_sendDown_59 ((4 : Int32)) (by decide) ?_
            refine j_goto C dX6_sendDown_60 64 (by decide) ?_
            refine j_sub [0, 1, 2] [(0, .ref (G.2.2 (o0))), (1, .int (a1)), (2, .int (a2))] rfl ?_
            exact JP64 σ20 a1 a2 ((4 : Int32))  h
        · have h := (if_neg c22).symm.trans h
          refine j_iconst C dX6_sendDown_43 ((3 : Int32)) (by decide) ?_
          refine j_goto C dX6_sendDown_44 64 (by decide) ?_
          refine j_sub [0, 1, 2] [(0, .ref (G.2.2 (o0))), (1, .int (a1)), (2, .int (a2))] rfl ?_
          exact JP64 σ20 a1 a2 ((3 : Int32))  h
    · have h := (if_pos c8).symm.trans h
      refine j_iconst C dX6_sendDown_23 ((2 : Int32)) (by decide) ?_
      refine j_goto C dX6_sendDown_24 64 (by decide) ?_
      refine j_sub [0, 1, 2] [(0, .ref (G.2.2 (o0))), (1, .int (a1)), (2, .int (a2))] rfl ?_
      exact JP64 σ6 a1 a2 ((2 : Int32))  h
  · have h := (if_pos c4).symm.trans h
    refine j_iconst C dX6_sendDown_9 ((1 : Int32)) (by decide) ?_
    refine j_goto C dX6_sendDown_10 64 (by decide) ?_
    refine j_sub [0, 1, 2] [(0, .ref (G.2.2 (o0))), (1, .int (a1)), (2, .int (a2))] rfl ?_
    exact JP64 σ2 a1 a2 ((1 : Int32))  h
def lp_X6_callUp_44 (n : Nat) (o0 : Nat) (a1 : Int32) (a2 : Int32) (σ : Mem) (l1 : Int32) (l2 : Int32) (s0 : Int32) : Option (Int32 × Mem) := (lm (wi σ o0 14 s0) fun σ11 => if (σ11.1 o0 14) ≤ 0 then ((sp_X6_waits n σ11 o0 ((117 : Int32)) l1 l2).bind fun q => match q with | (r14, σ15) => some (r14, σ15)) else some ((0 : Int32), σ11))
def sp_X6_callUp (n : Nat) (σ : Mem) (o0 : Nat) (a1 : Int32) (a2 : Int32) : Option (Int32 × Mem) := ((sp_X6_isLevel n σ o0 a1).bind fun q => match q with | (r1, σ2) => if r1 = 0 then lp_X6_callUp_44 n o0 a1 a2 σ2 a1 a2 ((1 : Int32)) else ((sp_X6_in n σ2 a2 ((1 : Int32)) ((12 : Int32))).bind fun q => match q with | (r5, σ6) => if r5 = 0 then lp_X6_callUp_44 n o0 a1 a2 σ6 a1 a2 ((2 : Int32)) else if inR (60 : Int32) 73 then if (σ6.1 (rf o0 11) ((60 : Int32)).toNatClampNeg) = (8 : Int32) then lp_X6_callUp_44 n o0 a1 a2 σ6 a1 a2 ((3 : Int32)) else lp_X6_callUp_44 n o0 a1 a2 σ6 a1 a2 ((0 : Int32)) else none))
abbrev rm_X6_callUp : Room := ({ frames := 12, cells := 0, slots := 0, locals := 243 } : Room)
abbrev wu_X6_callUp : List Cond := (Cond.code yX6_callUp cX6_callUp 3 (some .int)) :: wsU
theorem hy_X6_callUp : hyOk yX6_callUp 2 := by decide +kernel
set_option maxRecDepth 20000 in
set_option maxHeartbeats 4000000 in
theorem c_X6_callUp (n : Nat) (G : Gt) (σ : Mem) (o0 : Nat) (a1 : Int32) (a2 : Int32) (ho0 : Ok o0 6) (r : Int32) (σ' : Mem) (h : sp_X6_callUp n σ o0 a1 a2 = some (r, σ')) : MM yX6_callUp wu_X6_callUp rm_X6_callUp [.ref (G.2.2 (o0)), .int (a1), .int (a2)] G σ (.inl (some (.int r))) σ' := by
  refine mm_of (cc := cX6_callUp) (maxL := 3) (ret := (some .int)) (by decide +kernel) rfl (Nat.le_of_ble_eq_true rfl) (fun x C X hg => ?_)
  have C : Cx x cX6_callUp 3 RX6 (some .int) [] wu_X6_callUp rm_X6_callUp G.1 (tysF G) := C
  have JP44 : ∀ (σ : Mem) (l1 : Int32) (l2 : Int32) (s0 : Int32), lp_X6_callUp_44 n o0 a1 a2 σ l1 l2 s0 = some (r, σ') → J x [(0, .ref (G.2.2 (o0))), (1, .int (l1)), (2, .int (l2))] [.int (s0), .ref (G.2.2 (o0))] σ 44 0 0 := by
    intro σ l1 l2 s0  h
    unfold lp_X6_callUp_44 at h
    obtain ⟨σ11, e12, h⟩ := lm_e h
    refine j_put C X dX6_callUp_44 ho0 (ty0 := tyX6) rfl rfl 14 (by decide) rfl rfl (Nat.le_of_ble_eq_true rfl) tyX6_ok nmX6 (ty := .int) rfl rfl rfl in_X6 (mU u_312) e12 ?_
    refine j_aload_n C dX6_callUp_47 0 rfl ?_
    refine j_get C X dX6_callUp_48 ho0 rfl rfl 14 (by decide) (fin := false) rfl rfl in_X6 (mU u_312) ?_
    refine j_if_le C dX6_callUp_51 58 (by decide) (fun c13 => ?_) (fun c13 => ?_)
    · have h := (if_pos c13).symm.trans h
      refine j_aload_n C dX6_callUp_58 0 rfl ?_
      refine j_bipush C dX6_callUp_59 ((117 : Int32)) (by decide) ?_
      refine j_iload_n C dX6_callUp_61 1 rfl ?_
      refine j_iload_n C dX6_callUp_62 2 rfl ?_
      obtain ⟨⟨r14, σ15⟩, h16, h⟩ := ob h
      try dsimp only at h
      refine j_callV C X (c_X6_waits n G σ11 o0 ((117 : Int32)) l1 l2 ho0 _ _ h16) dX6_callUp_63 (gV u_383 u_385 u_386 u_315 u_384) rfl hy_X6_waits rfl ho0 rfl (ci := 10) rfl rfl rfl (by decide) (Nat.le_of_ble_eq_true rfl) (by decide) ?_
      exact j_ireturn C dX6_callUp_66 (e_i h hg) (by decide) (by decide)
    · have h := (if_neg c13).symm.trans h
      refine j_iconst C dX6_callUp_54 ((0 : Int32)) (by decide) ?_
      refine j_goto C dX6_callUp_55 66 (by decide) ?_
      exact j_ireturn C dX6_callUp_66 (e_i h hg) (by decide) (by decide)
  unfold sp_X6_callUp at h
  show J x [(0, .ref (G.2.2 (o0))), (1, .int (a1)), (2, .int (a2))] [] σ 0 0 0
  refine j_aload_n C dX6_callUp_0 0 rfl ?_
  refine j_aload_n C dX6_callUp_1 0 rfl ?_
  refine j_iload_n C dX6_callUp_2 1 rfl ?_
  obtain ⟨⟨r1, σ2⟩, h3, h⟩ := ob h
  try dsimp only at h
  refine j_callV C X (c_X6_isLevel n G σ o0 a1 ho0 _ _ h3) dX6_callUp_3 (gV u_318 u_320 u_321 u_315 u_319) rfl hy_X6_isLevel rfl ho0 rfl (ci := 10) rfl rfl rfl (by decide) (Nat.le_of_ble_eq_true rfl) (by decide) ?_
  refine j_if_ne C dX6_callUp_6 13 (by decide) (fun c4 => ?_) (fun c4 => ?_)
  · have h := (if_neg c4).symm.trans h
    refine j_iload_n C dX6_callUp_13 2 rfl ?_
    refine j_iconst C dX6_callUp_14 ((1 : Int32)) (by decide) ?_
    refine j_bipush C dX6_callUp_15 ((12 : Int32)) (by decide) ?_
    obtain ⟨⟨r5, σ6⟩, h7, h⟩ := ob h
    try dsimp only at h
    refine j_callS C X (c_X6_in n G σ2 a2 ((1 : Int32)) ((12 : Int32))  _ _ h7) dX6_callUp_17 (gS u_314 u_317 u_315 u_316) rfl hy_X6_in rfl rfl (by decide) (Nat.le_of_ble_eq_true rfl) (by decide) ?_
    refine j_if_ne C dX6_callUp_20 27 (by decide) (fun c8 => ?_) (fun c8 => ?_)
    · have h := (if_neg c8).symm.trans h
      refine j_aload_n C dX6_callUp_27 0 rfl ?_
      refine j_get C X dX6_callUp_28 ho0 rfl rfl 11 (by decide) (fin := false) rfl rfl in_X6 (mU u_327) ?_
      refine j_bipush C dX6_callUp_31 ((60 : Int32)) (by decide) ?_
      obtain ⟨g9, h⟩ := sg h
      refine j_iald C X dX6_callUp_33 (sh_6_11 ho0) (n := 73) rfl g9 ?_
      refine j_bipush C dX6_callUp_34 ((8 : Int32)) (by decide) ?_
      refine j_icmp_ne C dX6_callUp_36 43 (by decide) (fun c10 => ?_) (fun c10 => ?_)
      · have h := (if_neg c10).symm.trans h
        refine j_iconst C dX6_callUp_43 ((0 : Int32)) (by decide) ?_
        refine j_sub [0, 1, 2] [(0, .ref (G.2.2 (o0))), (1, .int (a1)), (2, .int (a2))] rfl ?_
        exact JP44 σ6 a1 a2 ((0 : Int32))  h
      · have h := (if_pos c10).symm.trans h
        refine j_iconst C dX6_callUp_39 ((3 : Int32)) (by decide) ?_
        refine j_goto C dX6_callUp_40 44 (by decide) ?_
        refine j_sub [0, 1, 2] [(0, .ref (G.2.2 (o0))), (1, .int (a1)), (2, .int (a2))] rfl ?_
        exact JP44 σ6 a1 a2 ((3 : Int32))  h
    · have h := (if_pos c8).symm.trans h
      refine j_iconst C dX6_callUp_23 ((2 : Int32)) (by decide) ?_
      refine j_goto C dX6_callUp_24 44 (by decide) ?_
      refine j_sub [0, 1, 2] [(0, .ref (G.2.2 (o0))), (1, .int (a1)), (2, .int (a2))] rfl ?_
      exact JP44 σ6 a1 a2 ((2 : Int32))  h
  · have h := (if_pos c4).symm.trans h
    refine j_iconst C dX6_callUp_9 ((1 : Int32)) (by decide) ?_
    refine j_goto C dX6_callUp_10 44 (by decide) ?_
    refine j_sub [0, 1, 2] [(0, .ref (G.2.2 (o0))), (1, .int (a1)), (2, .int (a2))] rfl ?_
    exact JP44 σ2 a1 a2 ((1 : Int32))  h
