def sp_X0_open (n : Nat) (σ : Mem) (o0 : Nat) (a1 : Int32) (a2 : Int32) (a3 : Int32) (a4 : Int32) : Option (Unit × Mem) := (lm (wi σ o0 0 a1) fun σ1 => (lm (wi σ1 o0 1 a2) fun σ3 => (lm (wi σ3 o0 2 a3) fun σ5 => (lm (wi σ5 o0 3 a4) fun σ7 => (lm (wi σ7 o0 4 (1 : Int32)) fun σ9 => some ((), σ9))))))
abbrev rm_X0_open : Room := ({ frames := 10, cells := 0, slots := 0, locals := 200 } : Room)
abbrev wu_X0_open : List Cond := (Cond.code yX0_open cX0_open 5 none) :: wsU
theorem hy_X0_open : hyOk yX0_open 4 := by decide +kernel
set_option maxRecDepth 20000 in
set_option maxHeartbeats 4000000 in
theorem c_X0_open (n : Nat) (G : Gt) (σ : Mem) (o0 : Nat) (a1 : Int32) (a2 : Int32) (a3 : Int32) (a4 : Int32) (ho0 : Ok o0 0) (r : Unit) (σ' : Mem) (h : sp_X0_open n σ o0 a1 a2 a3 a4 = some (r, σ')) : MM yX0_open wu_X0_open rm_X0_open [.ref (G.2.2 (o0)), .int (a1), .int (a2), .int (a3), .int (a4)] G σ (.inl none) σ' := by
  refine mm_of (cc := cX0_open) (maxL := 5) (ret := none) (by decide +kernel) rfl (Nat.le_of_ble_eq_true rfl) (fun x C X hg => ?_)
  have C : Cx x cX0_open 5 RX0 none [] wu_X0_open rm_X0_open G.1 (tysF G) := C
  unfold sp_X0_open at h
  show J x [(0, .ref (G.2.2 (o0))), (1, .int (a1)), (2, .int (a2)), (3, .int (a3)), (4, .int (a4))] [] σ 0 0 0
  refine j_aload_n C dX0_open_0 0 rfl ?_
  refine j_iload_n C dX0_open_1 1 rfl ?_
  obtain ⟨σ1, e2, h⟩ := lm_e h
  refine j_put C X dX0_open_2 ho0 (ty0 := tyX0) rfl rfl 0 (by decide) rfl rfl (Nat.le_of_ble_eq_true rfl) tyX0_ok nmX0 (ty := .int) rfl rfl rfl in_X0 (mU u_0) e2 ?_
  refine j_aload_n C dX0_open_5 0 rfl ?_
  refine j_iload_n C dX0_open_6 2 rfl ?_
  obtain ⟨σ3, e4, h⟩ := lm_e h
  refine j_put C X dX0_open_7 ho0 (ty0 := tyX0) rfl rfl 1 (by decide) rfl rfl (Nat.le_of_ble_eq_true rfl) tyX0_ok nmX0 (ty := .int) rfl rfl rfl in_X0 (mU u_1) e4 ?_
  refine j_aload_n C dX0_open_10 0 rfl ?_
  refine j_iload_n C dX0_open_11 3 rfl ?_
  obtain ⟨σ5, e6, h⟩ := lm_e h
  refine j_put C X dX0_open_12 ho0 (ty0 := tyX0) rfl rfl 2 (by decide) rfl rfl (Nat.le_of_ble_eq_true rfl) tyX0_ok nmX0 (ty := .int) rfl rfl rfl in_X0 (mU u_2) e6 ?_
  refine j_aload_n C dX0_open_15 0 rfl ?_
  refine j_iload C dX0_open_16 4 rfl ?_
  obtain ⟨σ7, e8, h⟩ := lm_e h
  refine j_put C X dX0_open_18 ho0 (ty0 := tyX0) rfl rfl 3 (by decide) rfl rfl (Nat.le_of_ble_eq_true rfl) tyX0_ok nmX0 (ty := .int) rfl rfl rfl in_X0 (mU u_3) e8 ?_
  refine j_aload_n C dX0_open_21 0 rfl ?_
  refine j_iconst C dX0_open_22 ((1 : Int32)) (by decide) ?_
  obtain ⟨σ9, e10, h⟩ := lm_e h
  refine j_put C X dX0_open_23 ho0 (ty0 := tyX0) rfl rfl 4 (by decide) rfl rfl (Nat.le_of_ble_eq_true rfl) tyX0_ok nmX0 (ty := .boolean) rfl (by decide) (by decide) in_X0 (mU u_4) e10 ?_
  exact j_return C dX0_open_26 (e_v h hg) (by decide) (by decide)
def sp_X0_copyFrom (n : Nat) (σ : Mem) (o0 : Nat) (o1 : Nat) : Option (Unit × Mem) := (lm (wi σ o0 0 (σ.1 o1 0)) fun σ1 => (lm (wi σ1 o0 1 (σ1.1 o1 1)) fun σ3 => (lm (wi σ3 o0 2 (σ3.1 o1 2)) fun σ5 => (lm (wi σ5 o0 3 (σ5.1 o1 3)) fun σ7 => if (σ7.1 o1 4) = 0 ∨ (σ7.1 o1 4) = 1 then (lm (wi σ7 o0 4 (σ7.1 o1 4)) fun σ9 => (lm (wi σ9 o0 5 (σ9.1 o1 5)) fun σ12 => (lm (wi σ12 o0 6 (σ12.1 o1 6)) fun σ14 => (lm (wi σ14 o0 7 (σ14.1 o1 7)) fun σ16 => (lm (wi σ16 o0 8 (σ16.1 o1 8)) fun σ18 => (lm (wi σ18 o0 9 (σ18.1 o1 9)) fun σ20 => (lm (wi σ20 o0 10 (σ20.1 o1 10)) fun σ22 => some ((), σ22)))))))) else none))))
abbrev rm_X0_copyFrom : Room := ({ frames := 10, cells := 0, slots := 0, locals := 200 } : Room)
abbrev wu_X0_copyFrom : List Cond := (Cond.code yX0_copyFrom cX0_copyFrom 2 none) :: wsU
theorem hy_X0_copyFrom : hyOk yX0_copyFrom 1 := by decide +kernel
set_option maxRecDepth 20000 in
set_option maxHeartbeats 4000000 in
theorem c_X0_copyFrom (n : Nat) (G : Gt) (σ : Mem) (o0 : Nat) (o1 : Nat) (ho0 : Ok o0 0) (ho1 : Ok o1 0) (r : Unit) (σ' : Mem) (h : sp_X0_copyFrom n σ o0 o1 = some (r, σ')) : MM yX0_copyFrom wu_X0_copyFrom rm_X0_copyFrom [.ref (G.2.2 (o0)), .ref (G.2.2 (o1))] G σ (.inl none) σ' := by
  refine mm_of (cc := cX0_copyFrom) (maxL := 2) (ret := none) (by decide +kernel) rfl (Nat.le_of_ble_eq_true rfl) (fun x C X hg => ?_)
  have C : Cx x cX0_copyFrom 2 RX0 none [] wu_X0_copyFrom rm_X0_copyFrom G.1 (tysF G) := C
  unfold sp_X0_copyFrom at h
  show J x [(0, .ref (G.2.2 (o0))), (1, .ref (G.2.2 (o1)))] [] σ 0 0 0
  refine j_aload_n C dX0_copyFrom_0 0 rfl ?_
  refine j_aload_n C dX0_copyFrom_1 1 rfl ?_
  refine j_get C X dX0_copyFrom_2 ho1 rfl rfl 0 (by decide) (fin := false) rfl rfl in_X0 (mU u_0) ?_
  obtain ⟨σ1, e2, h⟩ := lm_e h
  refine j_put C X dX0_copyFrom_5 ho0 (ty0 := tyX0) rfl rfl 0 (by decide) rfl rfl (Nat.le_of_ble_eq_true rfl) tyX0_ok nmX0 (ty := .int) rfl rfl rfl in_X0 (mU u_0) e2 ?_
  refine j_aload_n C dX0_copyFrom_8 0 rfl ?_
  refine j_aload_n C dX0_copyFrom_9 1 rfl ?_
  refine j_get C X dX0_copyFrom_10 ho1 rfl rfl 1 (by decide) (fin := false) rfl rfl in_X0 (mU u_1) ?_
  obtain ⟨σ3, e4, h⟩ := lm_e h
  refine j_put C X dX0_copyFrom_13 ho0 (ty0 := tyX0) rfl rfl 1 (by decide) rfl rfl (Nat.le_of_ble_eq_true rfl) tyX0_ok nmX0 (ty := .int) rfl rfl rfl in_X0 (mU u_1) e4 ?_
  refine j_aload_n C dX0_copyFrom_16 0 rfl ?_
  refine j_aload_n C dX0_copyFrom_17 1 rfl ?_
  refine j_get C X dX0_copyFrom_18 ho1 rfl rfl 2 (by decide) (fin := false) rfl rfl in_X0 (mU u_2) ?_
  obtain ⟨σ5, e6, h⟩ := lm_e h
  refine j_put C X dX0_copyFrom_21 ho0 (ty0 := tyX0) rfl rfl 2 (by decide) rfl rfl (Nat.le_of_ble_eq_true rfl) tyX0_ok nmX0 (ty := .int) rfl rfl rfl in_X0 (mU u_2) e6 ?_
  refine j_aload_n C dX0_copyFrom_24 0 rfl ?_
  refine j_aload_n C dX0_copyFrom_25 1 rfl ?_
  refine j_get C X dX0_copyFrom_26 ho1 rfl rfl 3 (by decide) (fin := false) rfl rfl in_X0 (mU u_3) ?_
  obtain ⟨σ7, e8, h⟩ := lm_e h
  refine j_put C X dX0_copyFrom_29 ho0 (ty0 := tyX0) rfl rfl 3 (by decide) rfl rfl (Nat.le_of_ble_eq_true rfl) tyX0_ok nmX0 (ty := .int) rfl rfl rfl in_X0 (mU u_3) e8 ?_
  refine j_aload_n C dX0_copyFrom_32 0 rfl ?_
  refine j_aload_n C dX0_copyFrom_33 1 rfl ?_
  refine j_get C X dX0_copyFrom_34 ho1 rfl rfl 4 (by decide) (fin := false) rfl rfl in_X0 (mU u_4) ?_
  obtain ⟨g11, h⟩ := sg h
  obtain ⟨σ9, e10, h⟩ := lm_e h
  refine j_put C X dX0_copyFrom_37 ho0 (ty0 := tyX0) rfl rfl 4 (by decide) rfl rfl (Nat.le_of_ble_eq_true rfl) tyX0_ok nmX0 (ty := .boolean) rfl (nar_z g11).1 (nar_z g11).2 in_X0 (mU u_4) e10 ?_
  refine j_aload_n C dX0_copyFrom_40 0 rfl ?_
  refine j_aload_n C dX0_copyFrom_41 1 rfl ?_
  refine j_get C X dX0_copyFrom_42 ho1 rfl rfl 5 (by decide) (fin := false) rfl rfl in_X0 (mU u_5) ?_
  obtain ⟨σ12, e13, h⟩ := lm_e h
  refine j_put C X dX0_copyFrom_45 ho0 (ty0 := tyX0) rfl rfl 5 (by decide) rfl rfl (Nat.le_of_ble_eq_true rfl) tyX0_ok nmX0 (ty := .int) rfl rfl rfl in_X0 (mU u_5) e13 ?_
  refine j_aload_n C dX0_copyFrom_48 0 rfl ?_
  refine j_aload_n C dX0_copyFrom_49 1 rfl ?_
  refine j_get C X dX0_copyFrom_50 ho1 rfl rfl 6 (by decide) (fin := false) rfl rfl in_X0 (mU u_6) ?_
  obtain ⟨σ14, e15, h⟩ := lm_e h
  refine j_put C X dX0_copyFrom_53 ho0 (ty0 := tyX0) rfl rfl 6 (by decide) rfl rfl (Nat.le_of_ble_eq_true rfl) tyX0_ok nmX0 (ty := .int) rfl rfl rfl in_X0 (mU u_6) e15 ?_
  refine j_aload_n C dX0_copyFrom_56 0 rfl ?_
  refine j_aload_n C dX0_copyFrom_57 1 rfl ?_
  refine j_get C X dX0_copyFrom_58 ho1 rfl rfl 7 (by decide) (fin := false) rfl rfl in_X0 (mU u_7) ?_
  obtain ⟨σ16, e17, h⟩ := lm_e h
  refine j_put C X dX0_copyFrom_61 ho0 (ty0 := tyX0) rfl rfl 7 (by decide) rfl rfl (Nat.le_of_ble_eq_true rfl) tyX0_ok nmX0 (ty := .int) rfl rfl rfl in_X0 (mU u_7) e17 ?_
  refine j_aload_n C dX0_copyFrom_64 0 rfl ?_
  refine j_aload_n C dX0_copyFrom_65 1 rfl ?_
  refine j_get C X dX0_copyFrom_66 ho1 rfl rfl 8 (by decide) (fin := false) rfl rfl in_X0 (mU u_8) ?_
  obtain ⟨σ18, e19, h⟩ := lm_e h
  refine j_put C X dX0_copyFrom_69 ho0 (ty0 := tyX0) rfl rfl 8 (by decide) rfl rfl (Nat.le_of_ble_eq_true rfl) tyX0_ok nmX0 (ty := .int) rfl rfl rfl in_X0 (mU u_8) e19 ?_
  refine j_aload_n C dX0_copyFrom_72 0 rfl ?_
  refine j_aload_n C dX0_copyFrom_73 1 rfl ?_
  refine j_get C X dX0_copyFrom_74 ho1 rfl rfl 9 (by decide) (fin := false) rfl rfl in_X0 (mU u_9) ?_
  obtain ⟨σ20, e21, h⟩ := lm_e h
  refine j_put C X dX0_copyFrom_77 ho0 (ty0 := tyX0) rfl rfl 9 (by decide) rfl rfl (Nat.le_of_ble_eq_true rfl) tyX0_ok nmX0 (ty := .int) rfl rfl rfl in_X0 (mU u_9) e21 ?_
  refine j_aload_n C dX0_copyFrom_80 0 rfl ?_
  refine j_aload_n C dX0_copyFrom_81 1 rfl ?_
  refine j_get C X dX0_copyFrom_82 ho1 rfl rfl 10 (by decide) (fin := false) rfl rfl in_X0 (mU u_10) ?_
  obtain ⟨σ22, e23, h⟩ := lm_e h
  refine j_put C X dX0_copyFrom_85 ho0 (ty0 := tyX0) rfl rfl 10 (by decide) rfl rfl (Nat.le_of_ble_eq_true rfl) tyX0_ok nmX0 (ty := .int) rfl rfl rfl in_X0 (mU u_10) e23 ?_
  exact j_return C dX0_copyFrom_88 (e_v h hg) (by decide) (by decide)
def sp_X0_openWidth (n : Nat) (σ : Mem) (o0 : Nat) : Option (Int32 × Mem) := if (σ.1 o0 4) = 0 then some ((0 : Int32), σ) else some ((σ.1 o0 2), σ)
abbrev rm_X0_openWidth : Room := ({ frames := 10, cells := 0, slots := 0, locals := 200 } : Room)
abbrev wu_X0_openWidth : List Cond := (Cond.code yX0_openWidth cX0_openWidth 1 (some .int)) :: wsU
theorem hy_X0_openWidth : hyOk yX0_openWidth 0 := by decide +kernel
set_option maxRecDepth 20000 in
set_option maxHeartbeats 4000000 in
theorem c_X0_openWidth (n : Nat) (G : Gt) (σ : Mem) (o0 : Nat) (ho0 : Ok o0 0) (r : Int32) (σ' : Mem) (h : sp_X0_openWidth n σ o0 = some (r, σ')) : MM yX0_openWidth wu_X0_openWidth rm_X0_openWidth [.ref (G.2.2 (o0))] G σ (.inl (some (.int r))) σ' := by
  refine mm_of (cc := cX0_openWidth) (maxL := 1) (ret := (some .int)) (by decide +kernel) rfl (Nat.le_of_ble_eq_true rfl) (fun x C X hg => ?_)
  have C : Cx x cX0_openWidth 1 RX0 (some .int) [] wu_X0_openWidth rm_X0_openWidth G.1 (tysF G) := C
  unfold sp_X0_openWidth at h
  show J x [(0, .ref (G.2.2 (o0)))] [] σ 0 0 0
  refine j_aload_n C dX0_openWidth_0 0 rfl ?_
  refine j_get C X dX0_openWidth_1 ho0 rfl rfl 4 (by decide) (fin := false) rfl rfl in_X0 (mU u_4) ?_
  refine j_if_eq C dX0_openWidth_4 14 (by decide) (fun c1 => ?_) (fun c1 => ?_)
  · have h := (if_pos c1).symm.trans h
    refine j_iconst C dX0_openWidth_14 ((0 : Int32)) (by decide) ?_
    exact j_ireturn C dX0_openWidth_15 (e_i h hg) (by decide) (by decide)
  · have h := (if_neg c1).symm.trans h
    refine j_aload_n C dX0_openWidth_7 0 rfl ?_
    refine j_get C X dX0_openWidth_8 ho0 rfl rfl 2 (by decide) (fin := false) rfl rfl in_X0 (mU u_2) ?_
    refine j_goto C dX0_openWidth_11 15 (by decide) ?_
    exact j_ireturn C dX0_openWidth_15 (e_i h hg) (by decide) (by decide)
def sp_X0_share (n : Nat) (σ : Mem) (o0 : Nat) : Option (Int32 × Mem) := if (σ.1 o0 1) ≤ 0 then some ((0 : Int32), σ) else if ¬ (σ.1 o0 1) = 0 then some ((((1000 : Int32) * (σ.1 o0 7)) / (σ.1 o0 1)), σ) else none
abbrev rm_X0_share : Room := ({ frames := 10, cells := 0, slots := 0, locals := 200 } : Room)
abbrev wu_X0_share : List Cond := (Cond.code yX0_share cX0_share 1 (some .int)) :: wsU
theorem hy_X0_share : hyOk yX0_share 0 := by decide +kernel
set_option maxRecDepth 20000 in
set_option maxHeartbeats 4000000 in
theorem c_X0_share (n : Nat) (G : Gt) (σ : Mem) (o0 : Nat) (ho0 : Ok o0 0) (r : Int32) (σ' : Mem) (h : sp_X0_share n σ o0 = some (r, σ')) : MM yX0_share wu_X0_share rm_X0_share [.ref (G.2.2 (o0))] G σ (.inl (some (.int r))) σ' := by
  refine mm_of (cc := cX0_share) (maxL := 1) (ret := (some .int)) (by decide +kernel) rfl (Nat.le_of_ble_eq_true rfl) (fun x C X hg => ?_)
  have C : Cx x cX0_share 1 RX0 (some .int) [] wu_X0_share rm_X0_share G.1 (tysF G) := C
  unfold sp_X0_share at h
  show J x [(0, .ref (G.2.2 (o0)))] [] σ 0 0 0
  refine j_aload_n C dX0_share_0 0 rfl ?_
  refine j_get C X dX0_share_1 ho0 rfl rfl 1 (by decide) (fin := false) rfl rfl in_X0 (mU u_1) ?_
  refine j_if_le C dX0_share_4 23 (by decide) (fun c1 => ?_) (fun c1 => ?_)
  · have h := (if_pos c1).symm.trans h
    refine j_iconst C dX0_share_23 ((0 : Int32)) (by decide) ?_
    exact j_ireturn C dX0_share_24 (e_i h hg) (by decide) (by decide)
  · have h := (if_neg c1).symm.trans h
    refine j_sipush C dX0_share_7 ((1000 : Int32)) (by decide) ?_
    refine j_aload_n C dX0_share_10 0 rfl ?_
    refine j_get C X dX0_share_11 ho0 rfl rfl 7 (by decide) (fin := false) rfl rfl in_X0 (mU u_7) ?_
    refine j_imul C dX0_share_14 ?_
    refine j_aload_n C dX0_share_15 0 rfl ?_
    refine j_get C X dX0_share_16 ho0 rfl rfl 1 (by decide) (fin := false) rfl rfl in_X0 (mU u_1) ?_
    obtain ⟨g2, h⟩ := sg h
    refine j_idiv C dX0_share_19 g2 ?_
    refine j_goto C dX0_share_20 24 (by decide) ?_
    exact j_ireturn C dX0_share_24 (e_i h hg) (by decide) (by decide)
def sp_X0_gasTaken (n : Nat) (σ : Mem) (o0 : Nat) : Option (Int32 × Mem) := if (σ.1 o0 1) ≤ 0 then some ((0 : Int32), σ) else if ¬ (σ.1 o0 1) = 0 then some ((((σ.1 o0 7) * (if (σ.1 o0 1) < (σ.1 o0 5) then (σ.1 o0 1) else (σ.1 o0 5))) / (σ.1 o0 1)), σ) else none
abbrev rm_X0_gasTaken : Room := ({ frames := 10, cells := 0, slots := 0, locals := 200 } : Room)
abbrev wu_X0_gasTaken : List Cond := (Cond.code yX0_gasTaken cX0_gasTaken 1 (some .int)) :: wsU
theorem hy_X0_gasTaken : hyOk yX0_gasTaken 0 := by decide +kernel
set_option maxRecDepth 20000 in
set_option maxHeartbeats 4000000 in
theorem c_X0_gasTaken (n : Nat) (G : Gt) (σ : Mem) (o0 : Nat) (ho0 : Ok o0 0) (r : Int32) (σ' : Mem) (h : sp_X0_gasTaken n σ o0 = some (r, σ')) : MM yX0_gasTaken wu_X0_gasTaken rm_X0_gasTaken [.ref (G.2.2 (o0))] G σ (.inl (some (.int r))) σ' := by
  refine mm_of (cc := cX0_gasTaken) (maxL := 1) (ret := (some .int)) (by decide +kernel) rfl (Nat.le_of_ble_eq_true rfl) (fun x C X hg => ?_)
  have C : Cx x cX0_gasTaken 1 RX0 (some .int) [] wu_X0_gasTaken rm_X0_gasTaken G.1 (tysF G) := C
  unfold sp_X0_gasTaken at h
  show J x [(0, .ref (G.2.2 (o0)))] [] σ 0 0 0
  refine j_aload_n C dX0_gasTaken_0 0 rfl ?_
  refine j_get C X dX0_gasTaken_1 ho0 rfl rfl 1 (by decide) (fin := false) rfl rfl in_X0 (mU u_1) ?_
  refine j_if_le C dX0_gasTaken_4 31 (by decide) (fun c1 => ?_) (fun c1 => ?_)
  · have h := (if_pos c1).symm.trans h
    refine j_iconst C dX0_gasTaken_31 ((0 : Int32)) (by decide) ?_
    exact j_ireturn C dX0_gasTaken_32 (e_i h hg) (by decide) (by decide)
  · have h := (if_neg c1).symm.trans h
    refine j_aload_n C dX0_gasTaken_7 0 rfl ?_
    refine j_get C X dX0_gasTaken_8 ho0 rfl rfl 7 (by decide) (fin := false) rfl rfl in_X0 (mU u_7) ?_
    refine j_aload_n C dX0_gasTaken_11 0 rfl ?_
    refine j_get C X dX0_gasTaken_12 ho0 rfl rfl 5 (by decide) (fin := false) rfl rfl in_X0 (mU u_5) ?_
    refine j_aload_n C dX0_gasTaken_15 0 rfl ?_
    refine j_get C X dX0_gasTaken_16 ho0 rfl rfl 1 (by decide) (fin := false) rfl rfl in_X0 (mU u_1) ?_
    refine j_mmin C dX0_gasTaken_19 (mU u_11) (mU u_12) (mU u_13) (mU u_14) (by decide) (Nat.le_of_ble_eq_true rfl) (Nat.le_of_ble_eq_true rfl) (Nat.le_of_ble_eq_true rfl) ?_
    refine j_imul C dX0_gasTaken_22 ?_
    refine j_aload_n C dX0_gasTaken_23 0 rfl ?_
    refine j_get C X dX0_gasTaken_24 ho0 rfl rfl 1 (by decide) (fin := false) rfl rfl in_X0 (mU u_1) ?_
    obtain ⟨g2, h⟩ := sg h
    refine j_idiv C dX0_gasTaken_27 g2 ?_
    refine j_goto C dX0_gasTaken_28 32 (by decide) ?_
    exact j_ireturn C dX0_gasTaken_32 (e_i h hg) (by decide) (by decide)
def sp_X2_set (n : Nat) (σ : Mem) (o0 : Nat) (a1 : Int32) (a2 : Int32) (a3 : Int32) (a4 : Int32) : Option (Unit × Mem) := (lm (wi σ o0 0 a1) fun σ1 => if 0 ≤ a2 ∧ a2 ≤ 65535 then (lm (wi σ1 o0 1 a2) fun σ3 => (lm (wi σ3 o0 2 a3) fun σ6 => (lm (wi σ6 o0 3 a4) fun σ8 => some ((), σ8)))) else none)
abbrev rm_X2_set : Room := ({ frames := 10, cells := 0, slots := 0, locals := 200 } : Room)
abbrev wu_X2_set : List Cond := (Cond.code yX2_set cX2_set 5 none) :: wsU
theorem hy_X2_set : hyOk yX2_set 4 := by decide +kernel
set_option maxRecDepth 20000 in
set_option maxHeartbeats 4000000 in
theorem c_X2_set (n : Nat) (G : Gt) (σ : Mem) (o0 : Nat) (a1 : Int32) (a2 : Int32) (a3 : Int32) (a4 : Int32) (ho0 : Ok o0 2) (r : Unit) (σ' : Mem) (h : sp_X2_set n σ o0 a1 a2 a3 a4 = some (r, σ')) : MM yX2_set wu_X2_set rm_X2_set [.ref (G.2.2 (o0)), .int (a1), .int (a2), .int (a3), .int (a4)] G σ (.inl none) σ' := by
  refine mm_of (cc := cX2_set) (maxL := 5) (ret := none) (by decide +kernel) rfl (Nat.le_of_ble_eq_true rfl) (fun x C X hg => ?_)
  have C : Cx x cX2_set 5 RX2 none [] wu_X2_set rm_X2_set G.1 (tysF G) := C
  unfold sp_X2_set at h
  show J x [(0, .ref (G.2.2 (o0))), (1, .int (a1)), (2, .int (a2)), (3, .int (a3)), (4, .int (a4))] [] σ 0 0 0
  refine j_aload_n C dX2_set_0 0 rfl ?_
  refine j_iload_n C dX2_set_1 1 rfl ?_
  obtain ⟨σ1, e2, h⟩ := lm_e h
  refine j_put C X dX2_set_2 ho0 (ty0 := tyX2) rfl rfl 0 (by decide) rfl rfl (Nat.le_of_ble_eq_true rfl) tyX2_ok nmX2 (ty := .int) rfl rfl rfl in_X2 (mU u_15) e2 ?_
  refine j_aload_n C dX2_set_5 0 rfl ?_
  refine j_iload_n C dX2_set_6 2 rfl ?_
  obtain ⟨g5, h⟩ := sg h
  obtain ⟨σ3, e4, h⟩ := lm_e h
  refine j_put C X dX2_set_7 ho0 (ty0 := tyX2) rfl rfl 1 (by decide) rfl rfl (Nat.le_of_ble_eq_true rfl) tyX2_ok nmX2 (ty := .char) rfl (nar_c g5).1 (nar_c g5).2 in_X2 (mU u_16) e4 ?_
  refine j_aload_n C dX2_set_10 0 rfl ?_
  refine j_iload_n C dX2_set_11 3 rfl ?_
  obtain ⟨σ6, e7, h⟩ := lm_e h
  refine j_put C X dX2_set_12 ho0 (ty0 := tyX2) rfl rfl 2 (by decide) rfl rfl (Nat.le_of_ble_eq_true rfl) tyX2_ok nmX2 (ty := .int) rfl rfl rfl in_X2 (mU u_17) e7 ?_
  refine j_aload_n C dX2_set_15 0 rfl ?_
  refine j_iload C dX2_set_16 4 rfl ?_
  obtain ⟨σ8, e9, h⟩ := lm_e h
  refine j_put C X dX2_set_18 ho0 (ty0 := tyX2) rfl rfl 3 (by decide) rfl rfl (Nat.le_of_ble_eq_true rfl) tyX2_ok nmX2 (ty := .int) rfl rfl rfl in_X2 (mU u_18) e9 ?_
  exact j_return C dX2_set_21 (e_v h hg) (by decide) (by decide)
def sp_X3_set (n : Nat) (σ : Mem) (o0 : Nat) (a1 : Int32) (a2 : Int32) (a3 : Int32) (a4 : Int32) (a5 : Int32) : Option (Unit × Mem) := if 0 ≤ a1 ∧ a1 ≤ 65535 then (lm (wi σ o0 0 a1) fun σ1 => (lm (wi σ1 o0 1 a2) fun σ4 => (lm (wi σ4 o0 2 a3) fun σ6 => (lm (wi σ6 o0 3 a4) fun σ8 => (lm (wi σ8 o0 4 a5) fun σ10 => some ((), σ10)))))) else none
abbrev rm_X3_set : Room := ({ frames := 10, cells := 0, slots := 0, locals := 200 } : Room)
abbrev wu_X3_set : List Cond := (Cond.code yX3_set cX3_set 6 none) :: wsU
theorem hy_X3_set : hyOk yX3_set 5 := by decide +kernel
set_option maxRecDepth 20000 in
set_option maxHeartbeats 4000000 in
theorem c_X3_set (n : Nat) (G : Gt) (σ : Mem) (o0 : Nat) (a1 : Int32) (a2 : Int32) (a3 : Int32) (a4 : Int32) (a5 : Int32) (ho0 : Ok o0 3) (r : Unit) (σ' : Mem) (h : sp_X3_set n σ o0 a1 a2 a3 a4 a5 = some (r, σ')) : MM yX3_set wu_X3_set rm_X3_set [.ref (G.2.2 (o0)), .int (a1), .int (a2), .int (a3), .int (a4), .int (a5)] G σ (.inl none) σ' := by
  refine mm_of (cc := cX3_set) (maxL := 6) (ret := none) (by decide +kernel) rfl (Nat.le_of_ble_eq_true rfl) (fun x C X hg => ?_)
  have C : Cx x cX3_set 6 RX3 none [] wu_X3_set rm_X3_set G.1 (tysF G) := C
  unfold sp_X3_set at h
  show J x [(0, .ref (G.2.2 (o0))), (1, .int (a1)), (2, .int (a2)), (3, .int (a3)), (4, .int (a4)), (5, .int (a5))] [] σ 0 0 0
  refine j_aload_n C dX3_set_0 0 rfl ?_
  refine j_iload_n C dX3_set_1 1 rfl ?_
  obtain ⟨g3, h⟩ := sg h
  obtain ⟨σ1, e2, h⟩ := lm_e h
  refine j_put C X dX3_set_2 ho0 (ty0 := tyX3) rfl rfl 0 (by decide) rfl rfl (Nat.le_of_ble_eq_true rfl) tyX3_ok nmX3 (ty := .char) rfl (nar_c g3).1 (nar_c g3).2 in_X3 (mU u_19) e2 ?_
  refine j_aload_n C dX3_set_5 0 rfl ?_
  refine j_iload_n C dX3_set_6 2 rfl ?_
  obtain ⟨σ4, e5, h⟩ := lm_e h
  refine j_put C X dX3_set_7 ho0 (ty0 := tyX3) rfl rfl 1 (by decide) rfl rfl (Nat.le_of_ble_eq_true rfl) tyX3_ok nmX3 (ty := .int) rfl rfl rfl in_X3 (mU u_20) e5 ?_
  refine j_aload_n C dX3_set_10 0 rfl ?_
  refine j_iload_n C dX3_set_11 3 rfl ?_
  obtain ⟨σ6, e7, h⟩ := lm_e h
  refine j_put C X dX3_set_12 ho0 (ty0 := tyX3) rfl rfl 2 (by decide) rfl rfl (Nat.le_of_ble_eq_true rfl) tyX3_ok nmX3 (ty := .int) rfl rfl rfl in_X3 (mU u_21) e7 ?_
  refine j_aload_n C dX3_set_15 0 rfl ?_
  refine j_iload C dX3_set_16 4 rfl ?_
  obtain ⟨σ8, e9, h⟩ := lm_e h
  refine j_put C X dX3_set_18 ho0 (ty0 := tyX3) rfl rfl 3 (by decide) rfl rfl (Nat.le_of_ble_eq_true rfl) tyX3_ok nmX3 (ty := .int) rfl rfl rfl in_X3 (mU u_22) e9 ?_
  refine j_aload_n C dX3_set_21 0 rfl ?_
  refine j_iload C dX3_set_22 5 rfl ?_
  obtain ⟨σ10, e11, h⟩ := lm_e h
  refine j_put C X dX3_set_24 ho0 (ty0 := tyX3) rfl rfl 4 (by decide) rfl rfl (Nat.le_of_ble_eq_true rfl) tyX3_ok nmX3 (ty := .int) rfl rfl rfl in_X3 (mU u_23) e11 ?_
  exact j_return C dX3_set_27 (e_v h hg) (by decide) (by decide)
def sp_X3_copyFrom (n : Nat) (σ : Mem) (o0 : Nat) (o1 : Nat) : Option (Unit × Mem) := ((sp_X3_set n σ o0 ((σ.1 o1 0)) ((σ.1 o1 1)) ((σ.1 o1 2)) ((σ.1 o1 3)) ((σ.1 o1 4))).bind fun q => match q with | (_, σ2) => some ((), σ2))
abbrev rm_X3_copyFrom : Room := ({ frames := 11, cells := 0, slots := 0, locals := 225 } : Room)
abbrev wu_X3_copyFrom : List Cond := (Cond.code yX3_copyFrom cX3_copyFrom 2 none) :: wsU
theorem hy_X3_copyFrom : hyOk yX3_copyFrom 1 := by decide +kernel
set_option maxRecDepth 20000 in
set_option maxHeartbeats 4000000 in
theorem c_X3_copyFrom (n : Nat) (G : Gt) (σ : Mem) (o0 : Nat) (o1 : Nat) (ho0 : Ok o0 3) (ho1 : Ok o1 3) (r : Unit) (σ' : Mem) (h : sp_X3_copyFrom n σ o0 o1 = some (r, σ')) : MM yX3_copyFrom wu_X3_copyFrom rm_X3_copyFrom [.ref (G.2.2 (o0)), .ref (G.2.2 (o1))] G σ (.inl none) σ' := by
  refine mm_of (cc := cX3_copyFrom) (maxL := 2) (ret := none) (by decide +kernel) rfl (Nat.le_of_ble_eq_true rfl) (fun x C X hg => ?_)
  have C : Cx x cX3_copyFrom 2 RX3 none [] wu_X3_copyFrom rm_X3_copyFrom G.1 (tysF G) := C
  unfold sp_X3_copyFrom at h
  show J x [(0, .ref (G.2.2 (o0))), (1, .ref (G.2.2 (o1)))] [] σ 0 0 0
  refine j_aload_n C dX3_copyFrom_0 0 rfl ?_
  refine j_aload_n C dX3_copyFrom_1 1 rfl ?_
  refine j_get C X dX3_copyFrom_2 ho1 rfl rfl 0 (by decide) (fin := false) rfl rfl in_X3 (mU u_19) ?_
  refine j_aload_n C dX3_copyFrom_5 1 rfl ?_
  refine j_get C X dX3_copyFrom_6 ho1 rfl rfl 1 (by decide) (fin := false) rfl rfl in_X3 (mU u_20) ?_
  refine j_aload_n C dX3_copyFrom_9 1 rfl ?_
  refine j_get C X dX3_copyFrom_10 ho1 rfl rfl 2 (by decide) (fin := false) rfl rfl in_X3 (mU u_21) ?_
  refine j_aload_n C dX3_copyFrom_13 1 rfl ?_
  refine j_get C X dX3_copyFrom_14 ho1 rfl rfl 3 (by decide) (fin := false) rfl rfl in_X3 (mU u_22) ?_
  refine j_aload_n C dX3_copyFrom_17 1 rfl ?_
  refine j_get C X dX3_copyFrom_18 ho1 rfl rfl 4 (by decide) (fin := false) rfl rfl in_X3 (mU u_23) ?_
  obtain ⟨⟨r1, σ2⟩, h3, h⟩ := ob h
  try dsimp only at h
  refine j_callV C X (c_X3_set n G σ o0 ((σ.1 o1 0)) ((σ.1 o1 1)) ((σ.1 o1 2)) ((σ.1 o1 3)) ((σ.1 o1 4)) ho0 _ _ h3) dX3_copyFrom_21 (gV u_24 u_27 u_28 u_25 u_26) rfl hy_X3_set rfl ho0 rfl (ci := 7) rfl rfl rfl (by decide) (Nat.le_of_ble_eq_true rfl) (by decide) ?_
  exact j_return C dX3_copyFrom_24 (e_v h hg) (by decide) (by decide)
def sp_X3_clear (n : Nat) (σ : Mem) (o0 : Nat) : Option (Unit × Mem) := ((sp_X3_set n σ o0 ((45 : Int32)) ((0 : Int32)) ((0 : Int32)) ((0 : Int32)) ((-1 : Int32))).bind fun q => match q with | (_, σ2) => some ((), σ2))
abbrev rm_X3_clear : Room := ({ frames := 11, cells := 0, slots := 0, locals := 225 } : Room)
abbrev wu_X3_clear : List Cond := (Cond.code yX3_clear cX3_clear 1 none) :: wsU
theorem hy_X3_clear : hyOk yX3_clear 0 := by decide +kernel
set_option maxRecDepth 20000 in
set_option maxHeartbeats 4000000 in
theorem c_X3_clear (n : Nat) (G : Gt) (σ : Mem) (o0 : Nat) (ho0 : Ok o0 3) (r : Unit) (σ' : Mem) (h : sp_X3_clear n σ o0 = some (r, σ')) : MM yX3_clear wu_X3_clear rm_X3_clear [.ref (G.2.2 (o0))] G σ (.inl none) σ' := by
  refine mm_of (cc := cX3_clear) (maxL := 1) (ret := none) (by decide +kernel) rfl (Nat.le_of_ble_eq_true rfl) (fun x C X hg => ?_)
  have C : Cx x cX3_clear 1 RX3 none [] wu_X3_clear rm_X3_clear G.1 (tysF G) := C
  unfold sp_X3_clear at h
  show J x [(0, .ref (G.2.2 (o0)))] [] σ 0 0 0
  refine j_aload_n C dX3_clear_0 0 rfl ?_
  refine j_bipush C dX3_clear_1 ((45 : Int32)) (by decide) ?_
  refine j_iconst C dX3_clear_3 ((0 : Int32)) (by decide) ?_
  refine j_iconst C dX3_clear_4 ((0 : Int32)) (by decide) ?_
  refine j_iconst C dX3_clear_5 ((0 : Int32)) (by decide) ?_
  refine j_iconst C dX3_clear_6 ((-1 : Int32)) (by decide) ?_
  obtain ⟨⟨r1, σ2⟩, h3, h⟩ := ob h
  try dsimp only at h
  refine j_callV C X (c_X3_set n G σ o0 ((45 : Int32)) ((0 : Int32)) ((0 : Int32)) ((0 : Int32)) ((-1 : Int32)) ho0 _ _ h3) dX3_clear_7 (gV u_24 u_27 u_28 u_25 u_26) rfl hy_X3_set rfl ho0 rfl (ci := 7) rfl rfl rfl (by decide) (Nat.le_of_ble_eq_true rfl) (by decide) ?_
  exact j_return C dX3_clear_10 (e_v h hg) (by decide) (by decide)
def sp_X3_isOn (n : Nat) (σ : Mem) (o0 : Nat) : Option (Int32 × Mem) := if (σ.1 o0 0) = (45 : Int32) then some ((0 : Int32), σ) else some ((1 : Int32), σ)
abbrev rm_X3_isOn : Room := ({ frames := 10, cells := 0, slots := 0, locals := 200 } : Room)
abbrev wu_X3_isOn : List Cond := (Cond.code yX3_isOn cX3_isOn 1 (some .boolean)) :: wsU
theorem hy_X3_isOn : hyOk yX3_isOn 0 := by decide +kernel
set_option maxRecDepth 20000 in
set_option maxHeartbeats 4000000 in
theorem c_X3_isOn (n : Nat) (G : Gt) (σ : Mem) (o0 : Nat) (ho0 : Ok o0 3) (r : Int32) (σ' : Mem) (h : sp_X3_isOn n σ o0 = some (r, σ')) : MM yX3_isOn wu_X3_isOn rm_X3_isOn [.ref (G.2.2 (o0))] G σ (.inl (some (.int r))) σ' := by
  refine mm_of (cc := cX3_isOn) (maxL := 1) (ret := (some .boolean)) (by decide +kernel) rfl (Nat.le_of_ble_eq_true rfl) (fun x C X hg => ?_)
  have C : Cx x cX3_isOn 1 RX3 (some .boolean) [] wu_X3_isOn rm_X3_isOn G.1 (tysF G) := C
  unfold sp_X3_isOn at h
  show J x [(0, .ref (G.2.2 (o0)))] [] σ 0 0 0
  refine j_aload_n C dX3_isOn_0 0 rfl ?_
  refine j_get C X dX3_isOn_1 ho0 rfl rfl 0 (by decide) (fin := false) rfl rfl in_X3 (mU u_19) ?_
  refine j_bipush C dX3_isOn_4 ((45 : Int32)) (by decide) ?_
  refine j_icmp_eq C dX3_isOn_6 13 (by decide) (fun c1 => ?_) (fun c1 => ?_)
  · have h := (if_pos c1).symm.trans h
    refine j_iconst C dX3_isOn_13 ((0 : Int32)) (by decide) ?_
    exact j_zreturn C (by decide) dX3_isOn_14 (e_i h hg) (by decide) (by decide)
  · have h := (if_neg c1).symm.trans h
    refine j_iconst C dX3_isOn_9 ((1 : Int32)) (by decide) ?_
    refine j_goto C dX3_isOn_10 14 (by decide) ?_
    exact j_zreturn C (by decide) dX3_isOn_14 (e_i h hg) (by decide) (by decide)
def sp_X3_isTo (n : Nat) (σ : Mem) (o0 : Nat) (a1 : Int32) : Option (Int32 × Mem) := ((sp_X3_isOn n σ o0).bind fun q => match q with | (r1, σ2) => if r1 = 0 then some ((0 : Int32), σ2) else if (σ2.1 o0 1) = a1 then some ((1 : Int32), σ2) else some ((0 : Int32), σ2))
abbrev rm_X3_isTo : Room := ({ frames := 11, cells := 0, slots := 0, locals := 220 } : Room)
abbrev wu_X3_isTo : List Cond := (Cond.code yX3_isTo cX3_isTo 2 (some .boolean)) :: wsU
theorem hy_X3_isTo : hyOk yX3_isTo 1 := by decide +kernel
set_option maxRecDepth 20000 in
set_option maxHeartbeats 4000000 in
theorem c_X3_isTo (n : Nat) (G : Gt) (σ : Mem) (o0 : Nat) (a1 : Int32) (ho0 : Ok o0 3) (r : Int32) (σ' : Mem) (h : sp_X3_isTo n σ o0 a1 = some (r, σ')) : MM yX3_isTo wu_X3_isTo rm_X3_isTo [.ref (G.2.2 (o0)), .int (a1)] G σ (.inl (some (.int r))) σ' := by
  refine mm_of (cc := cX3_isTo) (maxL := 2) (ret := (some .boolean)) (by decide +kernel) rfl (Nat.le_of_ble_eq_true rfl) (fun x C X hg => ?_)
  have C : Cx x cX3_isTo 2 RX3 (some .boolean) [] wu_X3_isTo rm_X3_isTo G.1 (tysF G) := C
  unfold sp_X3_isTo at h
  show J x [(0, .ref (G.2.2 (o0))), (1, .int (a1))] [] σ 0 0 0
  refine j_aload_n C dX3_isTo_0 0 rfl ?_
  obtain ⟨⟨r1, σ2⟩, h3, h⟩ := ob h
  try dsimp only at h
  refine j_callV C X (c_X3_isOn n G σ o0 ho0 _ _ h3) dX3_isTo_1 (gV u_29 u_31 u_32 u_25 u_30) rfl hy_X3_isOn rfl ho0 rfl (ci := 7) rfl rfl rfl (by decide) (Nat.le_of_ble_eq_true rfl) (by decide) ?_
  refine j_if_eq C dX3_isTo_4 19 (by decide) (fun c4 => ?_) (fun c4 => ?_)
  · have h := (if_pos c4).symm.trans h
    refine j_iconst C dX3_isTo_19 ((0 : Int32)) (by decide) ?_
    exact j_zreturn C (by decide) dX3_isTo_20 (e_i h hg) (by decide) (by decide)
  · have h := (if_neg c4).symm.trans h
    refine j_aload_n C dX3_isTo_7 0 rfl ?_
    refine j_get C X dX3_isTo_8 ho0 rfl rfl 1 (by decide) (fin := false) rfl rfl in_X3 (mU u_20) ?_
    refine j_iload_n C dX3_isTo_11 1 rfl ?_
    refine j_icmp_ne C dX3_isTo_12 19 (by decide) (fun c5 => ?_) (fun c5 => ?_)
    · have h := (if_neg c5).symm.trans h
      refine j_iconst C dX3_isTo_19 ((0 : Int32)) (by decide) ?_
      exact j_zreturn C (by decide) dX3_isTo_20 (e_i h hg) (by decide) (by decide)
    · have h := (if_pos c5).symm.trans h
      refine j_iconst C dX3_isTo_15 ((1 : Int32)) (by decide) ?_
      refine j_goto C dX3_isTo_16 20 (by decide) ?_
      exact j_zreturn C (by decide) dX3_isTo_20 (e_i h hg) (by decide) (by decide)
def sp_X3_isFor (n : Nat) (σ : Mem) (o0 : Nat) (a1 : Int32) : Option (Int32 × Mem) := ((sp_X3_isOn n σ o0).bind fun q => match q with | (r1, σ2) => if r1 = 0 then some ((0 : Int32), σ2) else if (σ2.1 o0 4) = (-1 : Int32) then some ((0 : Int32), σ2) else if (σ2.1 o0 4) = a1 then some ((1 : Int32), σ2) else some ((0 : Int32), σ2))
abbrev rm_X3_isFor : Room := ({ frames := 11, cells := 0, slots := 0, locals := 220 } : Room)
abbrev wu_X3_isFor : List Cond := (Cond.code yX3_isFor cX3_isFor 2 (some .boolean)) :: wsU
theorem hy_X3_isFor : hyOk yX3_isFor 1 := by decide +kernel
set_option maxRecDepth 20000 in
set_option maxHeartbeats 4000000 in
theorem c_X3_isFor (n : Nat) (G : Gt) (σ : Mem) (o0 : Nat) (a1 : Int32) (ho0 : Ok o0 3) (r : Int32) (σ' : Mem) (h : sp_X3_isFor n σ o0 a1 = some (r, σ')) : MM yX3_isFor wu_X3_isFor rm_X3_isFor [.ref (G.2.2 (o0)), .int (a1)] G σ (.inl (some (.int r))) σ' := by
  refine mm_of (cc := cX3_isFor) (maxL := 2) (ret := (some .boolean)) (by decide +kernel) rfl (Nat.le_of_ble_eq_true rfl) (fun x C X hg => ?_)
  have C : Cx x cX3_isFor 2 RX3 (some .boolean) [] wu_X3_isFor rm_X3_isFor G.1 (tysF G) := C
  unfold sp_X3_isFor at h
  show J x [(0, .ref (G.2.2 (o0))), (1, .int (a1))] [] σ 0 0 0
  refine j_aload_n C dX3_isFor_0 0 rfl ?_
  obtain ⟨⟨r1, σ2⟩, h3, h⟩ := ob h
  try dsimp only at h
  refine j_callV C X (c_X3_isOn n G σ o0 ho0 _ _ h3) dX3_isFor_1 (gV u_29 u_31 u_32 u_25 u_30) rfl hy_X3_isOn rfl ho0 rfl (ci := 7) rfl rfl rfl (by decide) (Nat.le_of_ble_eq_true rfl) (by decide) ?_
  refine j_if_eq C dX3_isFor_4 27 (by decide) (fun c4 => ?_) (fun c4 => ?_)
  · have h := (if_pos c4).symm.trans h
    refine j_iconst C dX3_isFor_27 ((0 : Int32)) (by decide) ?_
    exact j_zreturn C (by decide) dX3_isFor_28 (e_i h hg) (by decide) (by decide)
  · have h := (if_neg c4).symm.trans h
    refine j_aload_n C dX3_isFor_7 0 rfl ?_
    refine j_get C X dX3_isFor_8 ho0 rfl rfl 4 (by decide) (fin := false) rfl rfl in_X3 (mU u_23) ?_
    refine j_iconst C dX3_isFor_11 ((-1 : Int32)) (by decide) ?_
    refine j_icmp_eq C dX3_isFor_12 27 (by decide) (fun c5 => ?_) (fun c5 => ?_)
    · have h := (if_pos c5).symm.trans h
      refine j_iconst C dX3_isFor_27 ((0 : Int32)) (by decide) ?_
      exact j_zreturn C (by decide) dX3_isFor_28 (e_i h hg) (by decide) (by decide)
    · have h := (if_neg c5).symm.trans h
      refine j_aload_n C dX3_isFor_15 0 rfl ?_
      refine j_get C X dX3_isFor_16 ho0 rfl rfl 4 (by decide) (fin := false) rfl rfl in_X3 (mU u_23) ?_
      refine j_iload_n C dX3_isFor_19 1 rfl ?_
      refine j_icmp_ne C dX3_isFor_20 27 (by decide) (fun c6 => ?_) (fun c6 => ?_)
      · have h := (if_neg c6).symm.trans h
        refine j_iconst C dX3_isFor_27 ((0 : Int32)) (by decide) ?_
        exact j_zreturn C (by decide) dX3_isFor_28 (e_i h hg) (by decide) (by decide)
      · have h := (if_pos c6).symm.trans h
        refine j_iconst C dX3_isFor_23 ((1 : Int32)) (by decide) ?_
        refine j_goto C dX3_isFor_24 28 (by decide) ?_
        exact j_zreturn C (by decide) dX3_isFor_28 (e_i h hg) (by decide) (by decide)
def lp_X4_copyFrom_10 (n : Nat) (o0 : Nat) (o1 : Nat) : Nat → Mem → Int32 → Option (Unit × Mem)
  | 0, _, _ => none
  | k + 1, σ, l2 => if (8 : Int32) ≤ l2 then some ((), σ) else if (8 : Int32) ≤ l2 then some ((), σ) else if inR l2 8 ∧ Ok (σ.2 (rf o1 0) (l2).toNatClampNeg) 2 then if inR l2 8 ∧ Ok (σ.2 (rf o0 0) (l2).toNatClampNeg) 2 then ((sp_X2_set n σ ((σ.2 (rf o0 0) (l2).toNatClampNeg)) ((σ.1 (σ.2 (rf o1 0) (l2).toNatClampNeg) 0)) ((σ.1 (σ.2 (rf o1 0) (l2).toNatClampNeg) 1)) ((σ.1 (σ.2 (rf o1 0) (l2).toNatClampNeg) 2)) ((σ.1 (σ.2 (rf o1 0) (l2).toNatClampNeg) 3))).bind fun q => match q with | (_, σ8) => lp_X4_copyFrom_10 n o0 o1 k σ8 ((l2 + (1 : Int32)))) else none else none
theorem lp_X4_copyFrom_10_s (n : Nat) (o0 : Nat) (o1 : Nat) (k : Nat) (σ : Mem) (l2 : Int32) : lp_X4_copyFrom_10 n o0 o1 (k + 1) σ l2 = (if (8 : Int32) ≤ l2 then some ((), σ) else if (8 : Int32) ≤ l2 then some ((), σ) else if inR l2 8 ∧ Ok (σ.2 (rf o1 0) (l2).toNatClampNeg) 2 then if inR l2 8 ∧ Ok (σ.2 (rf o0 0) (l2).toNatClampNeg) 2 then ((sp_X2_set n σ ((σ.2 (rf o0 0) (l2).toNatClampNeg)) ((σ.1 (σ.2 (rf o1 0) (l2).toNatClampNeg) 0)) ((σ.1 (σ.2 (rf o1 0) (l2).toNatClampNeg) 1)) ((σ.1 (σ.2 (rf o1 0) (l2).toNatClampNeg) 2)) ((σ.1 (σ.2 (rf o1 0) (l2).toNatClampNeg) 3))).bind fun q => match q with | (_, σ8) => lp_X4_copyFrom_10 n o0 o1 k σ8 ((l2 + (1 : Int32)))) else none else none) := rfl
def sp_X4_copyFrom (n : Nat) (σ : Mem) (o0 : Nat) (o1 : Nat) : Option (Unit × Mem) := (lm (wi σ o0 1 (σ.1 o1 1)) fun σ1 => lp_X4_copyFrom_10 n o0 o1 n σ1 ((0 : Int32)))
abbrev rm_X4_copyFrom : Room := ({ frames := 11, cells := 0, slots := 0, locals := 224 } : Room)
abbrev wu_X4_copyFrom : List Cond := (Cond.code yX4_copyFrom cX4_copyFrom 4 none) :: wsU
theorem hy_X4_copyFrom : hyOk yX4_copyFrom 1 := by decide +kernel
set_option maxRecDepth 20000 in
set_option maxHeartbeats 4000000 in
theorem c_X4_copyFrom (n : Nat) (G : Gt) (σ : Mem) (o0 : Nat) (o1 : Nat) (ho0 : Ok o0 4) (ho1 : Ok o1 4) (r : Unit) (σ' : Mem) (h : sp_X4_copyFrom n σ o0 o1 = some (r, σ')) : MM yX4_copyFrom wu_X4_copyFrom rm_X4_copyFrom [.ref (G.2.2 (o0)), .ref (G.2.2 (o1))] G σ (.inl none) σ' := by
  refine mm_of (cc := cX4_copyFrom) (maxL := 4) (ret := none) (by decide +kernel) rfl (Nat.le_of_ble_eq_true rfl) (fun x C X hg => ?_)
  have C : Cx x cX4_copyFrom 4 RX4 none [] wu_X4_copyFrom rm_X4_copyFrom G.1 (tysF G) := C
  have LP10 : ∀ (k : Nat) (σ : Mem) (l2 : Int32), lp_X4_copyFrom_10 n o0 o1 k σ l2 = some (r, σ') → J x [(0, .ref (G.2.2 (o0))), (1, .ref (G.2.2 (o1))), (2, .int (l2))] [] σ 10 0 0 := by
    intro k
    induction k with
    | zero => intro σ l2  h; cases h
    | succ k ih =>
    intro σ l2  h
    rw [lp_X4_copyFrom_10_s] at h
    refine j_iload_n C dX4_copyFrom_10 2 rfl ?_
    refine j_aload_n C dX4_copyFrom_11 0 rfl ?_
    refine j_get C X dX4_copyFrom_12 ho0 rfl rfl 0 (by decide) (fin := true) rfl rfl in_X4 (mU u_34) ?_
    refine j_alen C X dX4_copyFrom_15 (sh_4_0 ho0) 1 rfl rfl 8 rfl ?_
    refine j_icmp_ge C dX4_copyFrom_16 66 (by decide) (fun c3 => ?_) (fun c3 => ?_)
    · have h := (if_pos c3).symm.trans h
      exact j_return C dX4_copyFrom_66 (e_v h hg) (by decide) (by decide)
    · have h := (if_neg c3).symm.trans h
      refine j_iload_n C dX4_copyFrom_19 2 rfl ?_
      refine j_aload_n C dX4_copyFrom_20 1 rfl ?_
      refine j_get C X dX4_copyFrom_21 ho1 rfl rfl 0 (by decide) (fin := true) rfl rfl in_X4 (mU u_34) ?_
      refine j_alen C X dX4_copyFrom_24 (sh_4_0 ho1) 1 rfl rfl 8 rfl ?_
      refine j_icmp_ge C dX4_copyFrom_25 66 (by decide) (fun c4 => ?_) (fun c4 => ?_)
      · have h := (if_pos c4).symm.trans h
        exact j_return C dX4_copyFrom_66 (e_v h hg) (by decide) (by decide)
      · have h := (if_neg c4).symm.trans h
        refine j_aload_n C dX4_copyFrom_28 1 rfl ?_
        refine j_get C X dX4_copyFrom_29 ho1 rfl rfl 0 (by decide) (fin := true) rfl rfl in_X4 (mU u_34) ?_
        refine j_iload_n C dX4_copyFrom_32 2 rfl ?_
        obtain ⟨⟨g5, g5k⟩, h⟩ := sg h
        refine j_aald C X dX4_copyFrom_33 (sh_4_0 ho1) 1 (n := 8) rfl rfl g5 ?_
        refine j_astore_n C dX4_copyFrom_34 (by decide) [(3, .ref (G.2.2 ((σ.2 (rf o1 0) (l2).toNatClampNeg)))), (0, .ref (G.2.2 (o0))), (1, .ref (G.2.2 (o1))), (2, .int (l2))] rfl ?_
        refine j_aload_n C dX4_copyFrom_35 1 rfl ?_
        refine j_get C X dX4_copyFrom_36 ho0 rfl rfl 0 (by decide) (fin := true) rfl rfl in_X4 (mU u_34) ?_
        refine j_iload_n C dX4_copyFrom_39 3 rfl ?_
        obtain ⟨⟨g6, g6k⟩, h⟩ := sg h
        refine j_aald C X dX4_copyFrom_40 (sh_4_0 ho0) 1 (n := 8) rfl rfl g6 ?_
        refine j_aload_n C dX4_copyFrom_41 0 rfl ?_
        refine j_get C X dX4_copyFrom_42 g5k rfl rfl 0 (by decide) (fin := false) rfl rfl in_X2 (mU u_35) ?_
        refine j_aload_n C dX4_copyFrom_45 0 rfl ?_
        refine j_get C X dX4_copyFrom_46 g5k rfl rfl 1 (by decide) (fin := false) rfl rfl in_X2 (mU u_36) ?_
        refine j_aload_n C dX4_copyFrom_49 0 rfl ?_
        refine j_get C X dX4_copyFrom_50 g5k rfl rfl 2 (by decide) (fin := false) rfl rfl in_X2 (mU u_37) ?_
        refine j_aload_n C dX4_copyFrom_53 0 rfl ?_
        refine j_get C X dX4_copyFrom_54 g5k rfl rfl 3 (by decide) (fin := false) rfl rfl in_X2 (mU u_38) ?_
        obtain ⟨⟨r7, σ8⟩, h9, h⟩ := ob h
        try dsimp only at h
        refine j_callV C X (c_X2_set n G σ ((σ.2 (rf o0 0) (l2).toNatClampNeg)) ((σ.1 (σ.2 (rf o1 0) (l2).toNatClampNeg) 0)) ((σ.1 (σ.2 (rf o1 0) (l2).toNatClampNeg) 1)) ((σ.1 (σ.2 (rf o1 0) (l2).toNatClampNeg) 2)) ((σ.1 (σ.2 (rf o1 0) (l2).toNatClampNeg) 3)) g6k _ _ h9) dX4_copyFrom_57 (gV u_39 u_42 u_43 u_40 u_41) rfl hy_X2_set rfl g6k rfl (ci := 6) rfl rfl rfl (by decide) (Nat.le_of_ble_eq_true rfl) (by decide) ?_
        refine j_iinc C dX4_copyFrom_60 3 rfl ((1 : Int32)) (by decide) (by decide) [(2, .int ((l2 + (1 : Int32)))), (3, .ref (G.2.2 ((σ.2 (rf o1 0) (l2).toNatClampNeg)))), (0, .ref (G.2.2 (o0))), (1, .ref (G.2.2 (o1)))] rfl ?_
        refine j_goto C dX4_copyFrom_63 10 (by decide) ?_
        refine j_sub [2, 3, 0] [(0, .ref (G.2.2 (o0))), (1, .ref (G.2.2 (o1))), (2, .int ((l2 + (1 : Int32))))] rfl ?_
        exact ih σ8 ((l2 + (1 : Int32)))  h
  unfold sp_X4_copyFrom at h
  show J x [(0, .ref (G.2.2 (o0))), (1, .ref (G.2.2 (o1)))] [] σ 0 0 0
  refine j_aload_n C dX4_copyFrom_0 0 rfl ?_
  refine j_aload_n C dX4_copyFrom_1 1 rfl ?_
  refine j_get C X dX4_copyFrom_2 ho1 rfl rfl 1 (by decide) (fin := false) rfl rfl in_X4 (mU u_33) ?_
  obtain ⟨σ1, e2, h⟩ := lm_e h
  refine j_put C X dX4_copyFrom_5 ho0 (ty0 := tyX4) rfl rfl 1 (by decide) rfl rfl (Nat.le_of_ble_eq_true rfl) tyX4_ok nmX4 (ty := .int) rfl rfl rfl in_X4 (mU u_33) e2 ?_
  refine j_iconst C dX4_copyFrom_8 ((0 : Int32)) (by decide) ?_
  refine j_istore_n C dX4_copyFrom_9 (by decide) [(2, .int ((0 : Int32))), (0, .ref (G.2.2 (o0))), (1, .ref (G.2.2 (o1)))] rfl ?_
  refine j_sub [1, 2, 0] [(0, .ref (G.2.2 (o0))), (1, .ref (G.2.2 (o1))), (2, .int ((0 : Int32)))] rfl ?_
  exact LP10 n σ1 ((0 : Int32))  h
def sp_X4_add (n : Nat) (σ : Mem) (o0 : Nat) (a1 : Int32) (a2 : Int32) (a3 : Int32) (a4 : Int32) : Option (Unit × Mem) := if (σ.1 o0 1) < 0 then some ((), σ) else if (8 : Int32) ≤ (σ.1 o0 1) then some ((), σ) else if inR (σ.1 o0 1) 8 ∧ Ok (σ.2 (rf o0 0) ((σ.1 o0 1)).toNatClampNeg) 2 then ((sp_X2_set n σ ((σ.2 (rf o0 0) ((σ.1 o0 1)).toNatClampNeg)) a1 a2 a3 a4).bind fun q => match q with | (_, σ5) => (lm (wi σ5 o0 1 ((σ5.1 o0 1) + (1 : Int32))) fun σ7 => some ((), σ7))) else none
abbrev rm_X4_add : Room := ({ frames := 11, cells := 0, slots := 0, locals := 224 } : Room)
abbrev wu_X4_add : List Cond := (Cond.code yX4_add cX4_add 5 none) :: wsU
theorem hy_X4_add : hyOk yX4_add 4 := by decide +kernel
set_option maxRecDepth 20000 in
set_option maxHeartbeats 4000000 in
theorem c_X4_add (n : Nat) (G : Gt) (σ : Mem) (o0 : Nat) (a1 : Int32) (a2 : Int32) (a3 : Int32) (a4 : Int32) (ho0 : Ok o0 4) (r : Unit) (σ' : Mem) (h : sp_X4_add n σ o0 a1 a2 a3 a4 = some (r, σ')) : MM yX4_add wu_X4_add rm_X4_add [.ref (G.2.2 (o0)), .int (a1), .int (a2), .int (a3), .int (a4)] G σ (.inl none) σ' := by
  refine mm_of (cc := cX4_add) (maxL := 5) (ret := none) (by decide +kernel) rfl (Nat.le_of_ble_eq_true rfl) (fun x C X hg => ?_)
  have C : Cx x cX4_add 5 RX4 none [] wu_X4_add rm_X4_add G.1 (tysF G) := C
  unfold sp_X4_add at h
  show J x [(0, .ref (G.2.2 (o0))), (1, .int (a1)), (2, .int (a2)), (3, .int (a3)), (4, .int (a4))] [] σ 0 0 0
  refine j_aload_n C dX4_add_0 0 rfl ?_
  refine j_get C X dX4_add_1 ho0 rfl rfl 1 (by decide) (fin := false) rfl rfl in_X4 (mU u_33) ?_
  refine j_if_lt C dX4_add_4 46 (by decide) (fun c1 => ?_) (fun c1 => ?_)
  · have h := (if_pos c1).symm.trans h
    exact j_return C dX4_add_46 (e_v h hg) (by decide) (by decide)
  · have h := (if_neg c1).symm.trans h
    refine j_aload_n C dX4_add_7 0 rfl ?_
    refine j_get C X dX4_add_8 ho0 rfl rfl 1 (by decide) (fin := false) rfl rfl in_X4 (mU u_33) ?_
    refine j_aload_n C dX4_add_11 0 rfl ?_
    refine j_get C X dX4_add_12 ho0 rfl rfl 0 (by decide) (fin := true) rfl rfl in_X4 (mU u_34) ?_
    refine j_alen C X dX4_add_15 (sh_4_0 ho0) 1 rfl rfl 8 rfl ?_
    refine j_icmp_ge C dX4_add_16 46 (by decide) (fun c2 => ?_) (fun c2 => ?_)
    · have h := (if_pos c2).symm.trans h
      exact j_return C dX4_add_46 (e_v h hg) (by decide) (by decide)
    · have h := (if_neg c2).symm.trans h
      refine j_aload_n C dX4_add_19 0 rfl ?_
      refine j_get C X dX4_add_20 ho0 rfl rfl 0 (by decide) (fin := true) rfl rfl in_X4 (mU u_34) ?_
      refine j_aload_n C dX4_add_23 0 rfl ?_
      refine j_get C X dX4_add_24 ho0 rfl rfl 1 (by decide) (fin := false) rfl rfl in_X4 (mU u_33) ?_
      obtain ⟨⟨g3, g3k⟩, h⟩ := sg h
      refine j_aald C X dX4_add_27 (sh_4_0 ho0) 1 (n := 8) rfl rfl g3 ?_
      refine j_iload_n C dX4_add_28 1 rfl ?_
      refine j_iload_n C dX4_add_29 2 rfl ?_
      refine j_iload_n C dX4_add_30 3 rfl ?_
      refine j_iload C dX4_add_31 4 rfl ?_
      obtain ⟨⟨r4, σ5⟩, h6, h⟩ := ob h
      try dsimp only at h
      refine j_callV C X (c_X2_set n G σ ((σ.2 (rf o0 0) ((σ.1 o0 1)).toNatClampNeg)) a1 a2 a3 a4 g3k _ _ h6) dX4_add_33 (gV u_39 u_42 u_43 u_40 u_41) rfl hy_X2_set rfl g3k rfl (ci := 6) rfl rfl rfl (by decide) (Nat.le_of_ble_eq_true rfl) (by decide) ?_
      refine j_aload_n C dX4_add_36 0 rfl ?_
      refine j_dup C dX4_add_37 rfl ?_
      refine j_get C X dX4_add_38 ho0 rfl rfl 1 (by decide) (fin := false) rfl rfl in_X4 (mU u_33) ?_
      refine j_iconst C dX4_add_41 ((1 : Int32)) (by decide) ?_
      refine j_iadd C dX4_add_42 ?_
      obtain ⟨σ7, e8, h⟩ := lm_e h
      refine j_put C X dX4_add_43 ho0 (ty0 := tyX4) rfl rfl 1 (by decide) rfl rfl (Nat.le_of_ble_eq_true rfl) tyX4_ok nmX4 (ty := .int) rfl rfl rfl in_X4 (mU u_33) e8 ?_
      exact j_return C dX4_add_46 (e_v h hg) (by decide) (by decide)
def sp_X4_numberAt (n : Nat) (σ : Mem) (o0 : Nat) (a1 : Int32) : Option (Int32 × Mem) := if a1 < 0 then some ((-1 : Int32), σ) else if (8 : Int32) ≤ a1 then some ((-1 : Int32), σ) else if inR a1 8 ∧ Ok (σ.2 (rf o0 0) (a1).toNatClampNeg) 2 then some ((σ.1 (σ.2 (rf o0 0) (a1).toNatClampNeg) 0), σ) else none
abbrev rm_X4_numberAt : Room := ({ frames := 10, cells := 0, slots := 0, locals := 200 } : Room)
abbrev wu_X4_numberAt : List Cond := (Cond.code yX4_numberAt cX4_numberAt 2 (some .int)) :: wsU
theorem hy_X4_numberAt : hyOk yX4_numberAt 1 := by decide +kernel
set_option maxRecDepth 20000 in
set_option maxHeartbeats 4000000 in
theorem c_X4_numberAt (n : Nat) (G : Gt) (σ : Mem) (o0 : Nat) (a1 : Int32) (ho0 : Ok o0 4) (r : Int32) (σ' : Mem) (h : sp_X4_numberAt n σ o0 a1 = some (r, σ')) : MM yX4_numberAt wu_X4_numberAt rm_X4_numberAt [.ref (G.2.2 (o0)), .int (a1)] G σ (.inl (some (.int r))) σ' := by
  refine mm_of (cc := cX4_numberAt) (maxL := 2) (ret := (some .int)) (by decide +kernel) rfl (Nat.le_of_ble_eq_true rfl) (fun x C X hg => ?_)
  have C : Cx x cX4_numberAt 2 RX4 (some .int) [] wu_X4_numberAt rm_X4_numberAt G.1 (tysF G) := C
  unfold sp_X4_numberAt at h
  show J x [(0, .ref (G.2.2 (o0))), (1, .int (a1))] [] σ 0 0 0
  refine j_iload_n C dX4_numberAt_0 1 rfl ?_
  refine j_if_lt C dX4_numberAt_1 25 (by decide) (fun c1 => ?_) (fun c1 => ?_)
  · have h := (if_pos c1).symm.trans h
    refine j_iconst C dX4_numberAt_25 ((-1 : Int32)) (by decide) ?_
    exact j_ireturn C dX4_numberAt_26 (e_i h hg) (by decide) (by decide)
  · have h := (if_neg c1).symm.trans h
    refine j_iload_n C dX4_numberAt_4 1 rfl ?_
    refine j_aload_n C dX4_numberAt_5 0 rfl ?_
    refine j_get C X dX4_numberAt_6 ho0 rfl rfl 0 (by decide) (fin := true) rfl rfl in_X4 (mU u_34) ?_
    refine j_alen C X dX4_numberAt_9 (sh_4_0 ho0) 1 rfl rfl 8 rfl ?_
    refine j_icmp_ge C dX4_numberAt_10 25 (by decide) (fun c2 => ?_) (fun c2 => ?_)
    · have h := (if_pos c2).symm.trans h
      refine j_iconst C dX4_numberAt_25 ((-1 : Int32)) (by decide) ?_
      exact j_ireturn C dX4_numberAt_26 (e_i h hg) (by decide) (by decide)
    · have h := (if_neg c2).symm.trans h
      refine j_aload_n C dX4_numberAt_13 0 rfl ?_
      refine j_get C X dX4_numberAt_14 ho0 rfl rfl 0 (by decide) (fin := true) rfl rfl in_X4 (mU u_34) ?_
      refine j_iload_n C dX4_numberAt_17 1 rfl ?_
      obtain ⟨⟨g3, g3k⟩, h⟩ := sg h
      refine j_aald C X dX4_numberAt_18 (sh_4_0 ho0) 1 (n := 8) rfl rfl g3 ?_
      refine j_get C X dX4_numberAt_19 g3k rfl rfl 0 (by decide) (fin := false) rfl rfl in_X2 (mU u_35) ?_
      refine j_goto C dX4_numberAt_22 26 (by decide) ?_
      exact j_ireturn C dX4_numberAt_26 (e_i h hg) (by decide) (by decide)
def lp_X4_positionOf_2 (n : Nat) (o0 : Nat) (a1 : Int32) : Nat → Mem → Int32 → Int32 → Option (Int32 × Mem)
  | 0, _, _, _ => none
  | k + 1, σ, l1, l2 => if (σ.1 o0 1) ≤ l2 then some (l2, σ) else ((sp_X4_numberAt n σ o0 l2).bind fun q => match q with | (r2, σ3) => if r2 = l1 then some (l2, σ3) else lp_X4_positionOf_2 n o0 a1 k σ3 l1 ((l2 + (1 : Int32))))
theorem lp_X4_positionOf_2_s (n : Nat) (o0 : Nat) (a1 : Int32) (k : Nat) (σ : Mem) (l1 : Int32) (l2 : Int32) : lp_X4_positionOf_2 n o0 a1 (k + 1) σ l1 l2 = (if (σ.1 o0 1) ≤ l2 then some (l2, σ) else ((sp_X4_numberAt n σ o0 l2).bind fun q => match q with | (r2, σ3) => if r2 = l1 then some (l2, σ3) else lp_X4_positionOf_2 n o0 a1 k σ3 l1 ((l2 + (1 : Int32))))) := rfl
def sp_X4_positionOf (n : Nat) (σ : Mem) (o0 : Nat) (a1 : Int32) : Option (Int32 × Mem) := lp_X4_positionOf_2 n o0 a1 n σ a1 ((0 : Int32))
abbrev rm_X4_positionOf : Room := ({ frames := 11, cells := 0, slots := 0, locals := 221 } : Room)
abbrev wu_X4_positionOf : List Cond := (Cond.code yX4_positionOf cX4_positionOf 3 (some .int)) :: wsU
theorem hy_X4_positionOf : hyOk yX4_positionOf 1 := by decide +kernel
set_option maxRecDepth 20000 in
set_option maxHeartbeats 4000000 in
theorem c_X4_positionOf (n : Nat) (G : Gt) (σ : Mem) (o0 : Nat) (a1 : Int32) (ho0 : Ok o0 4) (r : Int32) (σ' : Mem) (h : sp_X4_positionOf n σ o0 a1 = some (r, σ')) : MM yX4_positionOf wu_X4_positionOf rm_X4_positionOf [.ref (G.2.2 (o0)), .int (a1)] G σ (.inl (some (.int r))) σ' := by
  refine mm_of (cc := cX4_positionOf) (maxL := 3) (ret := (some .int)) (by decide +kernel) rfl (Nat.le_of_ble_eq_true rfl) (fun x C X hg => ?_)
  have C : Cx x cX4_positionOf 3 RX4 (some .int) [] wu_X4_positionOf rm_X4_positionOf G.1 (tysF G) := C
  have LP2 : ∀ (k : Nat) (σ : Mem) (l1 : Int32) (l2 : Int32), lp_X4_positionOf_2 n o0 a1 k σ l1 l2 = some (r, σ') → J x [(0, .ref (G.2.2 (o0))), (1, .int (l1)), (2, .int (l2))] [] σ 2 0 0 := by
    intro k
    induction k with
    | zero => intro σ l1 l2  h; cases h
    | succ k ih =>
    intro σ l1 l2  h
    rw [lp_X4_positionOf_2_s] at h
    refine j_iload_n C dX4_positionOf_2 2 rfl ?_
    refine j_aload_n C dX4_positionOf_3 0 rfl ?_
    refine j_get C X dX4_positionOf_4 ho0 rfl rfl 1 (by decide) (fin := false) rfl rfl in_X4 (mU u_33) ?_
    refine j_icmp_ge C dX4_positionOf_7 25 (by decide) (fun c1 => ?_) (fun c1 => ?_)
    · have h := (if_pos c1).symm.trans h
      refine j_iload_n C dX4_positionOf_25 2 rfl ?_
      exact j_ireturn C dX4_positionOf_26 (e_i h hg) (by decide) (by decide)
    · have h := (if_neg c1).symm.trans h
      refine j_aload_n C dX4_positionOf_10 0 rfl ?_
      refine j_iload_n C dX4_positionOf_11 2 rfl ?_
      obtain ⟨⟨r2, σ3⟩, h4, h⟩ := ob h
      try dsimp only at h
      refine j_callV C X (c_X4_numberAt n G σ o0 l2 ho0 _ _ h4) dX4_positionOf_12 (gV u_44 u_47 u_48 u_45 u_46) rfl hy_X4_numberAt rfl ho0 rfl (ci := 8) rfl rfl rfl (by decide) (Nat.le_of_ble_eq_true rfl) (by decide) ?_
      refine j_iload_n C dX4_positionOf_15 1 rfl ?_
      refine j_icmp_eq C dX4_positionOf_16 25 (by decide) (fun c5 => ?_) (fun c5 => ?_)
      · have h := (if_pos c5).symm.trans h
        refine j_iload_n C dX4_positionOf_25 2 rfl ?_
        exact j_ireturn C dX4_positionOf_26 (e_i h hg) (by decide) (by decide)
      · have h := (if_neg c5).symm.trans h
        refine j_iinc C dX4_positionOf_19 2 rfl ((1 : Int32)) (by decide) (by decide) [(2, .int ((l2 + (1 : Int32)))), (0, .ref (G.2.2 (o0))), (1, .int (l1))] rfl ?_
        refine j_goto C dX4_positionOf_22 2 (by decide) ?_
        refine j_sub [1, 2, 0] [(0, .ref (G.2.2 (o0))), (1, .int (l1)), (2, .int ((l2 + (1 : Int32))))] rfl ?_
        exact ih σ3 l1 ((l2 + (1 : Int32)))  h
  unfold sp_X4_positionOf at h
  show J x [(0, .ref (G.2.2 (o0))), (1, .int (a1))] [] σ 0 0 0
  refine j_iconst C dX4_positionOf_0 ((0 : Int32)) (by decide) ?_
  refine j_istore_n C dX4_positionOf_1 (by decide) [(2, .int ((0 : Int32))), (0, .ref (G.2.2 (o0))), (1, .int (a1))] rfl ?_
  refine j_sub [1, 2, 0] [(0, .ref (G.2.2 (o0))), (1, .int (a1)), (2, .int ((0 : Int32)))] rfl ?_
  exact LP2 n σ a1 ((0 : Int32))  h
def sp_X4_holds (n : Nat) (σ : Mem) (o0 : Nat) (a1 : Int32) : Option (Int32 × Mem) := ((sp_X4_positionOf n σ o0 a1).bind fun q => match q with | (r1, σ2) => if (σ2.1 o0 1) ≤ r1 then some ((0 : Int32), σ2) else some ((1 : Int32), σ2))
abbrev rm_X4_holds : Room := ({ frames := 12, cells := 0, slots := 0, locals := 243 } : Room)
abbrev wu_X4_holds : List Cond := (Cond.code yX4_holds cX4_holds 2 (some .boolean)) :: wsU
theorem hy_X4_holds : hyOk yX4_holds 1 := by decide +kernel
set_option maxRecDepth 20000 in
set_option maxHeartbeats 4000000 in
theorem c_X4_holds (n : Nat) (G : Gt) (σ : Mem) (o0 : Nat) (a1 : Int32) (ho0 : Ok o0 4) (r : Int32) (σ' : Mem) (h : sp_X4_holds n σ o0 a1 = some (r, σ')) : MM yX4_holds wu_X4_holds rm_X4_holds [.ref (G.2.2 (o0)), .int (a1)] G σ (.inl (some (.int r))) σ' := by
  refine mm_of (cc := cX4_holds) (maxL := 2) (ret := (some .boolean)) (by decide +kernel) rfl (Nat.le_of_ble_eq_true rfl) (fun x C X hg => ?_)
  have C : Cx x cX4_holds 2 RX4 (some .boolean) [] wu_X4_holds rm_X4_holds G.1 (tysF G) := C
  unfold sp_X4_holds at h
  show J x [(0, .ref (G.2.2 (o0))), (1, .int (a1))] [] σ 0 0 0
  refine j_aload_n C dX4_holds_0 0 rfl ?_
  refine j_iload_n C dX4_holds_1 1 rfl ?_
  obtain ⟨⟨r1, σ2⟩, h3, h⟩ := ob h
  try dsimp only at h
  refine j_callV C X (c_X4_positionOf n G σ o0 a1 ho0 _ _ h3) dX4_holds_2 (gV u_49 u_51 u_52 u_45 u_50) rfl hy_X4_positionOf rfl ho0 rfl (ci := 8) rfl rfl rfl (by decide) (Nat.le_of_ble_eq_true rfl) (by decide) ?_
  refine j_aload_n C dX4_holds_5 0 rfl ?_
  refine j_get C X dX4_holds_6 ho0 rfl rfl 1 (by decide) (fin := false) rfl rfl in_X4 (mU u_33) ?_
  refine j_icmp_ge C dX4_holds_9 16 (by decide) (fun c4 => ?_) (fun c4 => ?_)
  · have h := (if_pos c4).symm.trans h
    refine j_iconst C dX4_holds_16 ((0 : Int32)) (by decide) ?_
    exact j_zreturn C (by decide) dX4_holds_17 (e_i h hg) (by decide) (by decide)
  · have h := (if_neg c4).symm.trans h
    refine j_iconst C dX4_holds_12 ((1 : Int32)) (by decide) ?_
    refine j_goto C dX4_holds_13 17 (by decide) ?_
    exact j_zreturn C (by decide) dX4_holds_17 (e_i h hg) (by decide) (by decide)
def lp_X4_remove_34 (n : Nat) (o0 : Nat) (a1 : Int32) : Nat → Mem → Int32 → Int32 → Nat → Int32 → Option (Unit × Mem)
  | 0, _, _, _, _, _ => none
  | k + 1, σ, l1, l2, p3, l4 => if (8 : Int32) ≤ (l4 + (1 : Int32)) then if inR ((8 : Int32) - (1 : Int32)) 8 then (lm (wr σ (rf o0 0) (((8 : Int32) - (1 : Int32))).toNatClampNeg p3) fun σ9 => (lm (wi σ9 o0 1 ((σ9.1 o0 1) - (1 : Int32))) fun σ11 => some ((), σ11))) else none else if inR (l4 + (1 : Int32)) 8 ∧ Ok (σ.2 (rf o0 0) ((l4 + (1 : Int32))).toNatClampNeg) 2 then if inR l4 8 then (lm (wr σ (rf o0 0) (l4).toNatClampNeg (σ.2 (rf o0 0) ((l4 + (1 : Int32))).toNatClampNeg)) fun σ15 => lp_X4_remove_34 n o0 a1 k σ15 l1 l2 p3 ((l4 + (1 : Int32)))) else none else none
theorem lp_X4_remove_34_s (n : Nat) (o0 : Nat) (a1 : Int32) (k : Nat) (σ : Mem) (l1 : Int32) (l2 : Int32) (p3 : Nat) (l4 : Int32) : lp_X4_remove_34 n o0 a1 (k + 1) σ l1 l2 p3 l4 = (if (8 : Int32) ≤ (l4 + (1 : Int32)) then if inR ((8 : Int32) - (1 : Int32)) 8 then (lm (wr σ (rf o0 0) (((8 : Int32) - (1 : Int32))).toNatClampNeg p3) fun σ9 => (lm (wi σ9 o0 1 ((σ9.1 o0 1) - (1 : Int32))) fun σ11 => some ((), σ11))) else none else if inR (l4 + (1 : Int32)) 8 ∧ Ok (σ.2 (rf o0 0) ((l4 + (1 : Int32))).toNatClampNeg) 2 then if inR l4 8 then (lm (wr σ (rf o0 0) (l4).toNatClampNeg (σ.2 (rf o0 0) ((l4 + (1 : Int32))).toNatClampNeg)) fun σ15 => lp_X4_remove_34 n o0 a1 k σ15 l1 l2 p3 ((l4 + (1 : Int32)))) else none else none) := rfl
def sp_X4_remove (n : Nat) (σ : Mem) (o0 : Nat) (a1 : Int32) : Option (Unit × Mem) := ((sp_X4_positionOf n σ o0 a1).bind fun q => match q with | (r1, σ2) => if (σ2.1 o0 1) ≤ r1 then some ((), σ2) else if r1 < (8 : Int32) then if inR r1 8 ∧ Ok (σ2.2 (rf o0 0) (r1).toNatClampNeg) 2 then lp_X4_remove_34 n o0 a1 n σ2 a1 r1 ((σ2.2 (rf o0 0) (r1).toNatClampNeg)) r1 else none else some ((), σ2))
abbrev rm_X4_remove : Room := ({ frames := 12, cells := 0, slots := 0, locals := 243 } : Room)
abbrev wu_X4_remove : List Cond := (Cond.code yX4_remove cX4_remove 5 none) :: wsU
theorem hy_X4_remove : hyOk yX4_remove 1 := by decide +kernel
set_option maxRecDepth 20000 in
set_option maxHeartbeats 4000000 in
theorem c_X4_remove (n : Nat) (G : Gt) (σ : Mem) (o0 : Nat) (a1 : Int32) (ho0 : Ok o0 4) (r : Unit) (σ' : Mem) (h : sp_X4_remove n σ o0 a1 = some (r, σ')) : MM yX4_remove wu_X4_remove rm_X4_remove [.ref (G.2.2 (o0)), .int (a1)] G σ (.inl none) σ' := by
  refine mm_of (cc := cX4_remove) (maxL := 5) (ret := none) (by decide +kernel) rfl (Nat.le_of_ble_eq_true rfl) (fun x C X hg => ?_)
  have C : Cx x cX4_remove 5 RX4 none [] wu_X4_remove rm_X4_remove G.1 (tysF G) := C
  have LP34 : ∀ (k : Nat) (σ : Mem) (l1 : Int32) (l2 : Int32) (p3 : Nat) (l4 : Int32) (hp3 : Ok p3 2), lp_X4_remove_34 n o0 a1 k σ l1 l2 p3 l4 = some (r, σ') → J x [(0, .ref (G.2.2 (o0))), (1, .int (l1)), (2, .int (l2)), (3, .ref (G.2.2 (p3))), (4, .int (l4))] [] σ 34 0 0 := by
    intro k
    induction k with
    | zero => intro σ l1 l2 p3 l4 hp3 h; cases h
    | succ k ih =>
    intro σ l1 l2 p3 l4 hp3 h
    rw [lp_X4_remove_34_s] at h
    refine j_iload C dX4_remove_34 4 rfl ?_
    refine j_iconst C dX4_remove_36 ((1 : Int32)) (by decide) ?_
    refine j_iadd C dX4_remove_37 ?_
    refine j_aload_n C dX4_remove_38 0 rfl ?_
    refine j_get C X dX4_remove_39 ho0 rfl rfl 0 (by decide) (fin := true) rfl rfl in_X4 (mU u_34) ?_
    refine j_alen C X dX4_remove_42 (sh_4_0 ho0) 1 rfl rfl 8 rfl ?_
    refine j_icmp_ge C dX4_remove_43 68 (by decide) (fun c7 => ?_) (fun c7 => ?_)
    · have h := (if_pos c7).symm.trans h
      refine j_aload_n C dX4_remove_68 0 rfl ?_
      refine j_get C X dX4_remove_69 ho0 rfl rfl 0 (by decide) (fin := true) rfl rfl in_X4 (mU u_34) ?_
      refine j_aload_n C dX4_remove_72 0 rfl ?_
      refine j_get C X dX4_remove_73 ho0 rfl rfl 0 (by decide) (fin := true) rfl rfl in_X4 (mU u_34) ?_
      refine j_alen C X dX4_remove_76 (sh_4_0 ho0) 1 rfl rfl 8 rfl ?_
      refine j_iconst C dX4_remove_77 ((1 : Int32)) (by decide) ?_
      refine j_isub C dX4_remove_78 ?_
      refine j_aload_n C dX4_remove_79 3 rfl ?_
      obtain ⟨g8, h⟩ := sg h
      obtain ⟨σ9, e10, h⟩ := lm_e h
      refine j_aast C X dX4_remove_80 (sh_4_0 ho0) hp3 1 (n := 8) (fun _ => rfl) rfl rfl (ci := 6) rfl g8 e10 ?_
      refine j_aload_n C dX4_remove_81 0 rfl ?_
      refine j_dup C dX4_remove_82 rfl ?_
      refine j_get C X dX4_remove_83 ho0 rfl rfl 1 (by decide) (fin := false) rfl rfl in_X4 (mU u_33) ?_
      refine j_iconst C dX4_remove_86 ((1 : Int32)) (by decide) ?_
      refine j_isub C dX4_remove_87 ?_
      obtain ⟨σ11, e12, h⟩ := lm_e h
      refine j_put C X dX4_remove_88 ho0 (ty0 := tyX4) rfl rfl 1 (by decide) rfl rfl (Nat.le_of_ble_eq_true rfl) tyX4_ok nmX4 (ty := .int) rfl rfl rfl in_X4 (mU u_33) e12 ?_
      exact j_return C dX4_remove_91 (e_v h hg) (by decide) (by decide)
    · have h := (if_neg c7).symm.trans h
      refine j_aload_n C dX4_remove_46 0 rfl ?_
      refine j_get C X dX4_remove_47 ho0 rfl rfl 0 (by decide) (fin := true) rfl rfl in_X4 (mU u_34) ?_
      refine j_iload C dX4_remove_50 4 rfl ?_
      refine j_aload_n C dX4_remove_52 0 rfl ?_
      refine j_get C X dX4_remove_53 ho0 rfl rfl 0 (by decide) (fin := true) rfl rfl in_X4 (mU u_34) ?_
      refine j_iload C dX4_remove_56 4 rfl ?_
      refine j_iconst C dX4_remove_58 ((1 : Int32)) (by decide) ?_
      refine j_iadd C dX4_remove_59 ?_
      obtain ⟨⟨g13, g13k⟩, h⟩ := sg h
      refine j_aald C X dX4_remove_60 (sh_4_0 ho0) 1 (n := 8) rfl rfl g13 ?_
      obtain ⟨g14, h⟩ := sg h
      obtain ⟨σ15, e16, h⟩ := lm_e h
      refine j_aast C X dX4_remove_61 (sh_4_0 ho0) g13k 1 (n := 8) (fun _ => rfl) rfl rfl (ci := 6) rfl g14 e16 ?_
      refine j_iinc C dX4_remove_62 4 rfl ((1 : Int32)) (by decide) (by decide) [(4, .int ((l4 + (1 : Int32)))), (0, .ref (G.2.2 (o0))), (1, .int (l1)), (2, .int (l2)), (3, .ref (G.2.2 (p3)))] rfl ?_
      refine j_goto C dX4_remove_65 34 (by decide) ?_
      refine j_sub [1, 2, 3, 4, 0] [(0, .ref (G.2.2 (o0))), (1, .int (l1)), (2, .int (l2)), (3, .ref (G.2.2 (p3))), (4, .int ((l4 + (1 : Int32))))] rfl ?_
      exact ih σ15 l1 l2 p3 ((l4 + (1 : Int32))) hp3 h
  unfold sp_X4_remove at h
  show J x [(0, .ref (G.2.2 (o0))), (1, .int (a1))] [] σ 0 0 0
  refine j_aload_n C dX4_remove_0 0 rfl ?_
  refine j_iload_n C dX4_remove_1 1 rfl ?_
  obtain ⟨⟨r1, σ2⟩, h3, h⟩ := ob h
  try dsimp only at h
  refine j_callV C X (c_X4_positionOf n G σ o0 a1 ho0 _ _ h3) dX4_remove_2 (gV u_49 u_51 u_52 u_45 u_50) rfl hy_X4_positionOf rfl ho0 rfl (ci := 8) rfl rfl rfl (by decide) (Nat.le_of_ble_eq_true rfl) (by decide) ?_
  refine j_istore_n C dX4_remove_5 (by decide) [(2, .int (r1)), (0, .ref (G.2.2 (o0))), (1, .int (a1))] rfl ?_
  refine j_iload_n C dX4_remove_6 0 rfl ?_
  refine j_aload_n C dX4_remove_7 1 rfl ?_
  refine j_get C X dX4_remove_8 ho0 rfl rfl 1 (by decide) (fin := false) rfl rfl in_X4 (mU u_33) ?_
  refine j_icmp_ge C dX4_remove_11 23 (by decide) (fun c4 => ?_) (fun c4 => ?_)
  · have h := (if_pos c4).symm.trans h
    exact j_return C dX4_remove_23 (e_v h hg) (by decide) (by decide)
  · have h := (if_neg c4).symm.trans h
    refine j_iload_n C dX4_remove_14 0 rfl ?_
    refine j_aload_n C dX4_remove_15 1 rfl ?_
    refine j_get C X dX4_remove_16 ho0 rfl rfl 0 (by decide) (fin := true) rfl rfl in_X4 (mU u_34) ?_
    refine j_alen C X dX4_remove_19 (sh_4_0 ho0) 1 rfl rfl 8 rfl ?_
    refine j_icmp_lt C dX4_remove_20 24 (by decide) (fun c5 => ?_) (fun c5 => ?_)
    · have h := (if_pos c5).symm.trans h
      refine j_aload_n C dX4_remove_24 1 rfl ?_
      refine j_get C X dX4_remove_25 ho0 rfl rfl 0 (by decide) (fin := true) rfl rfl in_X4 (mU u_34) ?_
      refine j_iload_n C dX4_remove_28 0 rfl ?_
      obtain ⟨⟨g6, g6k⟩, h⟩ := sg h
      refine j_aald C X dX4_remove_29 (sh_4_0 ho0) 1 (n := 8) rfl rfl g6 ?_
      refine j_astore_n C dX4_remove_30 (by decide) [(3, .ref (G.2.2 ((σ2.2 (rf o0 0) (r1).toNatClampNeg)))), (2, .int (r1)), (0, .ref (G.2.2 (o0))), (1, .int (a1))] rfl ?_
      refine j_iload_n C dX4_remove_31 1 rfl ?_
      refine j_istore C dX4_remove_32 (by decide) [(4, .int (r1)), (3, .ref (G.2.2 ((σ2.2 (rf o0 0) (r1).toNatClampNeg)))), (2, .int (r1)), (0, .ref (G.2.2 (o0))), (1, .int (a1))] rfl ?_
      refine j_sub [3, 4, 2, 1, 0] [(0, .ref (G.2.2 (o0))), (1, .int (a1)), (2, .int (r1)), (3, .ref (G.2.2 ((σ2.2 (rf o0 0) (r1).toNatClampNeg)))), (4, .int (r1))] rfl ?_
      exact LP34 n σ2 a1 r1 ((σ2.2 (rf o0 0) (r1).toNatClampNeg)) r1 g6k h
    · have h := (if_neg c5).symm.trans h
      exact j_return C dX4_remove_23 (e_v h hg) (by decide) (by decide)
def lp_X4_oldest_2 (n : Nat) (o0 : Nat) (a1 : Int32) : Nat → Mem → Int32 → Int32 → Option (Option Nat × Mem)
  | 0, _, _, _ => none
  | k + 1, σ, l1, l2 => if (σ.1 o0 1) ≤ l2 then some (none, σ) else if (8 : Int32) ≤ l2 then some (none, σ) else if inR l2 8 ∧ Ok (σ.2 (rf o0 0) (l2).toNatClampNeg) 2 then if (σ.1 (σ.2 (rf o0 0) (l2).toNatClampNeg) 1) = (111 : Int32) then if (1 : Int32) = l1 then if inR l2 8 ∧ Ok (σ.2 (rf o0 0) (l2).toNatClampNeg) 2 then some (some (σ.2 (rf o0 0) (l2).toNatClampNeg), σ) else none else lp_X4_oldest_2 n o0 a1 k σ l1 ((l2 + (1 : Int32))) else if (0 : Int32) = l1 then if inR l2 8 ∧ Ok (σ.2 (rf o0 0) (l2).toNatClampNeg) 2 then some (some (σ.2 (rf o0 0) (l2).toNatClampNeg), σ) else none else lp_X4_oldest_2 n o0 a1 k σ l1 ((l2 + (1 : Int32))) else none
theorem lp_X4_oldest_2_s (n : Nat) (o0 : Nat) (a1 : Int32) (k : Nat) (σ : Mem) (l1 : Int32) (l2 : Int32) : lp_X4_oldest_2 n o0 a1 (k + 1) σ l1 l2 = (if (σ.1 o0 1) ≤ l2 then some (none, σ) else if (8 : Int32) ≤ l2 then some (none, σ) else if inR l2 8 ∧ Ok (σ.2 (rf o0 0) (l2).toNatClampNeg) 2 then if (σ.1 (σ.2 (rf o0 0) (l2).toNatClampNeg) 1) = (111 : Int32) then if (1 : Int32) = l1 then if inR l2 8 ∧ Ok (σ.2 (rf o0 0) (l2).toNatClampNeg) 2 then some (some (σ.2 (rf o0 0) (l2).toNatClampNeg), σ) else none else lp_X4_oldest_2 n o0 a1 k σ l1 ((l2 + (1 : Int32))) else if (0 : Int32) = l1 then if inR l2 8 ∧ Ok (σ.2 (rf o0 0) (l2).toNatClampNeg) 2 then some (some (σ.2 (rf o0 0) (l2).toNatClampNeg), σ) else none else lp_X4_oldest_2 n o0 a1 k σ l1 ((l2 + (1 : Int32))) else none) := rfl
def sp_X4_oldest (n : Nat) (σ : Mem) (o0 : Nat) (a1 : Int32) : Option (Option Nat × Mem) := lp_X4_oldest_2 n o0 a1 n σ a1 ((0 : Int32))
abbrev rm_X4_oldest : Room := ({ frames := 10, cells := 0, slots := 0, locals := 200 } : Room)
abbrev wu_X4_oldest : List Cond := (Cond.code yX4_oldest cX4_oldest 3 (some (.object "MineHoist$Request"))) :: wsU
theorem hy_X4_oldest : hyOk yX4_oldest 1 := by decide +kernel
set_option maxRecDepth 20000 in
set_option maxHeartbeats 4000000 in
theorem c_X4_oldest (n : Nat) (G : Gt) (σ : Mem) (o0 : Nat) (a1 : Int32) (ho0 : Ok o0 4) (r : Option Nat) (σ' : Mem) (h : sp_X4_oldest n σ o0 a1 = some (r, σ')) : MM yX4_oldest wu_X4_oldest rm_X4_oldest [.ref (G.2.2 (o0)), .int (a1)] G σ (.inl (some (rq G r))) σ' := by
  refine mm_of (cc := cX4_oldest) (maxL := 3) (ret := (some (.object "MineHoist$Request"))) (by decide +kernel) rfl (Nat.le_of_ble_eq_true rfl) (fun x C X hg => ?_)
  have C : Cx x cX4_oldest 3 RX4 (some (.object "MineHoist$Request")) [] wu_X4_oldest rm_X4_oldest G.1 (tysF G) := C
  have LP2 : ∀ (k : Nat) (σ : Mem) (l1 : Int32) (l2 : Int32), lp_X4_oldest_2 n o0 a1 k σ l1 l2 = some (r, σ') → J x [(0, .ref (G.2.2 (o0))), (1, .int (l1)), (2, .int (l2))] [] σ 2 0 0 := by
    intro k
    induction k with
    | zero => intro σ l1 l2  h; cases h
    | succ k ih =>
    intro σ l1 l2  h
    rw [lp_X4_oldest_2_s] at h
    refine j_iload_n C dX4_oldest_2 2 rfl ?_
    refine j_aload_n C dX4_oldest_3 0 rfl ?_
    refine j_get C X dX4_oldest_4 ho0 rfl rfl 1 (by decide) (fin := false) rfl rfl in_X4 (mU u_33) ?_
    refine j_icmp_ge C dX4_oldest_7 55 (by decide) (fun c1 => ?_) (fun c1 => ?_)
    · have h := (if_pos c1).symm.trans h
      refine j_null C dX4_oldest_55 ?_
      exact j_areturnN C (Or.inl ⟨_, rfl⟩) dX4_oldest_56 (e_qn h hg) (by decide) (by decide)
    · have h := (if_neg c1).symm.trans h
      refine j_iload_n C dX4_oldest_10 2 rfl ?_
      refine j_aload_n C dX4_oldest_11 0 rfl ?_
      refine j_get C X dX4_oldest_12 ho0 rfl rfl 0 (by decide) (fin := true) rfl rfl in_X4 (mU u_34) ?_
      refine j_alen C X dX4_oldest_15 (sh_4_0 ho0) 1 rfl rfl 8 rfl ?_
      refine j_icmp_ge C dX4_oldest_16 55 (by decide) (fun c2 => ?_) (fun c2 => ?_)
      · have h := (if_pos c2).symm.trans h
        refine j_null C dX4_oldest_55 ?_
        exact j_areturnN C (Or.inl ⟨_, rfl⟩) dX4_oldest_56 (e_qn h hg) (by decide) (by decide)
      · have h := (if_neg c2).symm.trans h
        refine j_aload_n C dX4_oldest_19 0 rfl ?_
        refine j_get C X dX4_oldest_20 ho0 rfl rfl 0 (by decide) (fin := true) rfl rfl in_X4 (mU u_34) ?_
        refine j_iload_n C dX4_oldest_23 2 rfl ?_
        obtain ⟨⟨g3, g3k⟩, h⟩ := sg h
        refine j_aald C X dX4_oldest_24 (sh_4_0 ho0) 1 (n := 8) rfl rfl g3 ?_
        refine j_get C X dX4_oldest_25 g3k rfl rfl 1 (by decide) (fin := false) rfl rfl in_X2 (mU u_36) ?_
        refine j_bipush C dX4_oldest_28 ((111 : Int32)) (by decide) ?_
        refine j_icmp_ne C dX4_oldest_30 37 (by decide) (fun c4 => ?_) (fun c4 => ?_)
        · have h := (if_neg c4).symm.trans h
          refine j_iconst C dX4_oldest_37 ((0 : Int32)) (by decide) ?_
          refine j_iload_n C dX4_oldest_38 1 rfl ?_
          refine j_icmp_ne C dX4_oldest_39 49 (by decide) (fun c5 => ?_) (fun c5 => ?_)
          · have h := (if_neg c5).symm.trans h
            refine j_iinc C dX4_oldest_49 2 rfl ((1 : Int32)) (by decide) (by decide) [(2, .int ((l2 + (1 : Int32)))), (0, .ref (G.2.2 (o0))), (1, .int (l1))] rfl ?_
            refine j_goto C dX4_oldest_52 2 (by decide) ?_
            refine j_sub [1, 2, 0] [(0, .ref (G.2.2 (o0))), (1, .int (l1)), (2, .int ((l2 + (1 : Int32))))] rfl ?_
            exact ih σ l1 ((l2 + (1 : Int32)))  h
          · have h := (if_pos c5).symm.trans h
            refine j_aload_n C dX4_oldest_42 0 rfl ?_
            refine j_get C X dX4_oldest_43 ho0 rfl rfl 0 (by decide) (fin := true) rfl rfl in_X4 (mU u_34) ?_
            refine j_iload_n C dX4_oldest_46 2 rfl ?_
            obtain ⟨⟨g6, g6k⟩, h⟩ := sg h
            refine j_aald C X dX4_oldest_47 (sh_4_0 ho0) 1 (n := 8) rfl rfl g6 ?_
            exact j_areturn C (Or.inl ⟨_, rfl⟩) dX4_oldest_48 (e_q h hg) (by decide) (by decide)
        · have h := (if_pos c4).symm.trans h
          refine j_iconst C dX4_oldest_33 ((1 : Int32)) (by decide) ?_
          refine j_goto C dX4_oldest_34 38 (by decide) ?_
          refine j_iload_n C dX4_oldest_38 1 rfl ?_
          refine j_icmp_ne C dX4_oldest_39 49 (by decide) (fun c7 => ?_) (fun c7 => ?_)
          · have h := (if_neg c7).symm.trans h
            refine j_iinc C dX4_oldest_49 2 rfl ((1 : Int32)) (by decide) (by decide) [(2, .int ((l2 + (1 : Int32)))), (0, .ref (G.2.2 (o0))), (1, .int (l1))] rfl ?_
            refine j_goto C dX4_oldest_52 2 (by decide) ?_
            refine j_sub [1, 2, 0] [(0, .ref (G.2.2 (o0))), (1, .int (l1)), (2, .int ((l2 + (1 : Int32))))] rfl ?_
            exact ih σ l1 ((l2 + (1 : Int32)))  h
          · have h := (if_pos c7).symm.trans h
            refine j_aload_n C dX4_oldest_42 0 rfl ?_
            refine j_get C X dX4_oldest_43 ho0 rfl rfl 0 (by decide) (fin := true) rfl rfl in_X4 (mU u_34) ?_
            refine j_iload_n C dX4_oldest_46 2 rfl ?_
            obtain ⟨⟨g8, g8k⟩, h⟩ := sg h
            refine j_aald C X dX4_oldest_47 (sh_4_0 ho0) 1 (n := 8) rfl rfl g8 ?_
            exact j_areturn C (Or.inl ⟨_, rfl⟩) dX4_oldest_48 (e_q h hg) (by decide) (by decide)
  unfold sp_X4_oldest at h
  show J x [(0, .ref (G.2.2 (o0))), (1, .int (a1))] [] σ 0 0 0
  refine j_iconst C dX4_oldest_0 ((0 : Int32)) (by decide) ?_
  refine j_istore_n C dX4_oldest_1 (by decide) [(2, .int ((0 : Int32))), (0, .ref (G.2.2 (o0))), (1, .int (a1))] rfl ?_
  refine j_sub [1, 2, 0] [(0, .ref (G.2.2 (o0))), (1, .int (a1)), (2, .int ((0 : Int32)))] rfl ?_
  exact LP2 n σ a1 ((0 : Int32))  h
