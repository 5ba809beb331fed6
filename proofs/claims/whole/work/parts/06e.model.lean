def sp_X6_hoistOre (n : Nat) (σ : Mem) (o0 : Nat) (a1 : Int32) : Option (Int32 × Mem) := ((sp_X6_isLevel n σ o0 a1).bind fun q => match q with | (r1, σ2) => if r1 = 0 then (lm (wi σ2 o0 14 (1 : Int32)) fun σ19 => if (σ19.1 o0 14) ≤ 0 then ((sp_X6_waits n σ19 o0 ((111 : Int32)) a1 ((0 : Int32))).bind fun q => match q with | (r22, σ23) => some (r22, σ23)) else some ((0 : Int32), σ19)) else if inR (60 : Int32) 73 then if (σ2.1 (rf o0 11) ((60 : Int32)).toNatClampNeg) = (8 : Int32) then (lm (wi σ2 o0 14 (2 : Int32)) fun σ13 => if (σ13.1 o0 14) ≤ 0 then ((sp_X6_waits n σ13 o0 ((111 : Int32)) a1 ((0 : Int32))).bind fun q => match q with | (r16, σ17) => some (r16, σ17)) else some ((0 : Int32), σ13)) else (lm (wi σ2 o0 14 (0 : Int32)) fun σ7 => if (σ7.1 o0 14) ≤ 0 then ((sp_X6_waits n σ7 o0 ((111 : Int32)) a1 ((0 : Int32))).bind fun q => match q with | (r10, σ11) => some (r10, σ11)) else some ((0 : Int32), σ7)) else none)
abbrev rm_X6_hoistOre : Room := ({ frames := 12, cells := 0, slots := 0, locals := 243 } : Room)
abbrev wu_X6_hoistOre : List Cond := (Cond.code yX6_hoistOre cX6_hoistOre 2 (some .int)) :: wsU
theorem hy_X6_hoistOre : hyOk yX6_hoistOre 1 := by decide +kernel
set_option maxRecDepth 20000 in
set_option maxHeartbeats 4000000 in
theorem c_X6_hoistOre (n : Nat) (G : Gt) (σ : Mem) (o0 : Nat) (a1 : Int32) (ho0 : Ok o0 6) (r : Int32) (σ' : Mem) (h : sp_X6_hoistOre n σ o0 a1 = some (r, σ')) : MM yX6_hoistOre wu_X6_hoistOre rm_X6_hoistOre [.ref (G.2.2 (o0)), .int (a1)] G σ (.inl (some (.int r))) σ' := by
  refine mm_of (cc := cX6_hoistOre) (maxL := 2) (ret := (some .int)) (by decide +kernel) rfl (Nat.le_of_ble_eq_true rfl) (fun x C X hg => ?_)
  have C : Cx x cX6_hoistOre 2 RX6 (some .int) [] wu_X6_hoistOre rm_X6_hoistOre G.1 (tysF G) := C
  unfold sp_X6_hoistOre at h
  show J x [(0, .ref (G.2.2 (o0))), (1, .int (a1))] [] σ 0 0 0
  refine j_aload_n C dX6_hoistOre_0 0 rfl ?_
  refine j_aload_n C dX6_hoistOre_1 0 rfl ?_
  refine j_iload_n C dX6_hoistOre_2 1 rfl ?_
  obtain ⟨⟨r1, σ2⟩, h3, h⟩ := ob h
  try dsimp only at h
  refine j_callV C X (c_X6_isLevel n G σ o0 a1 ho0 _ _ h3) dX6_hoistOre_3 (gV u_318 u_320 u_321 u_315 u_319) rfl hy_X6_isLevel rfl ho0 rfl (ci := 10) rfl rfl rfl (by decide) (Nat.le_of_ble_eq_true rfl) (by decide) ?_
  refine j_if_ne C dX6_hoistOre_6 13 (by decide) (fun c4 => ?_) (fun c4 => ?_)
  · have h := (if_neg c4).symm.trans h
    refine j_aload_n C dX6_hoistOre_13 0 rfl ?_
    refine j_get C X dX6_hoistOre_14 ho0 rfl rfl 11 (by decide) (fin := false) rfl rfl in_X6 (mU u_327) ?_
    refine j_bipush C dX6_hoistOre_17 ((60 : Int32)) (by decide) ?_
    obtain ⟨g5, h⟩ := sg h
    refine j_iald C X dX6_hoistOre_19 (sh_6_11 ho0) (n := 73) rfl g5 ?_
    refine j_bipush C dX6_hoistOre_20 ((8 : Int32)) (by decide) ?_
    refine j_icmp_ne C dX6_hoistOre_22 29 (by decide) (fun c6 => ?_) (fun c6 => ?_)
    · have h := (if_neg c6).symm.trans h
      refine j_iconst C dX6_hoistOre_29 ((0 : Int32)) (by decide) ?_
      obtain ⟨σ7, e8, h⟩ := lm_e h
      refine j_put C X dX6_hoistOre_30 ho0 (ty0 := tyX6) rfl rfl 14 (by decide) rfl rfl (Nat.le_of_ble_eq_true rfl) tyX6_ok nmX6 (ty := .int) rfl rfl rfl in_X6 (mU u_312) e8 ?_
      refine j_aload_n C dX6_hoistOre_33 0 rfl ?_
      refine j_get C X dX6_hoistOre_34 ho0 rfl rfl 14 (by decide) (fin := false) rfl rfl in_X6 (mU u_312) ?_
      refine j_if_le C dX6_hoistOre_37 44 (by decide) (fun c9 => ?_) (fun c9 => ?_)
      · have h := (if_pos c9).symm.trans h
        refine j_aload_n C dX6_hoistOre_44 0 rfl ?_
        refine j_bipush C dX6_hoistOre_45 ((111 : Int32)) (by decide) ?_
        refine j_iload_n C dX6_hoistOre_47 1 rfl ?_
        refine j_iconst C dX6_hoistOre_48 ((0 : Int32)) (by decide) ?_
        obtain ⟨⟨r10, σ11⟩, h12, h⟩ := ob h
        try dsimp only at h
        refine j_callV C X (c_X6_waits n G σ7 o0 ((111 : Int32)) a1 ((0 : Int32)) ho0 _ _ h12) dX6_hoistOre_49 (gV u_383 u_385 u_386 u_315 u_384) rfl hy_X6_waits rfl ho0 rfl (ci := 10) rfl rfl rfl (by decide) (Nat.le_of_ble_eq_true rfl) (by decide) ?_
        exact j_ireturn C dX6_hoistOre_52 (e_i h hg) (by decide) (by decide)
      · have h := (if_neg c9).symm.trans h
        refine j_iconst C dX6_hoistOre_40 ((0 : Int32)) (by decide) ?_
        refine j_goto C dX6_hoistOre_41 52 (by decide) ?_
        exact j_ireturn C dX6_hoistOre_52 (e_i h hg) (by decide) (by decide)
    · have h := (if_pos c6).symm.trans h
      refine j_iconst C dX6_hoistOre_25 ((2 : Int32)) (by decide) ?_
      refine j_goto C dX6_hoistOre_26 30 (by decide) ?_
      obtain ⟨σ13, e14, h⟩ := lm_e h
      refine j_put C X dX6_hoistOre_30 ho0 (ty0 := tyX6) rfl rfl 14 (by decide) rfl rfl (Nat.le_of_ble_eq_true rfl) tyX6_ok nmX6 (ty := .int) rfl rfl rfl in_X6 (mU u_312) e14 ?_
      refine j_aload_n C dX6_hoistOre_33 0 rfl ?_
      refine j_get C X dX6_hoistOre_34 ho0 rfl rfl 14 (by decide) (fin := false) rfl rfl in_X6 (mU u_312) ?_
      refine j_if_le C dX6_hoistOre_37 44 (by decide) (fun c15 => ?_) (fun c15 => ?_)
      · have h := (if_pos c15).symm.trans h
        refine j_aload_n C dX6_hoistOre_44 0 rfl ?_
        refine j_bipush C dX6_hoistOre_45 ((111 : Int32)) (by decide) ?_
        refine j_iload_n C dX6_hoistOre_47 1 rfl ?_
        refine j_iconst C dX6_hoistOre_48 ((0 : Int32)) (by decide) ?_
        obtain ⟨⟨r16, σ17⟩, h18, h⟩ := ob h
        try dsimp only at h
        refine j_callV C X (c_X6_waits n G σ13 o0 ((111 : Int32)) a1 ((0 : Int32)) ho0 _ _ h18) dX6_hoistOre_49 (gV u_383 u_385 u_386 u_315 u_384) rfl hy_X6_waits rfl ho0 rfl (ci := 10) rfl rfl rfl (by decide) (Nat.le_of_ble_eq_true rfl) (by decide) ?_
        exact j_ireturn C dX6_hoistOre_52 (e_i h hg) (by decide) (by decide)
      · have h := (if_neg c15).symm.trans h
        refine j_iconst C dX6_hoistOre_40 ((0 : Int32)) (by decide) ?_
        refine j_goto C dX6_hoistOre_41 52 (by decide) ?_
        exact j_ireturn C dX6_hoistOre_52 (e_i h hg) (by decide) (by decide)
  · have h := (if_pos c4).symm.trans h
    refine j_iconst C dX6_hoistOre_9 ((1 : Int32)) (by decide) ?_
    refine j_goto C dX6_hoistOre_10 30 (by decide) ?_
    obtain ⟨σ19, e20, h⟩ := lm_e h
    refine j_put C X dX6_hoistOre_30 ho0 (ty0 := tyX6) rfl rfl 14 (by decide) rfl rfl (Nat.le_of_ble_eq_true rfl) tyX6_ok nmX6 (ty := .int) rfl rfl rfl in_X6 (mU u_312) e20 ?_
    refine j_aload_n C dX6_hoistOre_33 0 rfl ?_
    refine j_get C X dX6_hoistOre_34 ho0 rfl rfl 14 (by decide) (fin := false) rfl rfl in_X6 (mU u_312) ?_
    refine j_if_le C dX6_hoistOre_37 44 (by decide) (fun c21 => ?_) (fun c21 => ?_)
    · have h := (if_pos c21).symm.trans h
      refine j_aload_n C dX6_hoistOre_44 0 rfl ?_
      refine j_bipush C dX6_hoistOre_45 ((111 : Int32)) (by decide) ?_
      refine j_iload_n C dX6_hoistOre_47 1 rfl ?_
      refine j_iconst C dX6_hoistOre_48 ((0 : Int32)) (by decide) ?_
      obtain ⟨⟨r22, σ23⟩, h24, h⟩ := ob h
      try dsimp only at h
      refine j_callV C X (c_X6_waits n G σ19 o0 ((111 : Int32)) a1 ((0 : Int32)) ho0 _ _ h24) dX6_hoistOre_49 (gV u_383 u_385 u_386 u_315 u_384) rfl hy_X6_waits rfl ho0 rfl (ci := 10) rfl rfl rfl (by decide) (Nat.le_of_ble_eq_true rfl) (by decide) ?_
      exact j_ireturn C dX6_hoistOre_52 (e_i h hg) (by decide) (by decide)
    · have h := (if_neg c21).symm.trans h
      refine j_iconst C dX6_hoistOre_40 ((0 : Int32)) (by decide) ?_
      refine j_goto C dX6_hoistOre_41 52 (by decide) ?_
      exact j_ireturn C dX6_hoistOre_52 (e_i h hg) (by decide) (by decide)
def lp_X6_place_2 (n : Nat) (o0 : Nat) (a1 : Int32) : Nat → Mem → Int32 → Int32 → Option (Int32 × Mem)
  | 0, _, _, _ => none
  | k + 1, σ, l1, l2 => if inR (60 : Int32) 73 then if (σ.1 (rf o0 11) ((60 : Int32)).toNatClampNeg) ≤ l2 then some ((-1 : Int32), σ) else if inR ((28 : Int32) + ((4 : Int32) * l2)) 73 then if (σ.1 (rf o0 11) (((28 : Int32) + ((4 : Int32) * l2))).toNatClampNeg) = l1 then some (l2, σ) else lp_X6_place_2 n o0 a1 k σ l1 ((l2 + (1 : Int32))) else none else none
theorem lp_X6_place_2_s (n : Nat) (o0 : Nat) (a1 : Int32) (k : Nat) (σ : Mem) (l1 : Int32) (l2 : Int32) : lp_X6_place_2 n o0 a1 (k + 1) σ l1 l2 = (if inR (60 : Int32) 73 then if (σ.1 (rf o0 11) ((60 : Int32)).toNatClampNeg) ≤ l2 then some ((-1 : Int32), σ) else if inR ((28 : Int32) + ((4 : Int32) * l2)) 73 then if (σ.1 (rf o0 11) (((28 : Int32) + ((4 : Int32) * l2))).toNatClampNeg) = l1 then some (l2, σ) else lp_X6_place_2 n o0 a1 k σ l1 ((l2 + (1 : Int32))) else none else none) := rfl
def sp_X6_place (n : Nat) (σ : Mem) (o0 : Nat) (a1 : Int32) : Option (Int32 × Mem) := lp_X6_place_2 n o0 a1 n σ a1 ((0 : Int32))
abbrev rm_X6_place : Room := ({ frames := 10, cells := 0, slots := 0, locals := 200 } : Room)
abbrev wu_X6_place : List Cond := (Cond.code yX6_place cX6_place 3 (some .int)) :: wsU
theorem hy_X6_place : hyOk yX6_place 1 := by decide +kernel
set_option maxRecDepth 20000 in
set_option maxHeartbeats 4000000 in
theorem c_X6_place (n : Nat) (G : Gt) (σ : Mem) (o0 : Nat) (a1 : Int32) (ho0 : Ok o0 6) (r : Int32) (σ' : Mem) (h : sp_X6_place n σ o0 a1 = some (r, σ')) : MM yX6_place wu_X6_place rm_X6_place [.ref (G.2.2 (o0)), .int (a1)] G σ (.inl (some (.int r))) σ' := by
  refine mm_of (cc := cX6_place) (maxL := 3) (ret := (some .int)) (by decide +kernel) rfl (Nat.le_of_ble_eq_true rfl) (fun x C X hg => ?_)
  have C : Cx x cX6_place 3 RX6 (some .int) [] wu_X6_place rm_X6_place G.1 (tysF G) := C
  have LP2 : ∀ (k : Nat) (σ : Mem) (l1 : Int32) (l2 : Int32), lp_X6_place_2 n o0 a1 k σ l1 l2 = some (r, σ') → J x [(0, .ref (G.2.2 (o0))), (1, .int (l1)), (2, .int (l2))] [] σ 2 0 0 := by
    intro k
    induction k with
    | zero => intro σ l1 l2  h; cases h
    | succ k ih =>
    intro σ l1 l2  h
    rw [lp_X6_place_2_s] at h
    refine j_iload_n C dX6_place_2 2 rfl ?_
    refine j_aload_n C dX6_place_3 0 rfl ?_
    refine j_get C X dX6_place_4 ho0 rfl rfl 11 (by decide) (fin := false) rfl rfl in_X6 (mU u_327) ?_
    refine j_bipush C dX6_place_7 ((60 : Int32)) (by decide) ?_
    obtain ⟨g1, h⟩ := sg h
    refine j_iald C X dX6_place_9 (sh_6_11 ho0) (n := 73) rfl g1 ?_
    refine j_icmp_ge C dX6_place_10 36 (by decide) (fun c2 => ?_) (fun c2 => ?_)
    · have h := (if_pos c2).symm.trans h
      refine j_iconst C dX6_place_36 ((-1 : Int32)) (by decide) ?_
      exact j_ireturn C dX6_place_37 (e_i h hg) (by decide) (by decide)
    · have h := (if_neg c2).symm.trans h
      refine j_aload_n C dX6_place_13 0 rfl ?_
      refine j_get C X dX6_place_14 ho0 rfl rfl 11 (by decide) (fin := false) rfl rfl in_X6 (mU u_327) ?_
      refine j_bipush C dX6_place_17 ((28 : Int32)) (by decide) ?_
      refine j_iconst C dX6_place_19 ((4 : Int32)) (by decide) ?_
      refine j_iload_n C dX6_place_20 2 rfl ?_
      refine j_imul C dX6_place_21 ?_
      refine j_iadd C dX6_place_22 ?_
      obtain ⟨g3, h⟩ := sg h
      refine j_iald C X dX6_place_23 (sh_6_11 ho0) (n := 73) rfl g3 ?_
      refine j_iload_n C dX6_place_24 1 rfl ?_
      refine j_icmp_ne C dX6_place_25 30 (by decide) (fun c4 => ?_) (fun c4 => ?_)
      · have h := (if_neg c4).symm.trans h
        refine j_iinc C dX6_place_30 2 rfl ((1 : Int32)) (by decide) (by decide) [(2, .int ((l2 + (1 : Int32)))), (0, .ref (G.2.2 (o0))), (1, .int (l1))] rfl ?_
        refine j_goto C dX6_place_33 2 (by decide) ?_
        refine j_sub [1, 2, 0] [(0, .ref (G.2.2 (o0))), (1, .int (l1)), (2, .int ((l2 + (1 : Int32))))] rfl ?_
        exact ih σ l1 ((l2 + (1 : Int32)))  h
      · have h := (if_pos c4).symm.trans h
        refine j_iload_n C dX6_place_28 2 rfl ?_
        exact j_ireturn C dX6_place_29 (e_i h hg) (by decide) (by decide)
  unfold sp_X6_place at h
  show J x [(0, .ref (G.2.2 (o0))), (1, .int (a1))] [] σ 0 0 0
  refine j_iconst C dX6_place_0 ((0 : Int32)) (by decide) ?_
  refine j_istore_n C dX6_place_1 (by decide) [(2, .int ((0 : Int32))), (0, .ref (G.2.2 (o0))), (1, .int (a1))] rfl ?_
  refine j_sub [1, 2, 0] [(0, .ref (G.2.2 (o0))), (1, .int (a1)), (2, .int ((0 : Int32)))] rfl ?_
  exact LP2 n σ a1 ((0 : Int32))  h
def lp_X6_goes_18 (n : Nat) (o0 : Nat) (a1 : Int32) : Nat → Mem → Int32 → Int32 → Option (Unit × Mem)
  | 0, _, _, _ => none
  | k + 1, σ, l1, l2 => if inR (60 : Int32) 73 then if ((28 : Int32) + ((4 : Int32) * (σ.1 (rf o0 11) ((60 : Int32)).toNatClampNeg))) ≤ l2 then some ((), σ) else if inR (l2 + (4 : Int32)) 73 then if inR l2 73 then (lm (wi σ (rf o0 11) (l2).toNatClampNeg (σ.1 (rf o0 11) ((l2 + (4 : Int32))).toNatClampNeg)) fun σ9 => lp_X6_goes_18 n o0 a1 k σ9 l1 ((l2 + (1 : Int32)))) else none else none else none
theorem lp_X6_goes_18_s (n : Nat) (o0 : Nat) (a1 : Int32) (k : Nat) (σ : Mem) (l1 : Int32) (l2 : Int32) : lp_X6_goes_18 n o0 a1 (k + 1) σ l1 l2 = (if inR (60 : Int32) 73 then if ((28 : Int32) + ((4 : Int32) * (σ.1 (rf o0 11) ((60 : Int32)).toNatClampNeg))) ≤ l2 then some ((), σ) else if inR (l2 + (4 : Int32)) 73 then if inR l2 73 then (lm (wi σ (rf o0 11) (l2).toNatClampNeg (σ.1 (rf o0 11) ((l2 + (4 : Int32))).toNatClampNeg)) fun σ9 => lp_X6_goes_18 n o0 a1 k σ9 l1 ((l2 + (1 : Int32)))) else none else none else none) := rfl
def sp_X6_goes (n : Nat) (σ : Mem) (o0 : Nat) (a1 : Int32) : Option (Unit × Mem) := if inR (60 : Int32) 73 then if inR (60 : Int32) 73 then (lm (wi σ (rf o0 11) ((60 : Int32)).toNatClampNeg ((σ.1 (rf o0 11) ((60 : Int32)).toNatClampNeg) - (1 : Int32))) fun σ3 => lp_X6_goes_18 n o0 a1 n σ3 a1 (((28 : Int32) + ((4 : Int32) * a1)))) else none else none
abbrev rm_X6_goes : Room := ({ frames := 10, cells := 0, slots := 0, locals := 200 } : Room)
abbrev wu_X6_goes : List Cond := (Cond.code yX6_goes cX6_goes 3 none) :: wsU
theorem hy_X6_goes : hyOk yX6_goes 1 := by decide +kernel
set_option maxRecDepth 20000 in
set_option maxHeartbeats 4000000 in
theorem c_X6_goes (n : Nat) (G : Gt) (σ : Mem) (o0 : Nat) (a1 : Int32) (ho0 : Ok o0 6) (r : Unit) (σ' : Mem) (h : sp_X6_goes n σ o0 a1 = some (r, σ')) : MM yX6_goes wu_X6_goes rm_X6_goes [.ref (G.2.2 (o0)), .int (a1)] G σ (.inl none) σ' := by
  refine mm_of (cc := cX6_goes) (maxL := 3) (ret := none) (by decide +kernel) rfl (Nat.le_of_ble_eq_true rfl) (fun x C X hg => ?_)
  have C : Cx x cX6_goes 3 RX6 none [] wu_X6_goes rm_X6_goes G.1 (tysF G) := C
  have LP18 : ∀ (k : Nat) (σ : Mem) (l1 : Int32) (l2 : Int32), lp_X6_goes_18 n o0 a1 k σ l1 l2 = some (r, σ') → J x [(0, .ref (G.2.2 (o0))), (1, .int (l1)), (2, .int (l2))] [] σ 18 0 0 := by
    intro k
    induction k with
    | zero => intro σ l1 l2  h; cases h
    | succ k ih =>
    intro σ l1 l2  h
    rw [lp_X6_goes_18_s] at h
    refine j_iload_n C dX6_goes_18 2 rfl ?_
    refine j_bipush C dX6_goes_19 ((28 : Int32)) (by decide) ?_
    refine j_iconst C dX6_goes_21 ((4 : Int32)) (by decide) ?_
    refine j_aload_n C dX6_goes_22 0 rfl ?_
    refine j_get C X dX6_goes_23 ho0 rfl rfl 11 (by decide) (fin := false) rfl rfl in_X6 (mU u_327) ?_
    refine j_bipush C dX6_goes_26 ((60 : Int32)) (by decide) ?_
    obtain ⟨g5, h⟩ := sg h
    refine j_iald C X dX6_goes_28 (sh_6_11 ho0) (n := 73) rfl g5 ?_
    refine j_imul C dX6_goes_29 ?_
    refine j_iadd C dX6_goes_30 ?_
    refine j_icmp_ge C dX6_goes_31 54 (by decide) (fun c6 => ?_) (fun c6 => ?_)
    · have h := (if_pos c6).symm.trans h
      exact j_return C dX6_goes_54 (e_v h hg) (by decide) (by decide)
    · have h := (if_neg c6).symm.trans h
      refine j_aload_n C dX6_goes_34 0 rfl ?_
      refine j_get C X dX6_goes_35 ho0 rfl rfl 11 (by decide) (fin := false) rfl rfl in_X6 (mU u_327) ?_
      refine j_iload_n C dX6_goes_38 2 rfl ?_
      refine j_aload_n C dX6_goes_39 0 rfl ?_
      refine j_get C X dX6_goes_40 ho0 rfl rfl 11 (by decide) (fin := false) rfl rfl in_X6 (mU u_327) ?_
      refine j_iload_n C dX6_goes_43 2 rfl ?_
      refine j_iconst C dX6_goes_44 ((4 : Int32)) (by decide) ?_
      refine j_iadd C dX6_goes_45 ?_
      obtain ⟨g7, h⟩ := sg h
      refine j_iald C X dX6_goes_46 (sh_6_11 ho0) (n := 73) rfl g7 ?_
      obtain ⟨g8, h⟩ := sg h
      obtain ⟨σ9, e10, h⟩ := lm_e h
      refine j_iast C X dX6_goes_47 (sh_6_11 ho0) (n := 73) (fun _ => rfl) g8 e10 ?_
      refine j_iinc C dX6_goes_48 2 rfl ((1 : Int32)) (by decide) (by decide) [(2, .int ((l2 + (1 : Int32)))), (0, .ref (G.2.2 (o0))), (1, .int (l1))] rfl ?_
      refine j_goto C dX6_goes_51 18 (by decide) ?_
      refine j_sub [1, 2, 0] [(0, .ref (G.2.2 (o0))), (1, .int (l1)), (2, .int ((l2 + (1 : Int32))))] rfl ?_
      exact ih σ9 l1 ((l2 + (1 : Int32)))  h
  unfold sp_X6_goes at h
  show J x [(0, .ref (G.2.2 (o0))), (1, .int (a1))] [] σ 0 0 0
  refine j_aload_n C dX6_goes_0 0 rfl ?_
  refine j_get C X dX6_goes_1 ho0 rfl rfl 11 (by decide) (fin := false) rfl rfl in_X6 (mU u_327) ?_
  refine j_bipush C dX6_goes_4 ((60 : Int32)) (by decide) ?_
  refine j_dup2 C dX6_goes_6 rfl rfl ?_
  obtain ⟨g1, h⟩ := sg h
  refine j_iald C X dX6_goes_7 (sh_6_11 ho0) (n := 73) rfl g1 ?_
  refine j_iconst C dX6_goes_8 ((1 : Int32)) (by decide) ?_
  refine j_isub C dX6_goes_9 ?_
  obtain ⟨g2, h⟩ := sg h
  obtain ⟨σ3, e4, h⟩ := lm_e h
  refine j_iast C X dX6_goes_10 (sh_6_11 ho0) (n := 73) (fun _ => rfl) g2 e4 ?_
  refine j_bipush C dX6_goes_11 ((28 : Int32)) (by decide) ?_
  refine j_iconst C dX6_goes_13 ((4 : Int32)) (by decide) ?_
  refine j_iload_n C dX6_goes_14 1 rfl ?_
  refine j_imul C dX6_goes_15 ?_
  refine j_iadd C dX6_goes_16 ?_
  refine j_istore_n C dX6_goes_17 (by decide) [(2, .int (((28 : Int32) + ((4 : Int32) * a1)))), (0, .ref (G.2.2 (o0))), (1, .int (a1))] rfl ?_
  refine j_sub [1, 2, 0] [(0, .ref (G.2.2 (o0))), (1, .int (a1)), (2, .int (((28 : Int32) + ((4 : Int32) * a1))))] rfl ?_
  exact LP18 n σ3 a1 (((28 : Int32) + ((4 : Int32) * a1)))  h
def sp_X6_cancel (n : Nat) (σ : Mem) (o0 : Nat) (a1 : Int32) : Option (Int32 × Mem) := ((sp_X6_place n σ o0 a1).bind fun q => match q with | (r1, σ2) => if r1 = (-1 : Int32) then (lm (wi σ2 o0 14 (1 : Int32)) fun σ12 => if (σ12.1 o0 14) ≤ 0 then ((sp_X6_goes n σ12 o0 r1).bind fun q => match q with | (_, σ16) => if inR (60 : Int32) 73 then some ((σ16.1 (rf o0 11) ((60 : Int32)).toNatClampNeg), σ16) else none) else some ((0 : Int32), σ12)) else (lm (wi σ2 o0 14 (0 : Int32)) fun σ5 => if (σ5.1 o0 14) ≤ 0 then ((sp_X6_goes n σ5 o0 r1).bind fun q => match q with | (_, σ9) => if inR (60 : Int32) 73 then some ((σ9.1 (rf o0 11) ((60 : Int32)).toNatClampNeg), σ9) else none) else some ((0 : Int32), σ5)))
abbrev rm_X6_cancel : Room := ({ frames := 11, cells := 0, slots := 0, locals := 222 } : Room)
abbrev wu_X6_cancel : List Cond := (Cond.code yX6_cancel cX6_cancel 3 (some .int)) :: wsU
theorem hy_X6_cancel : hyOk yX6_cancel 1 := by decide +kernel
set_option maxRecDepth 20000 in
set_option maxHeartbeats 4000000 in
theorem c_X6_cancel (n : Nat) (G : Gt) (σ : Mem) (o0 : Nat) (a1 : Int32) (ho0 : Ok o0 6) (r : Int32) (σ' : Mem) (h : sp_X6_cancel n σ o0 a1 = some (r, σ')) : MM yX6_cancel wu_X6_cancel rm_X6_cancel [.ref (G.2.2 (o0)), .int (a1)] G σ (.inl (some (.int r))) σ' := by
  refine mm_of (cc := cX6_cancel) (maxL := 3) (ret := (some .int)) (by decide +kernel) rfl (Nat.le_of_ble_eq_true rfl) (fun x C X hg => ?_)
  have C : Cx x cX6_cancel 3 RX6 (some .int) [] wu_X6_cancel rm_X6_cancel G.1 (tysF G) := C
  unfold sp_X6_cancel at h
  show J x [(0, .ref (G.2.2 (o0))), (1, .int (a1))] [] σ 0 0 0
  refine j_aload_n C dX6_cancel_0 0 rfl ?_
  refine j_iload_n C dX6_cancel_1 1 rfl ?_
  obtain ⟨⟨r1, σ2⟩, h3, h⟩ := ob h
  try dsimp only at h
  refine j_callV C X (c_X6_place n G σ o0 a1 ho0 _ _ h3) dX6_cancel_2 (gV u_387 u_389 u_390 u_315 u_388) rfl hy_X6_place rfl ho0 rfl (ci := 10) rfl rfl rfl (by decide) (Nat.le_of_ble_eq_true rfl) (by decide) ?_
  refine j_istore_n C dX6_cancel_5 (by decide) [(2, .int (r1)), (0, .ref (G.2.2 (o0))), (1, .int (a1))] rfl ?_
  refine j_aload_n C dX6_cancel_6 1 rfl ?_
  refine j_iload_n C dX6_cancel_7 0 rfl ?_
  refine j_iconst C dX6_cancel_8 ((-1 : Int32)) (by decide) ?_
  refine j_icmp_ne C dX6_cancel_9 16 (by decide) (fun c4 => ?_) (fun c4 => ?_)
  · have h := (if_neg c4).symm.trans h
    refine j_iconst C dX6_cancel_16 ((0 : Int32)) (by decide) ?_
    obtain ⟨σ5, e6, h⟩ := lm_e h
    refine j_put C X dX6_cancel_17 ho0 (ty0 := tyX6) rfl rfl 14 (by decide) rfl rfl (Nat.le_of_ble_eq_true rfl) tyX6_ok nmX6 (ty := .int) rfl rfl rfl in_X6 (mU u_312) e6 ?_
    refine j_aload_n C dX6_cancel_20 1 rfl ?_
    refine j_get C X dX6_cancel_21 ho0 rfl rfl 14 (by decide) (fin := false) rfl rfl in_X6 (mU u_312) ?_
    refine j_if_le C dX6_cancel_24 29 (by decide) (fun c7 => ?_) (fun c7 => ?_)
    · have h := (if_pos c7).symm.trans h
      refine j_aload_n C dX6_cancel_29 1 rfl ?_
      refine j_iload_n C dX6_cancel_30 0 rfl ?_
      obtain ⟨⟨r8, σ9⟩, h10, h⟩ := ob h
      try dsimp only at h
      refine j_callV C X (c_X6_goes n G σ5 o0 r1 ho0 _ _ h10) dX6_cancel_31 (gV u_391 u_393 u_394 u_315 u_392) rfl hy_X6_goes rfl ho0 rfl (ci := 10) rfl rfl rfl (by decide) (Nat.le_of_ble_eq_true rfl) (by decide) ?_
      refine j_aload_n C dX6_cancel_34 1 rfl ?_
      refine j_get C X dX6_cancel_35 ho0 rfl rfl 11 (by decide) (fin := false) rfl rfl in_X6 (mU u_327) ?_
      refine j_bipush C dX6_cancel_38 ((60 : Int32)) (by decide) ?_
      obtain ⟨g11, h⟩ := sg h
      refine j_iald C X dX6_cancel_40 (sh_6_11 ho0) (n := 73) rfl g11 ?_
      exact j_ireturn C dX6_cancel_41 (e_i h hg) (by decide) (by decide)
    · have h := (if_neg c7).symm.trans h
      refine j_iconst C dX6_cancel_27 ((0 : Int32)) (by decide) ?_
      exact j_ireturn C dX6_cancel_28 (e_i h hg) (by decide) (by decide)
  · have h := (if_pos c4).symm.trans h
    refine j_iconst C dX6_cancel_12 ((1 : Int32)) (by decide) ?_
    refine j_goto C dX6_cancel_13 17 (by decide) ?_
    obtain ⟨σ12, e13, h⟩ := lm_e h
    refine j_put C X dX6_cancel_17 ho0 (ty0 := tyX6) rfl rfl 14 (by decide) rfl rfl (Nat.le_of_ble_eq_true rfl) tyX6_ok nmX6 (ty := .int) rfl rfl rfl in_X6 (mU u_312) e13 ?_
    refine j_aload_n C dX6_cancel_20 1 rfl ?_
    refine j_get C X dX6_cancel_21 ho0 rfl rfl 14 (by decide) (fin := false) rfl rfl in_X6 (mU u_312) ?_
    refine j_if_le C dX6_cancel_24 29 (by decide) (fun c14 => ?_) (fun c14 => ?_)
    · have h := (if_pos c14).symm.trans h
      refine j_aload_n C dX6_cancel_29 1 rfl ?_
      refine j_iload_n C dX6_cancel_30 0 rfl ?_
      obtain ⟨⟨r15, σ16⟩, h17, h⟩ := ob h
      try dsimp only at h
      refine j_callV C X (c_X6_goes n G σ12 o0 r1 ho0 _ _ h17) dX6_cancel_31 (gV u_391 u_393 u_394 u_315 u_392) rfl hy_X6_goes rfl ho0 rfl (ci := 10) rfl rfl rfl (by decide) (Nat.le_of_ble_eq_true rfl) (by decide) ?_
      refine j_aload_n C dX6_cancel_34 1 rfl ?_
      refine j_get C X dX6_cancel_35 ho0 rfl rfl 11 (by decide) (fin := false) rfl rfl in_X6 (mU u_327) ?_
      refine j_bipush C dX6_cancel_38 ((60 : Int32)) (by decide) ?_
      obtain ⟨g18, h⟩ := sg h
      refine j_iald C X dX6_cancel_40 (sh_6_11 ho0) (n := 73) rfl g18 ?_
      exact j_ireturn C dX6_cancel_41 (e_i h hg) (by decide) (by decide)
    · have h := (if_neg c14).symm.trans h
      refine j_iconst C dX6_cancel_27 ((0 : Int32)) (by decide) ?_
      exact j_ireturn C dX6_cancel_28 (e_i h hg) (by decide) (by decide)
def sp_X6_waitingCount (n : Nat) (σ : Mem) (o0 : Nat) : Option (Int32 × Mem) := (lm (wi σ o0 14 (0 : Int32)) fun σ1 => if inR (60 : Int32) 73 then some ((σ1.1 (rf o0 11) ((60 : Int32)).toNatClampNeg), σ1) else none)
abbrev rm_X6_waitingCount : Room := ({ frames := 10, cells := 0, slots := 0, locals := 200 } : Room)
abbrev wu_X6_waitingCount : List Cond := (Cond.code yX6_waitingCount cX6_waitingCount 1 (some .int)) :: wsU
theorem hy_X6_waitingCount : hyOk yX6_waitingCount 0 := by decide +kernel
set_option maxRecDepth 20000 in
set_option maxHeartbeats 4000000 in
theorem c_X6_waitingCount (n : Nat) (G : Gt) (σ : Mem) (o0 : Nat) (ho0 : Ok o0 6) (r : Int32) (σ' : Mem) (h : sp_X6_waitingCount n σ o0 = some (r, σ')) : MM yX6_waitingCount wu_X6_waitingCount rm_X6_waitingCount [.ref (G.2.2 (o0))] G σ (.inl (some (.int r))) σ' := by
  refine mm_of (cc := cX6_waitingCount) (maxL := 1) (ret := (some .int)) (by decide +kernel) rfl (Nat.le_of_ble_eq_true rfl) (fun x C X hg => ?_)
  have C : Cx x cX6_waitingCount 1 RX6 (some .int) [] wu_X6_waitingCount rm_X6_waitingCount G.1 (tysF G) := C
  unfold sp_X6_waitingCount at h
  show J x [(0, .ref (G.2.2 (o0)))] [] σ 0 0 0
  refine j_aload_n C dX6_waitingCount_0 0 rfl ?_
  refine j_iconst C dX6_waitingCount_1 ((0 : Int32)) (by decide) ?_
  obtain ⟨σ1, e2, h⟩ := lm_e h
  refine j_put C X dX6_waitingCount_2 ho0 (ty0 := tyX6) rfl rfl 14 (by decide) rfl rfl (Nat.le_of_ble_eq_true rfl) tyX6_ok nmX6 (ty := .int) rfl rfl rfl in_X6 (mU u_312) e2 ?_
  refine j_aload_n C dX6_waitingCount_5 0 rfl ?_
  refine j_get C X dX6_waitingCount_6 ho0 rfl rfl 11 (by decide) (fin := false) rfl rfl in_X6 (mU u_327) ?_
  refine j_bipush C dX6_waitingCount_9 ((60 : Int32)) (by decide) ?_
  obtain ⟨g3, h⟩ := sg h
  refine j_iald C X dX6_waitingCount_11 (sh_6_11 ho0) (n := 73) rfl g3 ?_
  exact j_ireturn C dX6_waitingCount_12 (e_i h hg) (by decide) (by decide)
def sp_X6_waitingAt (n : Nat) (σ : Mem) (o0 : Nat) (a1 : Int32) : Option (Int32 × Mem) := if inR (60 : Int32) 73 then ((sp_X6_in n σ a1 ((0 : Int32)) (((σ.1 (rf o0 11) ((60 : Int32)).toNatClampNeg) - (1 : Int32)))).bind fun q => match q with | (r2, σ3) => if r2 = 0 then (lm (wi σ3 o0 14 (1 : Int32)) fun σ6 => if (σ6.1 o0 14) ≤ 0 then if inR ((28 : Int32) + ((4 : Int32) * a1)) 73 then some ((σ6.1 (rf o0 11) (((28 : Int32) + ((4 : Int32) * a1))).toNatClampNeg), σ6) else none else some ((0 : Int32), σ6)) else (lm (wi σ3 o0 14 (0 : Int32)) fun σ10 => if (σ10.1 o0 14) ≤ 0 then if inR ((28 : Int32) + ((4 : Int32) * a1)) 73 then some ((σ10.1 (rf o0 11) (((28 : Int32) + ((4 : Int32) * a1))).toNatClampNeg), σ10) else none else some ((0 : Int32), σ10))) else none
abbrev rm_X6_waitingAt : Room := ({ frames := 11, cells := 0, slots := 0, locals := 222 } : Room)
abbrev wu_X6_waitingAt : List Cond := (Cond.code yX6_waitingAt cX6_waitingAt 2 (some .int)) :: wsU
theorem hy_X6_waitingAt : hyOk yX6_waitingAt 1 := by decide +kernel
set_option maxRecDepth 20000 in
set_option maxHeartbeats 4000000 in
theorem c_X6_waitingAt (n : Nat) (G : Gt) (σ : Mem) (o0 : Nat) (a1 : Int32) (ho0 : Ok o0 6) (r : Int32) (σ' : Mem) (h : sp_X6_waitingAt n σ o0 a1 = some (r, σ')) : MM yX6_waitingAt wu_X6_waitingAt rm_X6_waitingAt [.ref (G.2.2 (o0)), .int (a1)] G σ (.inl (some (.int r))) σ' := by
  refine mm_of (cc := cX6_waitingAt) (maxL := 2) (ret := (some .int)) (by decide +kernel) rfl (Nat.le_of_ble_eq_true rfl) (fun x C X hg => ?_)
  have C : Cx x cX6_waitingAt 2 RX6 (some .int) [] wu_X6_waitingAt rm_X6_waitingAt G.1 (tysF G) := C
  unfold sp_X6_waitingAt at h
  show J x [(0, .ref (G.2.2 (o0))), (1, .int (a1))] [] σ 0 0 0
  refine j_aload_n C dX6_waitingAt_0 0 rfl ?_
  refine j_iload_n C dX6_waitingAt_1 1 rfl ?_
  refine j_iconst C dX6_waitingAt_2 ((0 : Int32)) (by decide) ?_
  refine j_aload_n C dX6_waitingAt_3 0 rfl ?_
  refine j_get C X dX6_waitingAt_4 ho0 rfl rfl 11 (by decide) (fin := false) rfl rfl in_X6 (mU u_327) ?_
  refine j_bipush C dX6_waitingAt_7 ((60 : Int32)) (by decide) ?_
  obtain ⟨g1, h⟩ := sg h
  refine j_iald C X dX6_waitingAt_9 (sh_6_11 ho0) (n := 73) rfl g1 ?_
  refine j_iconst C dX6_waitingAt_10 ((1 : Int32)) (by decide) ?_
  refine j_isub C dX6_waitingAt_11 ?_
  obtain ⟨⟨r2, σ3⟩, h4, h⟩ := ob h
  try dsimp only at h
  refine j_callS C X (c_X6_in n G σ a1 ((0 : Int32)) (((σ.1 (rf o0 11) ((60 : Int32)).toNatClampNeg) - (1 : Int32)))  _ _ h4) dX6_waitingAt_12 (gS u_314 u_317 u_315 u_316) rfl hy_X6_in rfl rfl (by decide) (Nat.le_of_ble_eq_true rfl) (by decide) ?_
  refine j_if_eq C dX6_waitingAt_15 22 (by decide) (fun c5 => ?_) (fun c5 => ?_)
  · have h := (if_pos c5).symm.trans h
    refine j_iconst C dX6_waitingAt_22 ((1 : Int32)) (by decide) ?_
    obtain ⟨σ6, e7, h⟩ := lm_e h
    refine j_put C X dX6_waitingAt_23 ho0 (ty0 := tyX6) rfl rfl 14 (by decide) rfl rfl (Nat.le_of_ble_eq_true rfl) tyX6_ok nmX6 (ty := .int) rfl rfl rfl in_X6 (mU u_312) e7 ?_
    refine j_aload_n C dX6_waitingAt_26 0 rfl ?_
    refine j_get C X dX6_waitingAt_27 ho0 rfl rfl 14 (by decide) (fin := false) rfl rfl in_X6 (mU u_312) ?_
    refine j_if_le C dX6_waitingAt_30 37 (by decide) (fun c8 => ?_) (fun c8 => ?_)
    · have h := (if_pos c8).symm.trans h
      refine j_aload_n C dX6_waitingAt_37 0 rfl ?_
      refine j_get C X dX6_waitingAt_38 ho0 rfl rfl 11 (by decide) (fin := false) rfl rfl in_X6 (mU u_327) ?_
      refine j_bipush C dX6_waitingAt_41 ((28 : Int32)) (by decide) ?_
      refine j_iconst C dX6_waitingAt_43 ((4 : Int32)) (by decide) ?_
      refine j_iload_n C dX6_waitingAt_44 1 rfl ?_
      refine j_imul C dX6_waitingAt_45 ?_
      refine j_iadd C dX6_waitingAt_46 ?_
      obtain ⟨g9, h⟩ := sg h
      refine j_iald C X dX6_waitingAt_47 (sh_6_11 ho0) (n := 73) rfl g9 ?_
      exact j_ireturn C dX6_waitingAt_48 (e_i h hg) (by decide) (by decide)
    · have h := (if_neg c8).symm.trans h
      refine j_iconst C dX6_waitingAt_33 ((0 : Int32)) (by decide) ?_
      refine j_goto C dX6_waitingAt_34 48 (by decide) ?_
      exact j_ireturn C dX6_waitingAt_48 (e_i h hg) (by decide) (by decide)
  · have h := (if_neg c5).symm.trans h
    refine j_iconst C dX6_waitingAt_18 ((0 : Int32)) (by decide) ?_
    refine j_goto C dX6_waitingAt_19 23 (by decide) ?_
    obtain ⟨σ10, e11, h⟩ := lm_e h
    refine j_put C X dX6_waitingAt_23 ho0 (ty0 := tyX6) rfl rfl 14 (by decide) rfl rfl (Nat.le_of_ble_eq_true rfl) tyX6_ok nmX6 (ty := .int) rfl rfl rfl in_X6 (mU u_312) e11 ?_
    refine j_aload_n C dX6_waitingAt_26 0 rfl ?_
    refine j_get C X dX6_waitingAt_27 ho0 rfl rfl 14 (by decide) (fin := false) rfl rfl in_X6 (mU u_312) ?_
    refine j_if_le C dX6_waitingAt_30 37 (by decide) (fun c12 => ?_) (fun c12 => ?_)
    · have h := (if_pos c12).symm.trans h
      refine j_aload_n C dX6_waitingAt_37 0 rfl ?_
      refine j_get C X dX6_waitingAt_38 ho0 rfl rfl 11 (by decide) (fin := false) rfl rfl in_X6 (mU u_327) ?_
      refine j_bipush C dX6_waitingAt_41 ((28 : Int32)) (by decide) ?_
      refine j_iconst C dX6_waitingAt_43 ((4 : Int32)) (by decide) ?_
      refine j_iload_n C dX6_waitingAt_44 1 rfl ?_
      refine j_imul C dX6_waitingAt_45 ?_
      refine j_iadd C dX6_waitingAt_46 ?_
      obtain ⟨g13, h⟩ := sg h
      refine j_iald C X dX6_waitingAt_47 (sh_6_11 ho0) (n := 73) rfl g13 ?_
      exact j_ireturn C dX6_waitingAt_48 (e_i h hg) (by decide) (by decide)
    · have h := (if_neg c12).symm.trans h
      refine j_iconst C dX6_waitingAt_33 ((0 : Int32)) (by decide) ?_
      refine j_goto C dX6_waitingAt_34 48 (by decide) ?_
      exact j_ireturn C dX6_waitingAt_48 (e_i h hg) (by decide) (by decide)
def sp_X6_way (n : Nat) (σ : Mem) (o0 : Nat) (a1 : Int32) (a2 : Int32) : Option (Int32 × Mem) := if inR a1 7 then if inR a2 7 then if ¬ (σ.1 o0 8) = 0 then some (((((if 0 ≤ ((σ.1 (rf o0 1) (a1).toNatClampNeg) - (σ.1 (rf o0 1) (a2).toNatClampNeg)) then ((σ.1 (rf o0 1) (a1).toNatClampNeg) - (σ.1 (rf o0 1) (a2).toNatClampNeg)) else 0 - ((σ.1 (rf o0 1) (a1).toNatClampNeg) - (σ.1 (rf o0 1) (a2).toNatClampNeg))) + (σ.1 o0 8)) - (1 : Int32)) / (σ.1 o0 8)), σ) else none else none else none
abbrev rm_X6_way : Room := ({ frames := 10, cells := 0, slots := 0, locals := 200 } : Room)
abbrev wu_X6_way : List Cond := (Cond.code yX6_way cX6_way 3 (some .int)) :: wsU
theorem hy_X6_way : hyOk yX6_way 2 := by decide +kernel
set_option maxRecDepth 20000 in
set_option maxHeartbeats 4000000 in
theorem c_X6_way (n : Nat) (G : Gt) (σ : Mem) (o0 : Nat) (a1 : Int32) (a2 : Int32) (ho0 : Ok o0 6) (r : Int32) (σ' : Mem) (h : sp_X6_way n σ o0 a1 a2 = some (r, σ')) : MM yX6_way wu_X6_way rm_X6_way [.ref (G.2.2 (o0)), .int (a1), .int (a2)] G σ (.inl (some (.int r))) σ' := by
  refine mm_of (cc := cX6_way) (maxL := 3) (ret := (some .int)) (by decide +kernel) rfl (Nat.le_of_ble_eq_true rfl) (fun x C X hg => ?_)
  have C : Cx x cX6_way 3 RX6 (some .int) [] wu_X6_way rm_X6_way G.1 (tysF G) := C
  unfold sp_X6_way at h
  show J x [(0, .ref (G.2.2 (o0))), (1, .int (a1)), (2, .int (a2))] [] σ 0 0 0
  refine j_aload_n C dX6_way_0 0 rfl ?_
  refine j_get C X dX6_way_1 ho0 rfl rfl 1 (by decide) (fin := true) rfl rfl in_X6 (mU u_322) ?_
  refine j_iload_n C dX6_way_4 1 rfl ?_
  obtain ⟨g1, h⟩ := sg h
  refine j_iald C X dX6_way_5 (sh_6_1 ho0) (n := 7) rfl g1 ?_
  refine j_aload_n C dX6_way_6 0 rfl ?_
  refine j_get C X dX6_way_7 ho0 rfl rfl 1 (by decide) (fin := true) rfl rfl in_X6 (mU u_322) ?_
  refine j_iload_n C dX6_way_10 2 rfl ?_
  obtain ⟨g2, h⟩ := sg h
  refine j_iald C X dX6_way_11 (sh_6_1 ho0) (n := 7) rfl g2 ?_
  refine j_isub C dX6_way_12 ?_
  refine j_mabs C dX6_way_13 (mU u_395) (mU u_133) (mU u_13) (mU u_134) (by decide) (Nat.le_of_ble_eq_true rfl) (Nat.le_of_ble_eq_true rfl) (Nat.le_of_ble_eq_true rfl) ?_
  refine j_aload_n C dX6_way_16 0 rfl ?_
  refine j_get C X dX6_way_17 ho0 rfl rfl 8 (by decide) (fin := false) rfl rfl in_X6 (mU u_381) ?_
  refine j_iadd C dX6_way_20 ?_
  refine j_iconst C dX6_way_21 ((1 : Int32)) (by decide) ?_
  refine j_isub C dX6_way_22 ?_
  refine j_aload_n C dX6_way_23 0 rfl ?_
  refine j_get C X dX6_way_24 ho0 rfl rfl 8 (by decide) (fin := false) rfl rfl in_X6 (mU u_381) ?_
  obtain ⟨g3, h⟩ := sg h
  refine j_idiv C dX6_way_27 g3 ?_
  exact j_ireturn C dX6_way_28 (e_i h hg) (by decide) (by decide)
def lp_X6_begins_116 (n : Nat) (o0 : Nat) (a1 : Int32) (a2 : Int32) (a3 : Int32) (a4 : Int32) (σ : Mem) (l1 : Int32) (l2 : Int32) (l3 : Int32) (l4 : Int32) (l5 : Int32) (l6 : Int32) (s0 : Int32) (t1 : Nat) : Option (Unit × Mem) := if inR (s0 + l5) 73 then if inR (s0 + l5) 73 then (lm (wi σ t1 ((s0 + l5)).toNatClampNeg ((σ.1 t1 ((s0 + l5)).toNatClampNeg) - l3)) fun σ31 => some ((), σ31)) else none else none
def lp_X6_begins_24 (n : Nat) (o0 : Nat) (a1 : Int32) (a2 : Int32) (a3 : Int32) (a4 : Int32) (σ : Mem) (l1 : Int32) (l2 : Int32) (l3 : Int32) (l4 : Int32) (l5 : Int32) (s0 : Int32) : Option (Unit × Mem) := if inR (63 : Int32) 73 then (lm (wi σ (rf o0 11) ((63 : Int32)).toNatClampNeg l1) fun σ4 => if inR (64 : Int32) 73 then (lm (wi σ4 (rf o0 11) ((64 : Int32)).toNatClampNeg l2) fun σ7 => if inR (65 : Int32) 73 then (lm (wi σ7 (rf o0 11) ((65 : Int32)).toNatClampNeg l3) fun σ10 => if inR (67 : Int32) 73 then (lm (wi σ10 (rf o0 11) ((67 : Int32)).toNatClampNeg l4) fun σ13 => if inR (72 : Int32) 73 then (lm (wi σ13 (rf o0 11) ((72 : Int32)).toNatClampNeg l4) fun σ16 => if inR (62 : Int32) 73 then ((sp_X6_way n σ16 o0 ((σ16.1 (rf o0 11) ((62 : Int32)).toNatClampNeg)) l5).bind fun q => match q with | (r19, σ20) => ((sp_X6_way n σ20 o0 l5 s0).bind fun q => match q with | (r22, σ23) => if inR (66 : Int32) 73 then (lm (wi σ23 (rf o0 11) ((66 : Int32)).toNatClampNeg (((1 : Int32) + r19) + r22)) fun σ26 => if l1 = (111 : Int32) then lp_X6_begins_116 n o0 a1 a2 a3 a4 σ26 l1 l2 l3 l4 l5 s0 ((14 : Int32)) ((rf o0 11)) else lp_X6_begins_116 n o0 a1 a2 a3 a4 σ26 l1 l2 l3 l4 l5 s0 ((7 : Int32)) ((rf o0 11))) else none)) else none) else none) else none) else none) else none) else none
def lp_X6_begins_11 (n : Nat) (o0 : Nat) (a1 : Int32) (a2 : Int32) (a3 : Int32) (a4 : Int32) (σ : Mem) (l1 : Int32) (l2 : Int32) (l3 : Int32) (l4 : Int32) (s0 : Int32) : Option (Unit × Mem) := if l1 = (100 : Int32) then lp_X6_begins_24 n o0 a1 a2 a3 a4 σ l1 l2 l3 l4 s0 l2 else lp_X6_begins_24 n o0 a1 a2 a3 a4 σ l1 l2 l3 l4 s0 ((0 : Int32))
def sp_X6_begins (n : Nat) (σ : Mem) (o0 : Nat) (a1 : Int32) (a2 : Int32) (a3 : Int32) (a4 : Int32) : Option (Unit × Mem) := if a1 = (100 : Int32) then lp_X6_begins_11 n o0 a1 a2 a3 a4 σ a1 a2 a3 a4 ((0 : Int32)) else lp_X6_begins_11 n o0 a1 a2 a3 a4 σ a1 a2 a3 a4 a2
abbrev rm_X6_begins : Room := ({ frames := 11, cells := 0, slots := 0, locals := 222 } : Room)
abbrev wu_X6_begins : List Cond := (Cond.code yX6_begins cX6_begins 7 none) :: wsU
theorem hy_X6_begins : hyOk yX6_begins 4 := by decide +kernel
set_option maxRecDepth 20000 in
set_option maxHeartbeats 4000000 in
theorem c_X6_begins (n : Nat) (G : Gt) (σ : Mem) (o0 : Nat) (a1 : Int32) (a2 : Int32) (a3 : Int32) (a4 : Int32) (ho0 : Ok o0 6) (r : Unit) (σ' : Mem) (h : sp_X6_begins n σ o0 a1 a2 a3 a4 = some (r, σ')) : MM yX6_begins wu_X6_begins rm_X6_begins [.ref (G.2.2 (o0)), .int (a1), .int (a2), .int (a3), .int (a4)] G σ (.inl none) σ' := by
  refine mm_of (cc := cX6_begins) (maxL := 7) (ret := none) (by decide +kernel) rfl (Nat.le_of_ble_eq_true rfl) (fun x C X hg => ?_)
  have C : Cx x cX6_begins 7 RX6 none [] wu_X6_begins rm_X6_begins G.1 (tysF G) := C
  have JP116 : ∀ (σ : Mem) (l1 : Int32) (l2 : Int32) (l3 : Int32) (l4 : Int32) (l5 : Int32) (l6 : Int32) (s0 : Int32) (t1 : Nat) (ht1 : Ok t1 11), lp_X6_begins_116 n o0 a1 a2 a3 a4 σ l1 l2 l3 l4 l5 l6 s0 t1 = some (r, σ') → J x [(0, .ref (G.2.2 (o0))), (1, .int (l1)), (2, .int (l2)), (3, .int (l3)), (4, .int (l4)), (5, .int (l5)), (6, .int (l6))] [.int (s0), .ref (G.2.2 (t1))] σ 116 0 0 := by
    intro σ l1 l2 l3 l4 l5 l6 s0 t1 ht1 h
    unfold lp_X6_begins_116 at h
    refine j_iload C dX6_begins_116 5 rfl ?_
    refine j_iadd C dX6_begins_118 ?_
    refine j_dup2 C dX6_begins_119 rfl rfl ?_
    obtain ⟨g29, h⟩ := sg h
    refine j_iald C X dX6_begins_120 ht1 (n := 73) rfl g29 ?_
    refine j_iload_n C dX6_begins_121 3 rfl ?_
    refine j_isub C dX6_begins_122 ?_
    obtain ⟨g30, h⟩ := sg h
    obtain ⟨σ31, e32, h⟩ := lm_e h
    refine j_iast C X dX6_begins_123 ht1 (n := 73) (fun _ => rfl) g30 e32 ?_
    exact j_return C dX6_begins_124 (e_v h hg) (by decide) (by decide)
  have JP24 : ∀ (σ : Mem) (l1 : Int32) (l2 : Int32) (l3 : Int32) (l4 : Int32) (l5 : Int32) (s0 : Int32), lp_X6_begins_24 n o0 a1 a2 a3 a4 σ l1 l2 l3 l4 l5 s0 = some (r, σ') → J x [(0, .ref (G.2.2 (o0))), (1, .int (l1)), (2, .int (l2)), (3, .int (l3)), (4, .int (l4)), (5, .int (l5))] [.int (s0)] σ 24 0 0 := by
    intro σ l1 l2 l3 l4 l5 s0  h
    unfold lp_X6_begins_24 at h
    refine j_istore C dX6_begins_24 (by decide) [(6, .int (s0)), (0, .ref (G.2.2 (o0))), (1, .int (l1)), (2, .int (l2)), (3, .int (l3)), (4, .int (l4)), (5, .int (l5))] rfl ?_
    refine j_aload_n C dX6_begins_26 1 rfl ?_
    refine j_get C X dX6_begins_27 ho0 rfl rfl 11 (by decide) (fin := false) rfl rfl in_X6 (mU u_327) ?_
    refine j_bipush C dX6_begins_30 ((63 : Int32)) (by decide) ?_
    refine j_iload_n C dX6_begins_32 2 rfl ?_
    obtain ⟨g3, h⟩ := sg h
    obtain ⟨σ4, e5, h⟩ := lm_e h
    refine j_iast C X dX6_begins_33 (sh_6_11 ho0) (n := 73) (fun _ => rfl) g3 e5 ?_
    refine j_aload_n C dX6_begins_34 1 rfl ?_
    refine j_get C X dX6_begins_35 ho0 rfl rfl 11 (by decide) (fin := false) rfl rfl in_X6 (mU u_327) ?_
    refine j_bipush C dX6_begins_38 ((64 : Int32)) (by decide) ?_
    refine j_iload_n C dX6_begins_40 3 rfl ?_
    obtain ⟨g6, h⟩ := sg h
    obtain ⟨σ7, e8, h⟩ := lm_e h
    refine j_iast C X dX6_begins_41 (sh_6_11 ho0) (n := 73) (fun _ => rfl) g6 e8 ?_
    refine j_aload_n C dX6_begins_42 1 rfl ?_
    refine j_get C X dX6_begins_43 ho0 rfl rfl 11 (by decide) (fin := false) rfl rfl in_X6 (mU u_327) ?_
    refine j_bipush C dX6_begins_46 ((65 : Int32)) (by decide) ?_
    refine j_iload_n C dX6_begins_48 4 rfl ?_
    obtain ⟨g9, h⟩ := sg h
    obtain ⟨σ10, e11, h⟩ := lm_e h
    refine j_iast C X dX6_begins_49 (sh_6_11 ho0) (n := 73) (fun _ => rfl) g9 e11 ?_
    refine j_aload_n C dX6_begins_50 1 rfl ?_
    refine j_get C X dX6_begins_51 ho0 rfl rfl 11 (by decide) (fin := false) rfl rfl in_X6 (mU u_327) ?_
    refine j_bipush C dX6_begins_54 ((67 : Int32)) (by decide) ?_
    refine j_iload C dX6_begins_56 5 rfl ?_
    obtain ⟨g12, h⟩ := sg h
    obtain ⟨σ13, e14, h⟩ := lm_e h
    refine j_iast C X dX6_begins_58 (sh_6_11 ho0) (n := 73) (fun _ => rfl) g12 e14 ?_
    refine j_aload_n C dX6_begins_59 1 rfl ?_
    refine j_get C X dX6_begins_60 ho0 rfl rfl 11 (by decide) (fin := false) rfl rfl in_X6 (mU u_327) ?_
    refine j_bipush C dX6_begins_63 ((72 : Int32)) (by decide) ?_
    refine j_iload C dX6_begins_65 5 rfl ?_
    obtain ⟨g15, h⟩ := sg h
    obtain ⟨σ16, e17, h⟩ := lm_e h
    refine j_iast C X dX6_begins_67 (sh_6_11 ho0) (n := 73) (fun _ => rfl) g15 e17 ?_
    refine j_aload_n C dX6_begins_68 1 rfl ?_
    refine j_get C X dX6_begins_69 ho0 rfl rfl 11 (by decide) (fin := false) rfl rfl in_X6 (mU u_327) ?_
    refine j_bipush C dX6_begins_72 ((66 : Int32)) (by decide) ?_
    refine j_iconst C dX6_begins_74 ((1 : Int32)) (by decide) ?_
    refine j_aload_n C dX6_begins_75 1 rfl ?_
    refine j_aload_n C dX6_begins_76 1 rfl ?_
    refine j_get C X dX6_begins_77 ho0 rfl rfl 11 (by decide) (fin := false) rfl rfl in_X6 (mU u_327) ?_
    refine j_bipush C dX6_begins_80 ((62 : Int32)) (by decide) ?_
    obtain ⟨g18, h⟩ := sg h
    refine j_iald C X dX6_begins_82 (sh_6_11 ho0) (n := 73) rfl g18 ?_
    refine j_iload C dX6_begins_83 6 rfl ?_
    obtain ⟨⟨r19, σ20⟩, h21, h⟩ := ob h
    try dsimp only at h
    refine j_callV C X (c_X6_way n G σ16 o0 ((σ16.1 (rf o0 11) ((62 : Int32)).toNatClampNeg)) l5 ho0 _ _ h21) dX6_begins_85 (gV u_396 u_398 u_399 u_315 u_397) rfl hy_X6_way rfl ho0 rfl (ci := 10) rfl rfl rfl (by decide) (Nat.le_of_ble_eq_true rfl) (by decide) ?_
    refine j_iadd C dX6_begins_88 ?_
    refine j_aload_n C dX6_begins_89 1 rfl ?_
    refine j_iload C dX6_begins_90 6 rfl ?_
    refine j_iload C dX6_begins_92 0 rfl ?_
    obtain ⟨⟨r22, σ23⟩, h24, h⟩ := ob h
    try dsimp only at h
    refine j_callV C X (c_X6_way n G σ20 o0 l5 s0 ho0 _ _ h24) dX6_begins_94 (gV u_396 u_398 u_399 u_315 u_397) rfl hy_X6_way rfl ho0 rfl (ci := 10) rfl rfl rfl (by decide) (Nat.le_of_ble_eq_true rfl) (by decide) ?_
    refine j_iadd C dX6_begins_97 ?_
    obtain ⟨g25, h⟩ := sg h
    obtain ⟨σ26, e27, h⟩ := lm_e h
    refine j_iast C X dX6_begins_98 (sh_6_11 ho0) (n := 73) (fun _ => rfl) g25 e27 ?_
    refine j_aload_n C dX6_begins_99 1 rfl ?_
    refine j_get C X dX6_begins_100 ho0 rfl rfl 11 (by decide) (fin := false) rfl rfl in_X6 (mU u_327) ?_
    refine j_iload_n C dX6_begins_103 2 rfl ?_
    refine j_bipush C dX6_begins_104 ((111 : Int32)) (by decide) ?_
    refine j_icmp_ne C dX6_begins_106 114 (by decide) (fun c28 => ?_) (fun c28 => ?_)
    · have h := (if_neg c28).symm.trans h
      refine j_bipush C dX6_begins_114 ((7 : Int32)) (by decide) ?_
      refine j_sub [1, 2, 3, 4, 5, 6, 0] [(0, .ref (G.2.2 (o0))), (1, .int (l1)), (2, .int (l2)), (3, .int (l3)), (4, .int (l4)), (5, .int (l5)), (6, .int (s0))] rfl ?_
      exact JP116 σ26 l1 l2 l3 l4 l5 s0 ((7 : Int32)) ((rf o0 11)) (sh_6_11 ho0) h
    · have h := (if_pos c28).symm.trans h
      refine j_bipush C dX6_begins_109 ((14 : Int32)) (by decide) ?_
      refine j_goto C dX6_begins_111 116 (by decide) ?_
      refine j_sub [1, 2, 3, 4, 5, 6, 0] [(0, .ref (G.2.2 (o0))), (1, .int (l1)), (2, .int (l2)), (3, .int (l3)), (4, .int (l4)), (5, .int (l5)), (6, .int (s0))] rfl ?_
      exact JP116 σ26 l1 l2 l3 l4 l5 s0 ((14 : Int32)) ((rf o0 11)) (sh_6_11 ho0) h
  have JP11 : ∀ (σ : Mem) (l1 : Int32) (l2 : Int32) (l3 : Int32) (l4 : Int32) (s0 : Int32), lp_X6_begins_11 n o0 a1 a2 a3 a4 σ l1 l2 l3 l4 s0 = some (r, σ') → J x [(0, .ref (G.2.2 (o0))), (1, .int (l1)), (2, .int (l2)), (3, .int (l3)), (4, .int (l4))] [.int (s0)] σ 11 0 0 := by
    intro σ l1 l2 l3 l4 s0  h
    unfold lp_X6_begins_11 at h
    refine j_istore C dX6_begins_11 (by decide) [(5, .int (s0)), (0, .ref (G.2.2 (o0))), (1, .int (l1)), (2, .int (l2)), (3, .int (l3)), (4, .int (l4))] rfl ?_
    refine j_iload_n C dX6_begins_13 2 rfl ?_
    refine j_bipush C dX6_begins_14 ((100 : Int32)) (by decide) ?_
    refine j_icmp_ne C dX6_begins_16 23 (by decide) (fun c2 => ?_) (fun c2 => ?_)
    · have h := (if_neg c2).symm.trans h
      refine j_iconst C dX6_begins_23 ((0 : Int32)) (by decide) ?_
      refine j_sub [1, 2, 3, 4, 5, 0] [(0, .ref (G.2.2 (o0))), (1, .int (l1)), (2, .int (l2)), (3, .int (l3)), (4, .int (l4)), (5, .int (s0))] rfl ?_
      exact JP24 σ l1 l2 l3 l4 s0 ((0 : Int32))  h
    · have h := (if_pos c2).symm.trans h
      refine j_iload_n C dX6_begins_19 3 rfl ?_
      refine j_goto C dX6_begins_20 24 (by decide) ?_
      refine j_sub [1, 2, 3, 4, 5, 0] [(0, .ref (G.2.2 (o0))), (1, .int (l1)), (2, .int (l2)), (3, .int (l3)), (4, .int (l4)), (5, .int (s0))] rfl ?_
      exact JP24 σ l1 l2 l3 l4 s0 l2  h
  unfold sp_X6_begins at h
  show J x [(0, .ref (G.2.2 (o0))), (1, .int (a1)), (2, .int (a2)), (3, .int (a3)), (4, .int (a4))] [] σ 0 0 0
  refine j_iload_n C dX6_begins_0 1 rfl ?_
  refine j_bipush C dX6_begins_1 ((100 : Int32)) (by decide) ?_
  refine j_icmp_ne C dX6_begins_3 10 (by decide) (fun c1 => ?_) (fun c1 => ?_)
  · have h := (if_neg c1).symm.trans h
    refine j_iload_n C dX6_begins_10 2 rfl ?_
    refine j_sub [0, 1, 2, 3, 4] [(0, .ref (G.2.2 (o0))), (1, .int (a1)), (2, .int (a2)), (3, .int (a3)), (4, .int (a4))] rfl ?_
    exact JP11 σ a1 a2 a3 a4 a2  h
  · have h := (if_pos c1).symm.trans h
    refine j_iconst C dX6_begins_6 ((0 : Int32)) (by decide) ?_
    refine j_goto C dX6_begins_7 11 (by decide) ?_
    refine j_sub [0, 1, 2, 3, 4] [(0, .ref (G.2.2 (o0))), (1, .int (a1)), (2, .int (a2)), (3, .int (a3)), (4, .int (a4))] rfl ?_
    exact JP11 σ a1 a2 a3 a4 ((0 : Int32))  h
def lp_X6_fliesFrom_4 (n : Nat) (o0 : Nat) : Nat → Mem → Int32 → Int32 → Option (Int32 × Mem)
  | 0, _, _, _ => none
  | k + 1, σ, l1, l2 => if (σ.1 o0 0) < l2 then if l1 ≤ 0 then if l1 ≤ 0 then some ((0 : Int32), σ) else some ((1 : Int32), σ) else if inR ((7 : Int32) + l1) 73 then ((sp_X6_begins n σ o0 ((102 : Int32)) l1 ((if (σ.1 (rf o0 11) (((7 : Int32) + l1)).toNatClampNeg) < (12 : Int32) then (σ.1 (rf o0 11) (((7 : Int32) + l1)).toNatClampNeg) else (12 : Int32))) ((-1 : Int32))).bind fun q => match q with | (_, σ6) => if l1 ≤ 0 then some ((0 : Int32), σ6) else some ((1 : Int32), σ6)) else none else ((sp_X6_alarms n σ o0 l2).bind fun q => match q with | (r9, σ10) => if r9 = 0 then lp_X6_fliesFrom_4 n o0 k σ10 l1 ((l2 + (1 : Int32))) else if inR ((7 : Int32) + l2) 73 then if (σ10.1 (rf o0 11) (((7 : Int32) + l2)).toNatClampNeg) ≤ 0 then lp_X6_fliesFrom_4 n o0 k σ10 l1 ((l2 + (1 : Int32))) else if l1 = 0 then lp_X6_fliesFrom_4 n o0 k σ10 l2 ((l2 + (1 : Int32))) else ((sp_X6_share n σ10 o0 l2).bind fun q => match q with | (r19, σ20) => ((sp_X6_share n σ20 o0 l1).bind fun q => match q with | (r22, σ23) => if r19 ≤ r22 then lp_X6_fliesFrom_4 n o0 k σ23 l1 ((l2 + (1 : Int32))) else lp_X6_fliesFrom_4 n o0 k σ23 l2 ((l2 + (1 : Int32))))) else none)
theorem lp_X6_fliesFrom_4_s (n : Nat) (o0 : Nat) (k : Nat) (σ : Mem) (l1 : Int32) (l2 : Int32) : lp_X6_fliesFrom_4 n o0 (k + 1) σ l1 l2 = (if (σ.1 o0 0) < l2 then if l1 ≤ 0 then if l1 ≤ 0 then some ((0 : Int32), σ) else some ((1 : Int32), σ) else if inR ((7 : Int32) + l1) 73 then ((sp_X6_begins n σ o0 ((102 : Int32)) l1 ((if (σ.1 (rf o0 11) (((7 : Int32) + l1)).toNatClampNeg) < (12 : Int32) then (σ.1 (rf o0 11) (((7 : Int32) + l1)).toNatClampNeg) else (12 : Int32))) ((-1 : Int32))).bind fun q => match q with | (_, σ6) => if l1 ≤ 0 then some ((0 : Int32), σ6) else some ((1 : Int32), σ6)) else none else ((sp_X6_alarms n σ o0 l2).bind fun q => match q with | (r9, σ10) => if r9 = 0 then lp_X6_fliesFrom_4 n o0 k σ10 l1 ((l2 + (1 : Int32))) else if inR ((7 : Int32) + l2) 73 then if (σ10.1 (rf o0 11) (((7 : Int32) + l2)).toNatClampNeg) ≤ 0 then lp_X6_fliesFrom_4 n o0 k σ10 l1 ((l2 + (1 : Int32))) else if l1 = 0 then lp_X6_fliesFrom_4 n o0 k σ10 l2 ((l2 + (1 : Int32))) else ((sp_X6_share n σ10 o0 l2).bind fun q => match q with | (r19, σ20) => ((sp_X6_share n σ20 o0 l1).bind fun q => match q with | (r22, σ23) => if r19 ≤ r22 then lp_X6_fliesFrom_4 n o0 k σ23 l1 ((l2 + (1 : Int32))) else lp_X6_fliesFrom_4 n o0 k σ23 l2 ((l2 + (1 : Int32))))) else none)) := rfl
def sp_X6_fliesFrom (n : Nat) (σ : Mem) (o0 : Nat) : Option (Int32 × Mem) := lp_X6_fliesFrom_4 n o0 n σ ((0 : Int32)) ((1 : Int32))
abbrev rm_X6_fliesFrom : Room := ({ frames := 12, cells := 0, slots := 0, locals := 248 } : Room)
abbrev wu_X6_fliesFrom : List Cond := (Cond.code yX6_fliesFrom cX6_fliesFrom 4 (some .boolean)) :: wsU
theorem hy_X6_fliesFrom : hyOk yX6_fliesFrom 0 := by decide +kernel
set_option maxRecDepth 20000 in
set_option maxHeartbeats 4000000 in
theorem c_X6_fliesFrom (n : Nat) (G : Gt) (σ : Mem) (o0 : Nat) (ho0 : Ok o0 6) (r : Int32) (σ' : Mem) (h : sp_X6_fliesFrom n σ o0 = some (r, σ')) : MM yX6_fliesFrom wu_X6_fliesFrom rm_X6_fliesFrom [.ref (G.2.2 (o0))] G σ (.inl (some (.int r))) σ' := by
  refine mm_of (cc := cX6_fliesFrom) (maxL := 4) (ret := (some .boolean)) (by decide +kernel) rfl (Nat.le_of_ble_eq_true rfl) (fun x C X hg => ?_)
  have C : Cx x cX6_fliesFrom 4 RX6 (some .boolean) [] wu_X6_fliesFrom rm_X6_fliesFrom G.1 (tysF G) := C
  have LP4 : ∀ (k : Nat) (σ : Mem) (l1 : Int32) (l2 : Int32), lp_X6_fliesFrom_4 n o0 k σ l1 l2 = some (r, σ') → J x [(0, .ref (G.2.2 (o0))), (1, .int (l1)), (2, .int (l2))] [] σ 4 0 0 := by
    intro k
    induction k with
    | zero => intro σ l1 l2  h; cases h
    | succ k ih =>
    intro σ l1 l2  h
    rw [lp_X6_fliesFrom_4_s] at h
    refine j_iload_n C dX6_fliesFrom_4 2 rfl ?_
    refine j_aload_n C dX6_fliesFrom_5 0 rfl ?_
    refine j_get C X dX6_fliesFrom_6 ho0 rfl rfl 0 (by decide) (fin := false) rfl rfl in_X6 (mU u_313) ?_
    refine j_icmp_gt C dX6_fliesFrom_9 71 (by decide) (fun c1 => ?_) (fun c1 => ?_)
    · have h := (if_pos c1).symm.trans h
      refine j_iload_n C dX6_fliesFrom_71 1 rfl ?_
      refine j_if_le C dX6_fliesFrom_72 97 (by decide) (fun c2 => ?_) (fun c2 => ?_)
      · have h := (if_pos c2).symm.trans h
        refine j_iload_n C dX6_fliesFrom_97 1 rfl ?_
        refine j_if_le C dX6_fliesFrom_98 105 (by decide) (fun c3 => ?_) (fun c3 => ?_)
        · have h := (if_pos c3).symm.trans h
          refine j_iconst C dX6_fliesFrom_105 ((0 : Int32)) (by decide) ?_
          exact j_zreturn C (by decide) dX6_fliesFrom_106 (e_i h hg) (by decide) (by decide)
        · have h := (if_neg c3).symm.trans h
          refine j_iconst C dX6_fliesFrom_101 ((1 : Int32)) (by decide) ?_
          refine j_goto C dX6_fliesFrom_102 106 (by decide) ?_
          exact j_zreturn C (by decide) dX6_fliesFrom_106 (e_i h hg) (by decide) (by decide)
      · have h := (if_neg c2).symm.trans h
        refine j_aload_n C dX6_fliesFrom_75 0 rfl ?_
        refine j_bipush C dX6_fliesFrom_76 ((102 : Int32)) (by decide) ?_
        refine j_iload_n C dX6_fliesFrom_78 1 rfl ?_
        refine j_bipush C dX6_fliesFrom_79 ((12 : Int32)) (by decide) ?_
        refine j_aload_n C dX6_fliesFrom_81 0 rfl ?_
        refine j_get C X dX6_fliesFrom_82 ho0 rfl rfl 11 (by decide) (fin := false) rfl rfl in_X6 (mU u_327) ?_
        refine j_bipush C dX6_fliesFrom_85 ((7 : Int32)) (by decide) ?_
        refine j_iload_n C dX6_fliesFrom_87 1 rfl ?_
        refine j_iadd C dX6_fliesFrom_88 ?_
        obtain ⟨g4, h⟩ := sg h
        refine j_iald C X dX6_fliesFrom_89 (sh_6_11 ho0) (n := 73) rfl g4 ?_
        refine j_mmin C dX6_fliesFrom_90 (mU u_359) (mU u_12) (mU u_13) (mU u_14) (by decide) (Nat.le_of_ble_eq_true rfl) (Nat.le_of_ble_eq_true rfl) (Nat.le_of_ble_eq_true rfl) ?_
        refine j_iconst C dX6_fliesFrom_93 ((-1 : Int32)) (by decide) ?_
        obtain ⟨⟨r5, σ6⟩, h7, h⟩ := ob h
        try dsimp only at h
        refine j_callV C X (c_X6_begins n G σ o0 ((102 : Int32)) l1 ((if (σ.1 (rf o0 11) (((7 : Int32) + l1)).toNatClampNeg) < (12 : Int32) then (σ.1 (rf o0 11) (((7 : Int32) + l1)).toNatClampNeg) else (12 : Int32))) ((-1 : Int32)) ho0 _ _ h7) dX6_fliesFrom_94 (gV u_400 u_402 u_403 u_315 u_401) rfl hy_X6_begins rfl ho0 rfl (ci := 10) rfl rfl rfl (by decide) (Nat.le_of_ble_eq_true rfl) (by decide) ?_
        refine j_iload_n C dX6_fliesFrom_97 1 rfl ?_
        refine j_if_le C dX6_fliesFrom_98 105 (by decide) (fun c8 => ?_) (fun c8 => ?_)
        · have h := (if_pos c8).symm.trans h
          refine j_iconst C dX6_fliesFrom_105 ((0 : Int32)) (by decide) ?_
          exact j_zreturn C (by decide) dX6_fliesFrom_106 (e_i h hg) (by decide) (by decide)
        · have h := (if_neg c8).symm.trans h
          refine j_iconst C dX6_fliesFrom_101 ((1 : Int32)) (by decide) ?_
          refine j_goto C dX6_fliesFrom_102 106 (by decide) ?_
          exact j_zreturn C (by decide) dX6_fliesFrom_106 (e_i h hg) (by decide) (by decide)
    · have h := (if_neg c1).symm.trans h
      refine j_aload_n C dX6_fliesFrom_12 0 rfl ?_
      refine j_iload_n C dX6_fliesFrom_13 2 rfl ?_
      obtain ⟨⟨r9, σ10⟩, h11, h⟩ := ob h
      try dsimp only at h
      refine j_callV C X (c_X6_alarms n G σ o0 l2 ho0 _ _ h11) dX6_fliesFrom_14 (gV u_354 u_356 u_357 u_315 u_355) rfl hy_X6_alarms rfl ho0 rfl (ci := 10) rfl rfl rfl (by decide) (Nat.le_of_ble_eq_true rfl) (by decide) ?_
      refine j_if_eq C dX6_fliesFrom_17 36 (by decide) (fun c12 => ?_) (fun c12 => ?_)
      · have h := (if_pos c12).symm.trans h
        refine j_iconst C dX6_fliesFrom_36 ((0 : Int32)) (by decide) ?_
        refine j_istore_n C dX6_fliesFrom_37 (by decide) [(3, .int ((0 : Int32))), (0, .ref (G.2.2 (o0))), (1, .int (l1)), (2, .int (l2))] rfl ?_
        refine j_iload_n C dX6_fliesFrom_38 0 rfl ?_
        refine j_if_eq C dX6_fliesFrom_39 63 (by decide) (fun c13 => ?_) (fun c13 => absurd c13 (by decide))
        refine j_iload_n C dX6_fliesFrom_63 2 rfl ?_
        refine j_istore_n C dX6_fliesFrom_64 (by decide) [(1, .int (l1)), (3, .int ((0 : Int32))), (0, .ref (G.2.2 (o0))), (2, .int (l2))] rfl ?_
        refine j_iinc C dX6_fliesFrom_65 3 rfl ((1 : Int32)) (by decide) (by decide) [(2, .int ((l2 + (1 : Int32)))), (1, .int (l1)), (3, .int ((0 : Int32))), (0, .ref (G.2.2 (o0)))] rfl ?_
        refine j_goto C dX6_fliesFrom_68 4 (by decide) ?_
        refine j_sub [3, 1, 0] [(0, .ref (G.2.2 (o0))), (1, .int (l1)), (2, .int ((l2 + (1 : Int32))))] rfl ?_
        exact ih σ10 l1 ((l2 + (1 : Int32)))  h
      · have h := (if_neg c12).symm.trans h
        refine j_aload_n C dX6_fliesFrom_20 0 rfl ?_
        refine j_get C X dX6_fliesFrom_21 ho0 rfl rfl 11 (by decide) (fin := false) rfl rfl in_X6 (mU u_327) ?_
        refine j_bipush C dX6_fliesFrom_24 ((7 : Int32)) (by decide) ?_
        refine j_iload_n C dX6_fliesFrom_26 2 rfl ?_
        refine j_iadd C dX6_fliesFrom_27 ?_
        obtain ⟨g14, h⟩ := sg h
        refine j_iald C X dX6_fliesFrom_28 (sh_6_11 ho0) (n := 73) rfl g14 ?_
        refine j_if_le C dX6_fliesFrom_29 36 (by decide) (fun c15 => ?_) (fun c15 => ?_)
        · have h := (if_pos c15).symm.trans h
          refine j_iconst C dX6_fliesFrom_36 ((0 : Int32)) (by decide) ?_
          refine j_istore_n C dX6_fliesFrom_37 (by decide) [(3, .int ((0 : Int32))), (0, .ref (G.2.2 (o0))), (1, .int (l1)), (2, .int (l2))] rfl ?_
          refine j_iload_n C dX6_fliesFrom_38 0 rfl ?_
          refine j_if_eq C dX6_fliesFrom_39 63 (by decide) (fun c16 => ?_) (fun c16 => absurd c16 (by decide))
          refine j_iload_n C dX6_fliesFrom_63 2 rfl ?_
          refine j_istore_n C dX6_fliesFrom_64 (by decide) [(1, .int (l1)), (3, .int ((0 : Int32))), (0, .ref (G.2.2 (o0))), (2, .int (l2))] rfl ?_
          refine j_iinc C dX6_fliesFrom_65 3 rfl ((1 : Int32)) (by decide) (by decide) [(2, .int ((l2 + (1 : Int32)))), (1, .int (l1)), (3, .int ((0 : Int32))), (0, .ref (G.2.2 (o0)))] rfl ?_
          refine j_goto C dX6_fliesFrom_68 4 (by decide) ?_
          refine j_sub [3, 1, 0] [(0, .ref (G.2.2 (o0))), (1, .int (l1)), (2, .int ((l2 + (1 : Int32))))] rfl ?_
          exact ih σ10 l1 ((l2 + (1 : Int32)))  h
        · have h := (if_neg c15).symm.trans h
          refine j_iconst C dX6_fliesFrom_32 ((1 : Int32)) (by decide) ?_
          refine j_goto C dX6_fliesFrom_33 37 (by decide) ?_
          refine j_istore_n C dX6_fliesFrom_37 (by decide) [(3, .int ((1 : Int32))), (0, .ref (G.2.2 (o0))), (1, .int (l1)), (2, .int (l2))] rfl ?_
          refine j_iload_n C dX6_fliesFrom_38 0 rfl ?_
          refine j_if_eq C dX6_fliesFrom_39 63 (by decide) (fun c17 => absurd c17 (by decide)) (fun c17 => ?_)
          refine j_iload_n C dX6_fliesFrom_42 2 rfl ?_
          refine j_if_eq C dX6_fliesFrom_43 59 (by decide) (fun c18 => ?_) (fun c18 => ?_)
          · have h := (if_pos c18).symm.trans h
            refine j_iload_n C dX6_fliesFrom_59 3 rfl ?_
            refine j_goto C dX6_fliesFrom_60 64 (by decide) ?_
            refine j_istore_n C dX6_fliesFrom_64 (by decide) [(1, .int (l2)), (3, .int ((1 : Int32))), (0, .ref (G.2.2 (o0))), (2, .int (l2))] rfl ?_
            refine j_iinc C dX6_fliesFrom_65 3 rfl ((1 : Int32)) (by decide) (by decide) [(2, .int ((l2 + (1 : Int32)))), (1, .int (l2)), (3, .int ((1 : Int32))), (0, .ref (G.2.2 (o0)))] rfl ?_
            refine j_goto C dX6_fliesFrom_68 4 (by decide) ?_
            refine j_sub [3, 1, 0] [(0, .ref (G.2.2 (o0))), (1, .int (l2)), (2, .int ((l2 + (1 : Int32))))] rfl ?_
            exact ih σ10 l2 ((l2 + (1 : Int32)))  h
          · have h := (if_neg c18).symm.trans h
            refine j_aload_n C dX6_fliesFrom_46 1 rfl ?_
            refine j_iload_n C dX6_fliesFrom_47 3 rfl ?_
            obtain ⟨⟨r19, σ20⟩, h21, h⟩ := ob h
            try dsimp only at h
            refine j_callV C X (c_X6_share n G σ10 o0 l2 ho0 _ _ h21) dX6_fliesFrom_48 (gV u_350 u_352 u_353 u_315 u_351) rfl hy_X6_share rfl ho0 rfl (ci := 10) rfl rfl rfl (by decide) (Nat.le_of_ble_eq_true rfl) (by decide) ?_
            refine j_aload_n C dX6_fliesFrom_51 1 rfl ?_
            refine j_iload_n C dX6_fliesFrom_52 2 rfl ?_
            obtain ⟨⟨r22, σ23⟩, h24, h⟩ := ob h
            try dsimp only at h
            refine j_callV C X (c_X6_share n G σ20 o0 l1 ho0 _ _ h24) dX6_fliesFrom_53 (gV u_350 u_352 u_353 u_315 u_351) rfl hy_X6_share rfl ho0 rfl (ci := 10) rfl rfl rfl (by decide) (Nat.le_of_ble_eq_true rfl) (by decide) ?_
            refine j_icmp_le C dX6_fliesFrom_56 63 (by decide) (fun c25 => ?_) (fun c25 => ?_)
            · have h := (if_pos c25).symm.trans h
              refine j_iload_n C dX6_fliesFrom_63 2 rfl ?_
              refine j_istore_n C dX6_fliesFrom_64 (by decide) [(1, .int (l1)), (3, .int ((1 : Int32))), (0, .ref (G.2.2 (o0))), (2, .int (l2))] rfl ?_
              refine j_iinc C dX6_fliesFrom_65 3 rfl ((1 : Int32)) (by decide) (by decide) [(2, .int ((l2 + (1 : Int32)))), (1, .int (l1)), (3, .int ((1 : Int32))), (0, .ref (G.2.2 (o0)))] rfl ?_
              refine j_goto C dX6_fliesFrom_68 4 (by decide) ?_
              refine j_sub [3, 1, 0] [(0, .ref (G.2.2 (o0))), (1, .int (l1)), (2, .int ((l2 + (1 : Int32))))] rfl ?_
              exact ih σ23 l1 ((l2 + (1 : Int32)))  h
            · have h := (if_neg c25).symm.trans h
              refine j_iload_n C dX6_fliesFrom_59 3 rfl ?_
              refine j_goto C dX6_fliesFrom_60 64 (by decide) ?_
              refine j_istore_n C dX6_fliesFrom_64 (by decide) [(1, .int (l2)), (3, .int ((1 : Int32))), (0, .ref (G.2.2 (o0))), (2, .int (l2))] rfl ?_
              refine j_iinc C dX6_fliesFrom_65 3 rfl ((1 : Int32)) (by decide) (by decide) [(2, .int ((l2 + (1 : Int32)))), (1, .int (l2)), (3, .int ((1 : Int32))), (0, .ref (G.2.2 (o0)))] rfl ?_
              refine j_goto C dX6_fliesFrom_68 4 (by decide) ?_
              refine j_sub [3, 1, 0] [(0, .ref (G.2.2 (o0))), (1, .int (l2)), (2, .int ((l2 + (1 : Int32))))] rfl ?_
              exact ih σ23 l2 ((l2 + (1 : Int32)))  h
  unfold sp_X6_fliesFrom at h
  show J x [(0, .ref (G.2.2 (o0)))] [] σ 0 0 0
  refine j_iconst C dX6_fliesFrom_0 ((0 : Int32)) (by decide) ?_
  refine j_istore_n C dX6_fliesFrom_1 (by decide) [(1, .int ((0 : Int32))), (0, .ref (G.2.2 (o0)))] rfl ?_
  refine j_iconst C dX6_fliesFrom_2 ((1 : Int32)) (by decide) ?_
  refine j_istore_n C dX6_fliesFrom_3 (by decide) [(2, .int ((1 : Int32))), (1, .int ((0 : Int32))), (0, .ref (G.2.2 (o0)))] rfl ?_
  refine j_sub [2, 1, 0] [(0, .ref (G.2.2 (o0))), (1, .int ((0 : Int32))), (2, .int ((1 : Int32)))] rfl ?_
  exact LP4 n σ ((0 : Int32)) ((1 : Int32))  h
def sp_X6_loadOf (n : Nat) (σ : Mem) (o0 : Nat) (a1 : Int32) (a2 : Int32) (a3 : Int32) : Option (Int32 × Mem) := if a1 = (111 : Int32) then if inR ((14 : Int32) + a2) 73 then some ((if (σ.1 (rf o0 11) (((14 : Int32) + a2)).toNatClampNeg) < (20 : Int32) then (σ.1 (rf o0 11) (((14 : Int32) + a2)).toNatClampNeg) else (20 : Int32)), σ) else none else if a1 = (117 : Int32) then if inR ((7 : Int32) + a2) 73 then some ((if (σ.1 (rf o0 11) (((7 : Int32) + a2)).toNatClampNeg) < a3 then (σ.1 (rf o0 11) (((7 : Int32) + a2)).toNatClampNeg) else a3), σ) else none else ((sp_X6_alarms n σ o0 a2).bind fun q => match q with | (r3, σ4) => if r3 = 0 then ((sp_X6_closed n σ4 o0 a2).bind fun q => match q with | (r7, σ8) => if r7 = 0 then if inR (7 : Int32) 73 then some ((if (σ8.1 (rf o0 11) ((7 : Int32)).toNatClampNeg) < a3 then (σ8.1 (rf o0 11) ((7 : Int32)).toNatClampNeg) else a3), σ8) else none else some ((0 : Int32), σ8)) else some ((0 : Int32), σ4))
abbrev rm_X6_loadOf : Room := ({ frames := 12, cells := 0, slots := 0, locals := 242 } : Room)
abbrev wu_X6_loadOf : List Cond := (Cond.code yX6_loadOf cX6_loadOf 4 (some .int)) :: wsU
theorem hy_X6_loadOf : hyOk yX6_loadOf 3 := by decide +kernel
set_option maxRecDepth 20000 in
set_option maxHeartbeats 4000000 in
theorem c_X6_loadOf (n : Nat) (G : Gt) (σ : Mem) (o0 : Nat) (a1 : Int32) (a2 : Int32) (a3 : Int32) (ho0 : Ok o0 6) (r : Int32) (σ' : Mem) (h : sp_X6_loadOf n σ o0 a1 a2 a3 = some (r, σ')) : MM yX6_loadOf wu_X6_loadOf rm_X6_loadOf [.ref (G.2.2 (o0)), .int (a1), .int (a2), .int (a3)] G σ (.inl (some (.int r))) σ' := by
  refine mm_of (cc := cX6_loadOf) (maxL := 4) (ret := (some .int)) (by decide +kernel) rfl (Nat.le_of_ble_eq_true rfl) (fun x C X hg => ?_)
  have C : Cx x cX6_loadOf 4 RX6 (some .int) [] wu_X6_loadOf rm_X6_loadOf G.1 (tysF G) := C
  unfold sp_X6_loadOf at h
  show J x [(0, .ref (G.2.2 (o0))), (1, .int (a1)), (2, .int (a2)), (3, .int (a3))] [] σ 0 0 0
  refine j_iload_n C dX6_loadOf_0 1 rfl ?_
  refine j_bipush C dX6_loadOf_1 ((111 : Int32)) (by decide) ?_
  refine j_icmp_ne C dX6_loadOf_3 21 (by decide) (fun c1 => ?_) (fun c1 => ?_)
  · have h := (if_neg c1).symm.trans h
    refine j_iload_n C dX6_loadOf_21 1 rfl ?_
    refine j_bipush C dX6_loadOf_22 ((117 : Int32)) (by decide) ?_
    refine j_icmp_ne C dX6_loadOf_24 41 (by decide) (fun c2 => ?_) (fun c2 => ?_)
    · have h := (if_neg c2).symm.trans h
      refine j_aload_n C dX6_loadOf_41 0 rfl ?_
      refine j_iload_n C dX6_loadOf_42 2 rfl ?_
      obtain ⟨⟨r3, σ4⟩, h5, h⟩ := ob h
      try dsimp only at h
      refine j_callV C X (c_X6_alarms n G σ o0 a2 ho0 _ _ h5) dX6_loadOf_43 (gV u_354 u_356 u_357 u_315 u_355) rfl hy_X6_alarms rfl ho0 rfl (ci := 10) rfl rfl rfl (by decide) (Nat.le_of_ble_eq_true rfl) (by decide) ?_
      refine j_if_ne C dX6_loadOf_46 57 (by decide) (fun c6 => ?_) (fun c6 => ?_)
      · have h := (if_neg c6).symm.trans h
        refine j_iconst C dX6_loadOf_57 ((0 : Int32)) (by decide) ?_
        refine j_goto C dX6_loadOf_58 72 (by decide) ?_
        exact j_ireturn C dX6_loadOf_72 (e_i h hg) (by decide) (by decide)
      · have h := (if_pos c6).symm.trans h
        refine j_aload_n C dX6_loadOf_49 0 rfl ?_
        refine j_iload_n C dX6_loadOf_50 2 rfl ?_
        obtain ⟨⟨r7, σ8⟩, h9, h⟩ := ob h
        try dsimp only at h
        refine j_callV C X (c_X6_closed n G σ4 o0 a2 ho0 _ _ h9) dX6_loadOf_51 (gV u_377 u_379 u_380 u_315 u_378) rfl hy_X6_closed rfl ho0 rfl (ci := 10) rfl rfl rfl (by decide) (Nat.le_of_ble_eq_true rfl) (by decide) ?_
        refine j_if_eq C dX6_loadOf_54 61 (by decide) (fun c10 => ?_) (fun c10 => ?_)
        · have h := (if_pos c10).symm.trans h
          refine j_iload_n C dX6_loadOf_61 3 rfl ?_
          refine j_aload_n C dX6_loadOf_62 0 rfl ?_
          refine j_get C X dX6_loadOf_63 ho0 rfl rfl 11 (by decide) (fin := false) rfl rfl in_X6 (mU u_327) ?_
          refine j_bipush C dX6_loadOf_66 ((7 : Int32)) (by decide) ?_
          obtain ⟨g11, h⟩ := sg h
          refine j_iald C X dX6_loadOf_68 (sh_6_11 ho0) (n := 73) rfl g11 ?_
          refine j_mmin C dX6_loadOf_69 (mU u_359) (mU u_12) (mU u_13) (mU u_14) (by decide) (Nat.le_of_ble_eq_true rfl) (Nat.le_of_ble_eq_true rfl) (Nat.le_of_ble_eq_true rfl) ?_
          exact j_ireturn C dX6_loadOf_72 (e_i h hg) (by decide) (by decide)
        · have h := (if_neg c10).symm.trans h
          refine j_iconst C dX6_loadOf_57 ((0 : Int32)) (by decide) ?_
          refine j_goto C dX6_loadOf_58 72 (by decide) ?_
          exact j_ireturn C dX6_loadOf_72 (e_i h hg) (by decide) (by decide)
    · have h := (if_pos c2).symm.trans h
      refine j_iload_n C dX6_loadOf_27 3 rfl ?_
      refine j_aload_n C dX6_loadOf_28 0 rfl ?_
      refine j_get C X dX6_loadOf_29 ho0 rfl rfl 11 (by decide) (fin := false) rfl rfl in_X6 (mU u_327) ?_
      refine j_bipush C dX6_loadOf_32 ((7 : Int32)) (by decide) ?_
      refine j_iload_n C dX6_loadOf_34 2 rfl ?_
      refine j_iadd C dX6_loadOf_35 ?_
      obtain ⟨g12, h⟩ := sg h
      refine j_iald C X dX6_loadOf_36 (sh_6_11 ho0) (n := 73) rfl g12 ?_
      refine j_mmin C dX6_loadOf_37 (mU u_359) (mU u_12) (mU u_13) (mU u_14) (by decide) (Nat.le_of_ble_eq_true rfl) (Nat.le_of_ble_eq_true rfl) (Nat.le_of_ble_eq_true rfl) ?_
      exact j_ireturn C dX6_loadOf_40 (e_i h hg) (by decide) (by decide)
  · have h := (if_pos c1).symm.trans h
    refine j_bipush C dX6_loadOf_6 ((20 : Int32)) (by decide) ?_
    refine j_aload_n C dX6_loadOf_8 0 rfl ?_
    refine j_get C X dX6_loadOf_9 ho0 rfl rfl 11 (by decide) (fin := false) rfl rfl in_X6 (mU u_327) ?_
    refine j_bipush C dX6_loadOf_12 ((14 : Int32)) (by decide) ?_
    refine j_iload_n C dX6_loadOf_14 2 rfl ?_
    refine j_iadd C dX6_loadOf_15 ?_
    obtain ⟨g13, h⟩ := sg h
    refine j_iald C X dX6_loadOf_16 (sh_6_11 ho0) (n := 73) rfl g13 ?_
    refine j_mmin C dX6_loadOf_17 (mU u_359) (mU u_12) (mU u_13) (mU u_14) (by decide) (Nat.le_of_ble_eq_true rfl) (Nat.le_of_ble_eq_true rfl) (Nat.le_of_ble_eq_true rfl) ?_
    exact j_ireturn C dX6_loadOf_20 (e_i h hg) (by decide) (by decide)
def lp_X6_takes_2 (n : Nat) (o0 : Nat) (a1 : Int32) : Nat → Mem → Int32 → Int32 → Option (Int32 × Mem)
  | 0, _, _, _ => none
  | k + 1, σ, l1, l2 => if inR (60 : Int32) 73 then if (σ.1 (rf o0 11) ((60 : Int32)).toNatClampNeg) ≤ l2 then some ((0 : Int32), σ) else if inR (((28 : Int32) + ((4 : Int32) * l2)) + (1 : Int32)) 73 then if (σ.1 (rf o0 11) ((((28 : Int32) + ((4 : Int32) * l2)) + (1 : Int32))).toNatClampNeg) = (111 : Int32) then if (1 : Int32) = l1 then if inR ((28 : Int32) + ((4 : Int32) * l2)) 73 then if inR (((28 : Int32) + ((4 : Int32) * l2)) + (1 : Int32)) 73 then if inR (((28 : Int32) + ((4 : Int32) * l2)) + (2 : Int32)) 73 then if inR (((28 : Int32) + ((4 : Int32) * l2)) + (3 : Int32)) 73 then ((sp_X6_loadOf n σ o0 ((((σ.1 (rf o0 11) ((((28 : Int32) + ((4 : Int32) * l2)) + (1 : Int32))).toNatClampNeg)).toUInt32 % 65536).toInt32) ((σ.1 (rf o0 11) ((((28 : Int32) + ((4 : Int32) * l2)) + (2 : Int32))).toNatClampNeg)) ((σ.1 (rf o0 11) ((((28 : Int32) + ((4 : Int32) * l2)) + (3 : Int32))).toNatClampNeg))).bind fun q => match q with | (r29, σ30) => ((sp_X6_goes n σ30 o0 l2).bind fun q => match q with | (_, σ33) => if r29 ≤ 0 then if inR (69 : Int32) 73 then if inR (69 : Int32) 73 then (lm (wi σ33 (rf o0 11) ((69 : Int32)).toNatClampNeg ((σ33.1 (rf o0 11) ((69 : Int32)).toNatClampNeg) + (1 : Int32))) fun σ38 => lp_X6_takes_2 n o0 a1 k σ38 l1 l2) else none else none else ((sp_X6_begins n σ33 o0 ((((σ.1 (rf o0 11) ((((28 : Int32) + ((4 : Int32) * l2)) + (1 : Int32))).toNatClampNeg)).toUInt32 % 65536).toInt32) ((σ.1 (rf o0 11) ((((28 : Int32) + ((4 : Int32) * l2)) + (2 : Int32))).toNatClampNeg)) r29 ((σ.1 (rf o0 11) (((28 : Int32) + ((4 : Int32) * l2))).toNatClampNeg))).bind fun q => match q with | (_, σ41) => some ((1 : Int32), σ41)))) else none else none else none else none else lp_X6_takes_2 n o0 a1 k σ l1 ((l2 + (1 : Int32))) else if (0 : Int32) = l1 then if inR ((28 : Int32) + ((4 : Int32) * l2)) 73 then if inR (((28 : Int32) + ((4 : Int32) * l2)) + (1 : Int32)) 73 then if inR (((28 : Int32) + ((4 : Int32) * l2)) + (2 : Int32)) 73 then if inR (((28 : Int32) + ((4 : Int32) * l2)) + (3 : Int32)) 73 then ((sp_X6_loadOf n σ o0 ((((σ.1 (rf o0 11) ((((28 : Int32) + ((4 : Int32) * l2)) + (1 : Int32))).toNatClampNeg)).toUInt32 % 65536).toInt32) ((σ.1 (rf o0 11) ((((28 : Int32) + ((4 : Int32) * l2)) + (2 : Int32))).toNatClampNeg)) ((σ.1 (rf o0 11) ((((28 : Int32) + ((4 : Int32) * l2)) + (3 : Int32))).toNatClampNeg))).bind fun q => match q with | (r10, σ11) => ((sp_X6_goes n σ11 o0 l2).bind fun q => match q with | (_, σ14) => if r10 ≤ 0 then if inR (69 : Int32) 73 then if inR (69 : Int32) 73 then (lm (wi σ14 (rf o0 11) ((69 : Int32)).toNatClampNeg ((σ14.1 (rf o0 11) ((69 : Int32)).toNatClampNeg) + (1 : Int32))) fun σ19 => lp_X6_takes_2 n o0 a1 k σ19 l1 l2) else none else none else ((sp_X6_begins n σ14 o0 ((((σ.1 (rf o0 11) ((((28 : Int32) + ((4 : Int32) * l2)) + (1 : Int32))).toNatClampNeg)).toUInt32 % 65536).toInt32) ((σ.1 (rf o0 11) ((((28 : Int32) + ((4 : Int32) * l2)) + (2 : Int32))).toNatClampNeg)) r10 ((σ.1 (rf o0 11) (((28 : Int32) + ((4 : Int32) * l2))).toNatClampNeg))).bind fun q => match q with | (_, σ22) => some ((1 : Int32), σ22)))) else none else none else none else none else lp_X6_takes_2 n o0 a1 k σ l1 ((l2 + (1 : Int32))) else none else none
theorem lp_X6_takes_2_s (n : Nat) (o0 : Nat) (a1 : Int32) (k : Nat) (σ : Mem) (l1 : Int32) (l2 : Int32) : lp_X6_takes_2 n o0 a1 (k + 1) σ l1 l2 = (if inR (60 : Int32) 73 then if (σ.1 (rf o0 11) ((60 : Int32)).toNatClampNeg) ≤ l2 then some ((0 : Int32), σ) else if inR (((28 : Int32) + ((4 : Int32) * l2)) + (1 : Int32)) 73 then if (σ.1 (rf o0 11) ((((28 : Int32) + ((4 : Int32) * l2)) + (1 : Int32))).toNatClampNeg) = (111 : Int32) then if (1 : Int32) = l1 then if inR ((28 : Int32) + ((4 : Int32) * l2)) 73 then if inR (((28 : Int32) + ((4 : Int32) * l2)) + (1 : Int32)) 73 then if inR (((28 : Int32) + ((4 : Int32) * l2)) + (2 : Int32)) 73 then if inR (((28 : Int32) + ((4 : Int32) * l2)) + (3 : Int32)) 73 then ((sp_X6_loadOf n σ o0 ((((σ.1 (rf o0 11) ((((28 : Int32) + ((4 : Int32) * l2)) + (1 : Int32))).toNatClampNeg)).toUInt32 % 65536).toInt32) ((σ.1 (rf o0 11) ((((28 : Int32) + ((4 : Int32) * l2)) + (2 : Int32))).toNatClampNeg)) ((σ.1 (rf o0 11) ((((28 : Int32) + ((4 : Int32) * l2)) + (3 : Int32))).toNatClampNeg))).bind fun q => match q with | (r29, σ30) => ((sp_X6_goes n σ30 o0 l2).bind fun q => match q with | (_, σ33) => if r29 ≤ 0 then if inR (69 : Int32) 73 then if inR (69 : Int32) 73 then (lm (wi σ33 (rf o0 11) ((69 : Int32)).toNatClampNeg ((σ33.1 (rf o0 11) ((69 : Int32)).toNatClampNeg) + (1 : Int32))) fun σ38 => lp_X6_takes_2 n o0 a1 k σ38 l1 l2) else none else none else ((sp_X6_begins n σ33 o0 ((((σ.1 (rf o0 11) ((((28 : Int32) + ((4 : Int32) * l2)) + (1 : Int32))).toNatClampNeg)).toUInt32 % 65536).toInt32) ((σ.1 (rf o0 11) ((((28 : Int32) + ((4 : Int32) * l2)) + (2 : Int32))).toNatClampNeg)) r29 ((σ.1 (rf o0 11) (((28 : Int32) + ((4 : Int32) * l2))).toNatClampNeg))).bind fun q => match q with | (_, σ41) => some ((1 : Int32), σ41)))) else none else none else none else none else lp_X6_takes_2 n o0 a1 k σ l1 ((l2 + (1 : Int32))) else if (0 : Int32) = l1 then if inR ((28 : Int32) + ((4 : Int32) * l2)) 73 then if inR (((28 : Int32) + ((4 : Int32) * l2)) + (1 : Int32)) 73 then if inR (((28 : Int32) + ((4 : Int32) * l2)) + (2 : Int32)) 73 then if inR (((28 : Int32) + ((4 : Int32) * l2)) + (3 : Int32)) 73 then ((sp_X6_loadOf n σ o0 ((((σ.1 (rf o0 11) ((((28 : Int32) + ((4 : Int32) * l2)) + (1 : Int32))).toNatClampNeg)).toUInt32 % 65536).toInt32) ((σ.1 (rf o0 11) ((((28 : Int32) + ((4 : Int32) * l2)) + (2 : Int32))).toNatClampNeg)) ((σ.1 (rf o0 11) ((((28 : Int32) + ((4 : Int32) * l2)) + (3 : Int32))).toNatClampNeg))).bind fun q => match q with | (r10, σ11) => ((sp_X6_goes n σ11 o0 l2).bind fun q => match q with | (_, σ14) => if r10 ≤ 0 then if inR (69 : Int32) 73 then if inR (69 : Int32) 73 then (lm (wi σ14 (rf o0 11) ((69 : Int32)).toNatClampNeg ((σ14.1 (rf o0 11) ((69 : Int32)).toNatClampNeg) + (1 : Int32))) fun σ19 => lp_X6_takes_2 n o0 a1 k σ19 l1 l2) else none else none else ((sp_X6_begins n σ14 o0 ((((σ.1 (rf o0 11) ((((28 : Int32) + ((4 : Int32) * l2)) + (1 : Int32))).toNatClampNeg)).toUInt32 % 65536).toInt32) ((σ.1 (rf o0 11) ((((28 : Int32) + ((4 : Int32) * l2)) + (2 : Int32))).toNatClampNeg)) r10 ((σ.1 (rf o0 11) (((28 : Int32) + ((4 : Int32) * l2))).toNatClampNeg))).bind fun q => match q with | (_, σ22) => some ((1 : Int32), σ22)))) else none else none else none else none else lp_X6_takes_2 n o0 a1 k σ l1 ((l2 + (1 : Int32))) else none else none) := rfl
def sp_X6_takes (n : Nat) (σ : Mem) (o0 : Nat) (a1 : Int32) : Option (Int32 × Mem) := lp_X6_takes_2 n o0 a1 n σ a1 ((0 : Int32))
abbrev rm_X6_takes : Room := ({ frames := 13, cells := 0, slots := 0, locals := 265 } : Room)
abbrev wu_X6_takes : List Cond := (Cond.code yX6_takes cX6_takes 8 (some .boolean)) :: wsU
theorem hy_X6_takes : hyOk yX6_takes 1 := by decide +kernel
set_option maxRecDepth 20000 in
set_option maxHeartbeats 4000000 in
theorem c_X6_takes (n : Nat) (G : Gt) (σ : Mem) (o0 : Nat) (a1 : Int32) (ho0 : Ok o0 6) (r : Int32) (σ' : Mem) (h : sp_X6_takes n σ o0 a1 = some (r, σ')) : MM yX6_takes wu_X6_takes rm_X6_takes [.ref (G.2.2 (o0)), .int (a1)] G σ (.inl (some (.int r))) σ' := by
  refine mm_of (cc := cX6_takes) (maxL := 8) (ret := (some .boolean)) (by decide +kernel) rfl (Nat.le_of_ble_eq_true rfl) (fun x C X hg => ?_)
  have C : Cx x cX6_takes 8 RX6 (some .boolean) [] wu_X6_takes rm_X6_takes G.1 (tysF G) := C
  have LP2 : ∀ (k : Nat) (σ : Mem) (l1 : Int32) (l2 : Int32), lp_X6_takes_2 n o0 a1 k σ l1 l2 = some (r, σ') → J x [(0, .ref (G.2.2 (o0))), (1, .int (l1)), (2, .int (l2))] [] σ 2 0 0 := by
    intro k
    induction k with
    | zero => intro σ l1 l2  h; cases h
    | succ k ih =>
    intro σ l1 l2  h
    rw [lp_X6_takes_2_s] at h
    refine j_iload_n C dX6_takes_2 2 rfl ?_
    refine j_aload_n C dX6_takes_3 0 rfl ?_
    refine j_get C X dX6_takes_4 ho0 rfl rfl 11 (by decide) (fin := false) rfl rfl in_X6 (mU u_327) ?_
    refine j_bipush C dX6_takes_7 ((60 : Int32)) (by decide) ?_
    obtain ⟨g1, h⟩ := sg h
    refine j_iald C X dX6_takes_9 (sh_6_11 ho0) (n := 73) rfl g1 ?_
    refine j_icmp_ge C dX6_takes_10 133 (by decide) (fun c2 => ?_) (fun c2 => ?_)
    · have h := (if_pos c2).symm.trans h
      refine j_iconst C dX6_takes_133 ((0 : Int32)) (by decide) ?_
      exact j_zreturn C (by decide) dX6_takes_134 (e_i h hg) (by decide) (by decide)
    · have h := (if_neg c2).symm.trans h
      refine j_bipush C dX6_takes_13 ((28 : Int32)) (by decide) ?_
      refine j_iconst C dX6_takes_15 ((4 : Int32)) (by decide) ?_
      refine j_iload_n C dX6_takes_16 2 rfl ?_
      refine j_imul C dX6_takes_17 ?_
      refine j_iadd C dX6_takes_18 ?_
      refine j_istore_n C dX6_takes_19 (by decide) [(3, .int (((28 : Int32) + ((4 : Int32) * l2)))), (0, .ref (G.2.2 (o0))), (1, .int (l1)), (2, .int (l2))] rfl ?_
      refine j_aload_n C dX6_takes_20 1 rfl ?_
      refine j_get C X dX6_takes_21 ho0 rfl rfl 11 (by decide) (fin := false) rfl rfl in_X6 (mU u_327) ?_
      refine j_iload_n C dX6_takes_24 0 rfl ?_
      refine j_iconst C dX6_takes_25 ((1 : Int32)) (by decide) ?_
      refine j_iadd C dX6_takes_26 ?_
      obtain ⟨g3, h⟩ := sg h
      refine j_iald C X dX6_takes_27 (sh_6_11 ho0) (n := 73) rfl g3 ?_
      refine j_bipush C dX6_takes_28 ((111 : Int32)) (by decide) ?_
      refine j_icmp_ne C dX6_takes_30 37 (by decide) (fun c4 => ?_) (fun c4 => ?_)
      · have h := (if_neg c4).symm.trans h
        refine j_iconst C dX6_takes_37 ((0 : Int32)) (by decide) ?_
        refine j_iload_n C dX6_takes_38 2 rfl ?_
        refine j_icmp_eq C dX6_takes_39 48 (by decide) (fun c5 => ?_) (fun c5 => ?_)
        · have h := (if_pos c5).symm.trans h
          refine j_aload_n C dX6_takes_48 1 rfl ?_
          refine j_get C X dX6_takes_49 ho0 rfl rfl 11 (by decide) (fin := false) rfl rfl in_X6 (mU u_327) ?_
          refine j_iload_n C dX6_takes_52 0 rfl ?_
          obtain ⟨g6, h⟩ := sg h
          refine j_iald C X dX6_takes_53 (sh_6_11 ho0) (n := 73) rfl g6 ?_
          refine j_istore C dX6_takes_54 (by decide) [(4, .int ((σ.1 (rf o0 11) (((28 : Int32) + ((4 : Int32) * l2))).toNatClampNeg))), (3, .int (((28 : Int32) + ((4 : Int32) * l2)))), (0, .ref (G.2.2 (o0))), (1, .int (l1)), (2, .int (l2))] rfl ?_
          refine j_aload_n C dX6_takes_56 2 rfl ?_
          refine j_get C X dX6_takes_57 ho0 rfl rfl 11 (by decide) (fin := false) rfl rfl in_X6 (mU u_327) ?_
          refine j_iload_n C dX6_takes_60 1 rfl ?_
          refine j_iconst C dX6_takes_61 ((1 : Int32)) (by decide) ?_
          refine j_iadd C dX6_takes_62 ?_
          obtain ⟨g7, h⟩ := sg h
          refine j_iald C X dX6_takes_63 (sh_6_11 ho0) (n := 73) rfl g7 ?_
          refine j_i2c C dX6_takes_64 ?_
          refine j_istore C dX6_takes_65 (by decide) [(5, .int ((((σ.1 (rf o0 11) ((((28 : Int32) + ((4 : Int32) * l2)) + (1 : Int32))).toNatClampNeg)).toUInt32 % 65536).toInt32)), (4, .int ((σ.1 (rf o0 11) (((28 : Int32) + ((4 : Int32) * l2))).toNatClampNeg))), (3, .int (((28 : Int32) + ((4 : Int32) * l2)))), (0, .ref (G.2.2 (o0))), (1, .int (l1)), (2, .int (l2))] rfl ?_
          refine j_aload_n C dX6_takes_67 3 rfl ?_
          refine j_get C X dX6_takes_68 ho0 rfl rfl 11 (by decide) (fin := false) rfl rfl in_X6 (mU u_327) ?_
          refine j_iload_n C dX6_takes_71 2 rfl ?_
          refine j_iconst C dX6_takes_72 ((2 : Int32)) (by decide) ?_
          refine j_iadd C dX6_takes_73 ?_
          obtain ⟨g8, h⟩ := sg h
          refine j_iald C X dX6_takes_74 (sh_6_11 ho0) (n := 73) rfl g8 ?_
          refine j_istore C dX6_takes_75 (by decide) [(6, .int ((σ.1 (rf o0 11) ((((28 : Int32) + ((4 : Int32) * l2)) + (2 : Int32))).toNatClampNeg))), (5, .int ((((σ.1 (rf o0 11) ((((28 : Int32) + ((4 : Int32) * l2)) + (1 : Int32))).toNatClampNeg)).toUInt32 % 65536).toInt32)), (4, .int ((σ.1 (rf o0 11) (((28 : Int32) + ((4 : Int32) * l2))).toNatClampNeg))), (3, .int (((28 : Int32) + ((4 : Int32) * l2)))), (0, .ref (G.2.2 (o0))), (1, .int (l1)), (2, .int (l2))] rfl ?_
          refine j_aload_n C dX6_takes_77 4 rfl ?_
          refine j_iload C dX6_takes_78 1 rfl ?_
          refine j_iload C dX6_takes_80 0 rfl ?_
          refine j_aload_n C dX6_takes_82 4 rfl ?_
          refine j_get C X dX6_takes_83 ho0 rfl rfl 11 (by decide) (fin := false) rfl rfl in_X6 (mU u_327) ?_
          refine j_iload_n C dX6_takes_86 3 rfl ?_
          refine j_iconst C dX6_takes_87 ((3 : Int32)) (by decide) ?_
          refine j_iadd C dX6_takes_88 ?_
          obtain ⟨g9, h⟩ := sg h
          refine j_iald C X dX6_takes_89 (sh_6_11 ho0) (n := 73) rfl g9 ?_
          obtain ⟨⟨r10, σ11⟩, h12, h⟩ := ob h
          try dsimp only at h
          refine j_callV C X (c_X6_loadOf n G σ o0 ((((σ.1 (rf o0 11) ((((28 : Int32) + ((4 : Int32) * l2)) + (1 : Int32))).toNatClampNeg)).toUInt32 % 65536).toInt32) ((σ.1 (rf o0 11) ((((28 : Int32) + ((4 : Int32) * l2)) + (2 : Int32))).toNatClampNeg)) ((σ.1 (rf o0 11) ((((28 : Int32) + ((4 : Int32) * l2)) + (3 : Int32))).toNatClampNeg)) ho0 _ _ h12) dX6_takes_90 (gV u_404 u_406 u_407 u_315 u_405) rfl hy_X6_loadOf rfl ho0 rfl (ci := 10) rfl rfl rfl (by decide) (Nat.le_of_ble_eq_true rfl) (by decide) ?_
          refine j_istore C dX6_takes_93 (by decide) [(7, .int (r10)), (6, .int ((σ.1 (rf o0 11) ((((28 : Int32) + ((4 : Int32) * l2)) + (2 : Int32))).toNatClampNeg))), (5, .int ((((σ.1 (rf o0 11) ((((28 : Int32) + ((4 : Int32) * l2)) + (1 : Int32))).toNatClampNeg)).toUInt32 % 65536).toInt32)), (4, .int ((σ.1 (rf o0 11) (((28 : Int32) + ((4 : Int32) * l2))).toNatClampNeg))), (3, .int (((28 : Int32) + ((4 : Int32) * l2)))), (0, .ref (G.2.2 (o0))), (1, .int (l1)), (2, .int (l2))] rfl ?_
          refine j_aload_n C dX6_takes_95 5 rfl ?_
          refine j_iload_n C dX6_takes_96 7 rfl ?_
          obtain ⟨⟨r13, σ14⟩, h15, h⟩ := ob h
          try dsimp only at h
          refine j_callV C X (c_X6_goes n G σ11 o0 l2 ho0 _ _ h15) dX6_takes_97 (gV u_391 u_393 u_394 u_315 u_392) rfl hy_X6_goes rfl ho0 rfl (ci := 10) rfl rfl rfl (by decide) (Nat.le_of_ble_eq_true rfl) (by decide) ?_
          refine j_iload C dX6_takes_100 0 rfl ?_
          refine j_if_le C dX6_takes_102 119 (by decide) (fun c16 => ?_) (fun c16 => ?_)
          · have h := (if_pos c16).symm.trans h
            refine j_aload_n C dX6_takes_119 5 rfl ?_
            refine j_get C X dX6_takes_120 ho0 rfl rfl 11 (by decide) (fin := false) rfl rfl in_X6 (mU u_327) ?_
            refine j_bipush C dX6_takes_123 ((69 : Int32)) (by decide) ?_
            refine j_dup2 C dX6_takes_125 rfl rfl ?_
            obtain ⟨g17, h⟩ := sg h
            refine j_iald C X dX6_takes_126 (sh_6_11 ho0) (n := 73) rfl g17 ?_
            refine j_iconst C dX6_takes_127 ((1 : Int32)) (by decide) ?_
            refine j_iadd C dX6_takes_128 ?_
            obtain ⟨g18, h⟩ := sg h
            obtain ⟨σ19, e20, h⟩ := lm_e h
            refine j_iast C X dX6_takes_129 (sh_6_11 ho0) (n := 73) (fun _ => rfl) g18 e20 ?_
            refine j_goto C dX6_takes_130 2 (by decide) ?_
            refine j_sub [5, 6, 7] [(0, .ref (G.2.2 (o0))), (1, .int (l1)), (2, .int (l2))] rfl ?_
            exact ih σ19 l1 l2  h
          · have h := (if_neg c16).symm.trans h
            refine j_aload_n C dX6_takes_105 5 rfl ?_
            refine j_iload C dX6_takes_106 2 rfl ?_
            refine j_iload C dX6_takes_108 1 rfl ?_
            refine j_iload C dX6_takes_110 0 rfl ?_
            refine j_iload C dX6_takes_112 3 rfl ?_
            obtain ⟨⟨r21, σ22⟩, h23, h⟩ := ob h
            try dsimp only at h
            refine j_callV C X (c_X6_begins n G σ14 o0 ((((σ.1 (rf o0 11) ((((28 : Int32) + ((4 : Int32) * l2)) + (1 : Int32))).toNatClampNeg)).toUInt32 % 65536).toInt32) ((σ.1 (rf o0 11) ((((28 : Int32) + ((4 : Int32) * l2)) + (2 : Int32))).toNatClampNeg)) r10 ((σ.1 (rf o0 11) (((28 : Int32) + ((4 : Int32) * l2))).toNatClampNeg)) ho0 _ _ h23) dX6_takes_114 (gV u_400 u_402 u_403 u_315 u_401) rfl hy_X6_begins rfl ho0 rfl (ci := 10) rfl rfl rfl (by decide) (Nat.le_of_ble_eq_true rfl) (by decide) ?_
            refine j_iconst C dX6_takes_117 ((1 : Int32)) (by decide) ?_
            exact j_zreturn C (by decide) dX6_takes_118 (e_i h hg) (by decide) (by decide)
        · have h := (if_neg c5).symm.trans h
          refine j_iinc C dX6_takes_42 3 rfl ((1 : Int32)) (by decide) (by decide) [(2, .int ((l2 + (1 : Int32)))), (3, .int (((28 : Int32) + ((4 : Int32) * l2)))), (0, .ref (G.2.2 (o0))), (1, .int (l1))] rfl ?_
          refine j_goto C dX6_takes_45 2 (by decide) ?_
          refine j_sub [2, 3, 0] [(0, .ref (G.2.2 (o0))), (1, .int (l1)), (2, .int ((l2 + (1 : Int32))))] rfl ?_
          exact ih σ l1 ((l2 + (1 : Int32)))  h
      · have h := (if_pos c4).symm.trans h
        refine j_iconst C dX6_takes_33 ((1 : Int32)) (by decide) ?_
        refine j_goto C dX6_takes_34 38 (by decide) ?_
        refine j_iload_n C dX6_takes_38 2 rfl ?_
        refine j_icmp_eq C dX6_takes_39 48 (by decide) (fun c24 => ?_) (fun c24 => ?_)
        · have h := (if_pos c24).symm.trans h
          refine j_aload_n C dX6_takes_48 1 rfl ?_
          refine j_get C X dX6_takes_49 ho0 rfl rfl 11 (by decide) (fin := false) rfl rfl in_X6 (mU u_327) ?_
          refine j_iload_n C dX6_takes_52 0 rfl ?_
          obtain ⟨g25, h⟩ := sg h
          refine j_iald C X dX6_takes_53 (sh_6_11 ho0) (n := 73) rfl g25 ?_
          refine j_istore C dX6_takes_54 (by decide) [(4, .int ((σ.1 (rf o0 11) (((28 : Int32) + ((4 : Int32) * l2))).toNatClampNeg))), (3, .int (((28 : Int32) + ((4 : Int32) * l2)))), (0, .ref (G.2.2 (o0))), (1, .int (l1)), (2, .int (l2))] rfl ?_
          refine j_aload_n C dX6_takes_56 2 rfl ?_
          refine j_get C X dX6_takes_57 ho0 rfl rfl 11 (by decide) (fin := false) rfl rfl in_X6 (mU u_327) ?_
          refine j_iload_n C dX6_takes_60 1 rfl ?_
          refine j_iconst C dX6_takes_61 ((1 : Int32)) (by decide) ?_
          refine j_iadd C dX6_takes_62 ?_
          obtain ⟨g26, h⟩ := sg h
          refine j_iald C X dX6_takes_63 (sh_6_11 ho0) (n := 73) rfl g26 ?_
          refine j_i2c C dX6_takes_64 ?_
          refine j_istore C dX6_takes_65 (by decide) [(5, .int ((((σ.1 (rf o0 11) ((((28 : Int32) + ((4 : Int32) * l2)) + (1 : Int32))).toNatClampNeg)).toUInt32 % 65536).toInt32)), (4, .int ((σ.1 (rf o0 11) (((28 : Int32) + ((4 : Int32) * l2))).toNatClampNeg))), (3, .int (((28 : Int32) + ((4 : Int32) * l2)))), (0, .ref (G.2.2 (o0))), (1, .int (l1)), (2, .int (l2))] rfl ?_
          refine j_aload_n C dX6_takes_67 3 rfl ?_
          refine j_get C X dX6_takes_68 ho0 rfl rfl 11 (by decide) (fin := false) rfl rfl in_X6 (mU u_327) ?_
          refine j_iload_n C dX6_takes_71 2 rfl ?_
          refine j_iconst C dX6_takes_72 ((2 : Int32)) (by decide) ?_
          refine j_iadd C dX6_takes_73 ?_
          obtain ⟨g27, h⟩ := sg h
          refine j_iald C X dX6_takes_74 (sh_6_11 ho0) (n := 73) rfl g27 ?_
          refine j_istore C dX6_takes_75 (by decide) [(6, .int ((σ.1 (rf o0 11) ((((28 : Int32) + ((4 : Int32) * l2)) + (2 : Int32))).toNatClampNeg))), (5, .int ((((σ.1 (rf o0 11) ((((28 : Int32) + ((4 : Int32) * l2)) + (1 : Int32))).toNatClampNeg)).toUInt32 % 65536).toInt32)), (4, .int ((σ.1 (rf o0 11) (((28 : Int32) + ((4 : Int32) * l2))).toNatClampNeg))), (3, .int (((28 : Int32) + ((4 : Int32) * l2)))), (0, .ref (G.2.2 (o0))), (1, .int (l1)), (2, .int (l2))] rfl ?_
          refine j_aload_n C dX6_takes_77 4 rfl ?_
          refine j_iload C dX6_takes_78 1 rfl ?_
          refine j_iload C dX6_takes_80 0 rfl ?_
          refine j_aload_n C dX6_takes_82 4 rfl ?_
          refine j_get C X dX6_takes_83 ho0 rfl rfl 11 (by decide) (fin := false) rfl rfl in_X6 (mU u_327) ?_
          refine j_iload_n C dX6_takes_86 3 rfl ?_
          refine j_iconst C dX6_takes_87 ((3 : Int32)) (by decide) ?_
          refine j_iadd C dX6_takes_88 ?_
          obtain ⟨g28, h⟩ := sg h
          refine j_iald C X dX6_takes_89 (sh_6_11 ho0) (n := 73) rfl g28 ?_
          obtain ⟨⟨r29, σ30⟩, h31, h⟩ := ob h
          try dsimp only at h
          refine j_callV C X (c_X6_loadOf n G σ o0 ((((σ.1 (rf o0 11) ((((28 : Int32) + ((4 : Int32) * l2)) + (1 : Int32))).toNatClampNeg)).toUInt32 % 65536).toInt32) ((σ.1 (rf o0 11) ((((28 : Int32) + ((4 : Int32) * l2)) + (2 : Int32))).toNatClampNeg)) ((σ.1 (rf o0 11) ((((28 : Int32) + ((4 : Int32) * l2)) + (3 : Int32))).toNatClampNeg)) ho0 _ _ h31) dX6_takes_90 (gV u_404 u_406 u_407 u_315 u_405) rfl hy_X6_loadOf rfl ho0 rfl (ci := 10) rfl rfl rfl (by decide) (Nat.le_of_ble_eq_true rfl) (by decide) ?_
          refine j_istore C dX6_takes_93 (by decide) [(7, .int (r29)), (6, .int ((σ.1 (rf o0 11) ((((28 : Int32) + ((4 : Int32) * l2)) + (2 : Int32))).toNatClampNeg))), (5, .int ((((σ.1 (rf o0 11) ((((28 : Int32) + ((4 : Int32) * l2)) + (1 : Int32))).toNatClampNeg)).toUInt32 % 65536).toInt32)), (4, .int ((σ.1 (rf o0 11) (((28 : Int32) + ((4 : Int32) * l2))).toNatClampNeg))), (3, .int (((28 : Int32) + ((4 : Int32) * l2)))), (0, .ref (G.2.2 (o0))), (1, .int (l1)), (2, .int (l2))] rfl ?_
          refine j_aload_n C dX6_takes_95 5 rfl ?_
          refine j_iload_n C dX6_takes_96 7 rfl ?_
          obtain ⟨⟨r32, σ33⟩, h34, h⟩ := ob h
          try dsimp only at h
          refine j_callV C X (c_X6_goes n G σ30 o0 l2 ho0 _ _ h34) dX6_takes_97 (gV u_391 u_393 u_394 u_315 u_392) rfl hy_X6_goes rfl ho0 rfl (ci := 10) rfl rfl rfl (by decide) (Nat.le_of_ble_eq_true rfl) (by decide) ?_
          refine j_iload C dX6_takes_100 0 rfl ?_
          refine j_if_le C dX6_takes_102 119 (by decide) (fun c35 => ?_) (fun c35 => ?_)
          · have h := (if_pos c35).symm.trans h
            refine j_aload_n C dX6_takes_119 5 rfl ?_
            refine j_get C X dX6_takes_120 ho0 rfl rfl 11 (by decide) (fin := false) rfl rfl in_X6 (mU u_327) ?_
            refine j_bipush C dX6_takes_123 ((69 : Int32)) (by decide) ?_
            refine j_dup2 C dX6_takes_125 rfl rfl ?_
            obtain ⟨g36, h⟩ := sg h
            refine j_iald C X dX6_takes_126 (sh_6_11 ho0) (n := 73) rfl g36 ?_
            refine j_iconst C dX6_takes_127 ((1 : Int32)) (by decide) ?_
            refine j_iadd C dX6_takes_128 ?_
            obtain ⟨g37, h⟩ := sg h
            obtain ⟨σ38, e39, h⟩ := lm_e h
            refine j_iast C X dX6_takes_129 (sh_6_11 ho0) (n := 73) (fun _ => rfl) g37 e39 ?_
            refine j_goto C dX6_takes_130 2 (by decide) ?_
            refine j_sub [5, 6, 7] [(0, .ref (G.2.2 (o0))), (1, .int (l1)), (2, .int (l2))] rfl ?_
            exact ih σ38 l1 l2  h
          · have h := (if_neg c35).symm.trans h
            refine j_aload_n C dX6_takes_105 5 rfl ?_
            refine j_iload C dX6_takes_106 2 rfl ?_
            refine j_iload C dX6_takes_108 1 rfl ?_
            refine j_iload C dX6_takes_110 0 rfl ?_
            refine j_iload C dX6_takes_112 3 rfl ?_
            obtain ⟨⟨r40, σ41⟩, h42, h⟩ := ob h
            try dsimp only at h
            refine j_callV C X (c_X6_begins n G σ33 o0 ((((σ.1 (rf o0 11) ((((28 : Int32) + ((4 : Int32) * l2)) + (1 : Int32))).toNatClampNeg)).toUInt32 % 65536).toInt32) ((σ.1 (rf o0 11) ((((28 : Int32) + ((4 : Int32) * l2)) + (2 : Int32))).toNatClampNeg)) r29 ((σ.1 (rf o0 11) (((28 : Int32) + ((4 : Int32) * l2))).toNatClampNeg)) ho0 _ _ h42) dX6_takes_114 (gV u_400 u_402 u_403 u_315 u_401) rfl hy_X6_begins rfl ho0 rfl (ci := 10) rfl rfl rfl (by decide) (Nat.le_of_ble_eq_true rfl) (by decide) ?_
            refine j_iconst C dX6_takes_117 ((1 : Int32)) (by decide) ?_
            exact j_zreturn C (by decide) dX6_takes_118 (e_i h hg) (by decide) (by decide)
        · have h := (if_neg c24).symm.trans h
          refine j_iinc C dX6_takes_42 3 rfl ((1 : Int32)) (by decide) (by decide) [(2, .int ((l2 + (1 : Int32)))), (3, .int (((28 : Int32) + ((4 : Int32) * l2)))), (0, .ref (G.2.2 (o0))), (1, .int (l1))] rfl ?_
          refine j_goto C dX6_takes_45 2 (by decide) ?_
          refine j_sub [2, 3, 0] [(0, .ref (G.2.2 (o0))), (1, .int (l1)), (2, .int ((l2 + (1 : Int32))))] rfl ?_
          exact ih σ l1 ((l2 + (1 : Int32)))  h
  unfold sp_X6_takes at h
  show J x [(0, .ref (G.2.2 (o0))), (1, .int (a1))] [] σ 0 0 0
  refine j_iconst C dX6_takes_0 ((0 : Int32)) (by decide) ?_
  refine j_istore_n C dX6_takes_1 (by decide) [(2, .int ((0 : Int32))), (0, .ref (G.2.2 (o0))), (1, .int (a1))] rfl ?_
  refine j_sub [1, 2, 0] [(0, .ref (G.2.2 (o0))), (1, .int (a1)), (2, .int ((0 : Int32)))] rfl ?_
  exact LP2 n σ a1 ((0 : Int32))  h
def lp_X6_ends_47 (n : Nat) (o0 : Nat) (σ : Mem) (l1 : Int32) (s0 : Int32) (t1 : Nat) : Option (Unit × Mem) := if inR (s0 + l1) 73 then if inR (65 : Int32) 73 then if inR (s0 + l1) 73 then (lm (wi σ t1 ((s0 + l1)).toNatClampNeg ((σ.1 t1 ((s0 + l1)).toNatClampNeg) + (σ.1 (rf o0 11) ((65 : Int32)).toNatClampNeg))) fun σ8 => if inR (62 : Int32) 73 then (lm (wi σ8 (rf o0 11) ((62 : Int32)).toNatClampNeg l1) fun σ11 => if inR (63 : Int32) 73 then (lm (wi σ11 (rf o0 11) ((63 : Int32)).toNatClampNeg (45 : Int32)) fun σ14 => if inR (67 : Int32) 73 then (lm (wi σ14 (rf o0 11) ((67 : Int32)).toNatClampNeg (-1 : Int32)) fun σ17 => if inR (68 : Int32) 73 then if inR (68 : Int32) 73 then (lm (wi σ17 (rf o0 11) ((68 : Int32)).toNatClampNeg ((σ17.1 (rf o0 11) ((68 : Int32)).toNatClampNeg) + (1 : Int32))) fun σ21 => some ((), σ21)) else none else none) else none) else none) else none) else none else none else none
def lp_X6_ends_23 (n : Nat) (o0 : Nat) (σ : Mem) (s0 : Int32) : Option (Unit × Mem) := if inR (63 : Int32) 73 then if (σ.1 (rf o0 11) ((63 : Int32)).toNatClampNeg) = (111 : Int32) then lp_X6_ends_47 n o0 σ s0 ((14 : Int32)) ((rf o0 11)) else lp_X6_ends_47 n o0 σ s0 ((7 : Int32)) ((rf o0 11)) else none
def sp_X6_ends (n : Nat) (σ : Mem) (o0 : Nat) : Option (Unit × Mem) := if inR (63 : Int32) 73 then if (σ.1 (rf o0 11) ((63 : Int32)).toNatClampNeg) = (100 : Int32) then if inR (64 : Int32) 73 then lp_X6_ends_23 n o0 σ ((σ.1 (rf o0 11) ((64 : Int32)).toNatClampNeg)) else none else lp_X6_ends_23 n o0 σ ((0 : Int32)) else none
abbrev rm_X6_ends : Room := ({ frames := 10, cells := 0, slots := 0, locals := 200 } : Room)
abbrev wu_X6_ends : List Cond := (Cond.code yX6_ends cX6_ends 2 none) :: wsU
theorem hy_X6_ends : hyOk yX6_ends 0 := by decide +kernel
set_option maxRecDepth 20000 in
set_option maxHeartbeats 4000000 in
theorem c_X6_ends (n : Nat) (G : Gt) (σ : Mem) (o0 : Nat) (ho0 : Ok o0 6) (r : Unit) (σ' : Mem) (h : sp_X6_ends n σ o0 = some (r, σ')) : MM yX6_ends wu_X6_ends rm_X6_ends [.ref (G.2.2 (o0))] G σ (.inl none) σ' := by
  refine mm_of (cc := cX6_ends) (maxL := 2) (ret := none) (by decide +kernel) rfl (Nat.le_of_ble_eq_true rfl) (fun x C X hg => ?_)
  have C : Cx x cX6_ends 2 RX6 none [] wu_X6_ends rm_X6_ends G.1 (tysF G) := C
  have JP47 : ∀ (σ : Mem) (l1 : Int32) (s0 : Int32) (t1 : Nat) (ht1 : Ok t1 11), lp_X6_ends_47 n o0 σ l1 s0 t1 = some (r, σ') → J x [(0, .ref (G.2.2 (o0))), (1, .int (l1))] [.int (s0), .ref (G.2.2 (t1))] σ 47 0 0 := by
    intro σ l1 s0 t1 ht1 h
    unfold lp_X6_ends_47 at h
    refine j_iload_n C dX6_ends_47 1 rfl ?_
    refine j_iadd C dX6_ends_48 ?_
    refine j_dup2 C dX6_ends_49 rfl rfl ?_
    obtain ⟨g5, h⟩ := sg h
    refine j_iald C X dX6_ends_50 ht1 (n := 73) rfl g5 ?_
    refine j_aload_n C dX6_ends_51 0 rfl ?_
    refine j_get C X dX6_ends_52 ho0 rfl rfl 11 (by decide) (fin := false) rfl rfl in_X6 (mU u_327) ?_
    refine j_bipush C dX6_ends_55 ((65 : Int32)) (by decide) ?_
    obtain ⟨g6, h⟩ := sg h
    refine j_iald C X dX6_ends_57 (sh_6_11 ho0) (n := 73) rfl g6 ?_
    refine j_iadd C dX6_ends_58 ?_
    obtain ⟨g7, h⟩ := sg h
    obtain ⟨σ8, e9, h⟩ := lm_e h
    refine j_iast C X dX6_ends_59 ht1 (n := 73) (fun _ => rfl) g7 e9 ?_
    refine j_aload_n C dX6_ends_60 0 rfl ?_
    refine j_get C X dX6_ends_61 ho0 rfl rfl 11 (by decide) (fin := false) rfl rfl in_X6 (mU u_327) ?_
    refine j_bipush C dX6_ends_64 ((62 : Int32)) (by decide) ?_
    refine j_iload_n C dX6_ends_66 1 rfl ?_
    obtain ⟨g10, h⟩ := sg h
    obtain ⟨σ11, e12, h⟩ := lm_e h
    refine j_iast C X dX6_ends_67 (sh_6_11 ho0) (n := 73) (fun _ => rfl) g10 e12 ?_
    refine j_aload_n C dX6_ends_68 0 rfl ?_
    refine j_get C X dX6_ends_69 ho0 rfl rfl 11 (by decide) (fin := false) rfl rfl in_X6 (mU u_327) ?_
    refine j_bipush C dX6_ends_72 ((63 : Int32)) (by decide) ?_
    refine j_bipush C dX6_ends_74 ((45 : Int32)) (by decide) ?_
    obtain ⟨g13, h⟩ := sg h
    obtain ⟨σ14, e15, h⟩ := lm_e h
    refine j_iast C X dX6_ends_76 (sh_6_11 ho0) (n := 73) (fun _ => rfl) g13 e15 ?_
    refine j_aload_n C dX6_ends_77 0 rfl ?_
    refine j_get C X dX6_ends_78 ho0 rfl rfl 11 (by decide) (fin := false) rfl rfl in_X6 (mU u_327) ?_
    refine j_bipush C dX6_ends_81 ((67 : Int32)) (by decide) ?_
    refine j_iconst C dX6_ends_83 ((-1 : Int32)) (by decide) ?_
    obtain ⟨g16, h⟩ := sg h
    obtain ⟨σ17, e18, h⟩ := lm_e h
    refine j_iast C X dX6_ends_84 (sh_6_11 ho0) (n := 73) (fun _ => rfl) g16 e18 ?_
    refine j_aload_n C dX6_ends_85 0 rfl ?_
    refine j_get C X dX6_ends_86 ho0 rfl rfl 11 (by decide) (fin := false) rfl rfl in_X6 (mU u_327) ?_
    refine j_bipush C dX6_ends_89 ((68 : Int32)) (by decide) ?_
    refine j_dup2 C dX6_ends_91 rfl rfl ?_
    obtain ⟨g19, h⟩ := sg h
    refine j_iald C X dX6_ends_92 (sh_6_11 ho0) (n := 73) rfl g19 ?_
    refine j_iconst C dX6_ends_93 ((1 : Int32)) (by decide) ?_
    refine j_iadd C dX6_ends_94 ?_
    obtain ⟨g20, h⟩ := sg h
    obtain ⟨σ21, e22, h⟩ := lm_e h
    refine j_iast C X dX6_ends_95 (sh_6_11 ho0) (n := 73) (fun _ => rfl) g20 e22 ?_
    exact j_return C dX6_ends_96 (e_v h hg) (by decide) (by decide)
  have JP23 : ∀ (σ : Mem) (s0 : Int32), lp_X6_ends_23 n o0 σ s0 = some (r, σ') → J x [(0, .ref (G.2.2 (o0)))] [.int (s0)] σ 23 0 0 := by
    intro σ s0  h
    unfold lp_X6_ends_23 at h
    refine j_istore_n C dX6_ends_23 (by decide) [(1, .int (s0)), (0, .ref (G.2.2 (o0)))] rfl ?_
    refine j_aload_n C dX6_ends_24 1 rfl ?_
    refine j_get C X dX6_ends_25 ho0 rfl rfl 11 (by decide) (fin := false) rfl rfl in_X6 (mU u_327) ?_
    refine j_aload_n C dX6_ends_28 1 rfl ?_
    refine j_get C X dX6_ends_29 ho0 rfl rfl 11 (by decide) (fin := false) rfl rfl in_X6 (mU u_327) ?_
    refine j_bipush C dX6_ends_32 ((63 : Int32)) (by decide) ?_
    obtain ⟨g3, h⟩ := sg h
    refine j_iald C X dX6_ends_34 (sh_6_11 ho0) (n := 73) rfl g3 ?_
    refine j_bipush C dX6_ends_35 ((111 : Int32)) (by decide) ?_
    refine j_icmp_ne C dX6_ends_37 45 (by decide) (fun c4 => ?_) (fun c4 => ?_)
    · have h := (if_neg c4).symm.trans h
      refine j_bipush C dX6_ends_45 ((7 : Int32)) (by decide) ?_
      refine j_sub [1, 0] [(0, .ref (G.2.2 (o0))), (1, .int (s0))] rfl ?_
      exact JP47 σ s0 ((7 : Int32)) ((rf o0 11)) (sh_6_11 ho0) h
    · have h := (if_pos c4).symm.trans h
      refine j_bipush C dX6_ends_40 ((14 : Int32)) (by decide) ?_
      refine j_goto C dX6_ends_42 47 (by decide) ?_
      refine j_sub [1, 0] [(0, .ref (G.2.2 (o0))), (1, .int (s0))] rfl ?_
      exact JP47 σ s0 ((14 : Int32)) ((rf o0 11)) (sh_6_11 ho0) h
  unfold sp_X6_ends at h
  show J x [(0, .ref (G.2.2 (o0)))] [] σ 0 0 0
  refine j_aload_n C dX6_ends_0 0 rfl ?_
  refine j_get C X dX6_ends_1 ho0 rfl rfl 11 (by decide) (fin := false) rfl rfl in_X6 (mU u_327) ?_
  refine j_bipush C dX6_ends_4 ((63 : Int32)) (by decide) ?_
  obtain ⟨g1, h⟩ := sg h
  refine j_iald C X dX6_ends_6 (sh_6_11 ho0) (n := 73) rfl g1 ?_
  refine j_bipush C dX6_ends_7 ((100 : Int32)) (by decide) ?_
  refine j_icmp_ne C dX6_ends_9 22 (by decide) (fun c2 => ?_) (fun c2 => ?_)
  · have h := (if_neg c2).symm.trans h
    refine j_iconst C dX6_ends_22 ((0 : Int32)) (by decide) ?_
    refine j_sub [0] [(0, .ref (G.2.2 (o0)))] rfl ?_
    exact JP23 σ ((0 : Int32))  h
  · have h := (if_pos c2).symm.trans h
    refine j_aload_n C dX6_ends_12 0 rfl ?_
    refine j_get C X dX6_ends_13 ho0 rfl rfl 11 (by decide) (fin := false) rfl rfl in_X6 (mU u_327) ?_
    refine j_bipush C dX6_ends_16 ((64 : Int32)) (by decide) ?_
    obtain ⟨g23, h⟩ := sg h
    refine j_iald C X dX6_ends_18 (sh_6_11 ho0) (n := 73) rfl g23 ?_
    refine j_goto C dX6_ends_19 23 (by decide) ?_
    refine j_sub [0] [(0, .ref (G.2.2 (o0)))] rfl ?_
    exact JP23 σ ((σ.1 (rf o0 11) ((64 : Int32)).toNatClampNeg))  h
def lp_X6_minute_74 (n : Nat) (o0 : Nat) (σ : Mem) (l1 : Int32) : Option (Unit × Mem) := if inR (61 : Int32) 73 then if inR (61 : Int32) 73 then (lm (wi σ (rf o0 11) ((61 : Int32)).toNatClampNeg ((σ.1 (rf o0 11) ((61 : Int32)).toNatClampNeg) + (1 : Int32))) fun σ9 => some ((), σ9)) else none else none
def lp_X6_minute_44 (n : Nat) (o0 : Nat) (σ : Mem) (s0 : Int32) : Option (Unit × Mem) := if s0 = 0 then lp_X6_minute_74 n o0 σ s0 else if inR (66 : Int32) 73 then if inR (66 : Int32) 73 then (lm (wi σ (rf o0 11) ((66 : Int32)).toNatClampNeg ((σ.1 (rf o0 11) ((66 : Int32)).toNatClampNeg) - (1 : Int32))) fun σ13 => if inR (66 : Int32) 73 then if (σ13.1 (rf o0 11) ((66 : Int32)).toNatClampNeg) = 0 then ((sp_X6_ends n σ13 o0).bind fun q => match q with | (_, σ18) => lp_X6_minute_74 n o0 σ18 s0) else lp_X6_minute_74 n o0 σ13 s0 else none) else none else none
def sp_X6_minute (n : Nat) (σ : Mem) (o0 : Nat) : Option (Unit × Mem) := ((sp_X6_gases n σ o0).bind fun q => match q with | (_, σ2) => if inR (63 : Int32) 73 then if (σ2.1 (rf o0 11) ((63 : Int32)).toNatClampNeg) = (45 : Int32) then ((sp_X6_fliesFrom n σ2 o0).bind fun q => match q with | (r20, σ21) => if r20 = 0 then ((sp_X6_takes n σ21 o0 ((0 : Int32))).bind fun q => match q with | (r24, σ25) => if r24 = 0 then ((sp_X6_takes n σ25 o0 ((1 : Int32))).bind fun q => match q with | (r28, σ29) => if r28 = 0 then lp_X6_minute_44 n o0 σ29 ((0 : Int32)) else lp_X6_minute_44 n o0 σ29 ((1 : Int32))) else lp_X6_minute_44 n o0 σ25 ((1 : Int32))) else lp_X6_minute_44 n o0 σ21 ((1 : Int32))) else lp_X6_minute_44 n o0 σ2 ((1 : Int32)) else none)
abbrev rm_X6_minute : Room := ({ frames := 14, cells := 0, slots := 0, locals := 292 } : Room)
abbrev wu_X6_minute : List Cond := (Cond.code yX6_minute cX6_minute 2 none) :: wsU
theorem hy_X6_minute : hyOk yX6_minute 0 := by decide +kernel
set_option maxRecDepth 20000 in
set_option maxHeartbeats 4000000 in
theorem c_X6_minute (n : Nat) (G : Gt) (σ : Mem) (o0 : Nat) (ho0 : Ok o0 6) (r : Unit) (σ' : Mem) (h : sp_X6_minute n σ o0 = some (r, σ')) : MM yX6_minute wu_X6_minute rm_X6_minute [.ref (G.2.2 (o0))] G σ (.inl none) σ' := by
  refine mm_of (cc := cX6_minute) (maxL := 2) (ret := none) (by decide +kernel) rfl (Nat.le_of_ble_eq_true rfl) (fun x C X hg => ?_)
  have C : Cx x cX6_minute 2 RX6 none [] wu_X6_minute rm_X6_minute G.1 (tysF G) := C
  have JP74 : ∀ (σ : Mem) (l1 : Int32), lp_X6_minute_74 n o0 σ l1 = some (r, σ') → J x [(0, .ref (G.2.2 (o0))), (1, .int (l1))] [] σ 74 0 0 := by
    intro σ l1  h
    unfold lp_X6_minute_74 at h
    refine j_aload_n C dX6_minute_74 0 rfl ?_
    refine j_get C X dX6_minute_75 ho0 rfl rfl 11 (by decide) (fin := false) rfl rfl in_X6 (mU u_327) ?_
    refine j_bipush C dX6_minute_78 ((61 : Int32)) (by decide) ?_
    refine j_dup2 C dX6_minute_80 rfl rfl ?_
    obtain ⟨g7, h⟩ := sg h
    refine j_iald C X dX6_minute_81 (sh_6_11 ho0) (n := 73) rfl g7 ?_
    refine j_iconst C dX6_minute_82 ((1 : Int32)) (by decide) ?_
    refine j_iadd C dX6_minute_83 ?_
    obtain ⟨g8, h⟩ := sg h
    obtain ⟨σ9, e10, h⟩ := lm_e h
    refine j_iast C X dX6_minute_84 (sh_6_11 ho0) (n := 73) (fun _ => rfl) g8 e10 ?_
    exact j_return C dX6_minute_85 (e_v h hg) (by decide) (by decide)
  have JP44 : ∀ (σ : Mem) (s0 : Int32), lp_X6_minute_44 n o0 σ s0 = some (r, σ') → J x [(0, .ref (G.2.2 (o0)))] [.int (s0)] σ 44 0 0 := by
    intro σ s0  h
    unfold lp_X6_minute_44 at h
    refine j_istore_n C dX6_minute_44 (by decide) [(1, .int (s0)), (0, .ref (G.2.2 (o0)))] rfl ?_
    refine j_iload_n C dX6_minute_45 0 rfl ?_
    refine j_if_eq C dX6_minute_46 74 (by decide) (fun c6 => ?_) (fun c6 => ?_)
    · have h := (if_pos c6).symm.trans h
      refine j_sub [1, 0] [(0, .ref (G.2.2 (o0))), (1, .int (s0))] rfl ?_
      exact JP74 σ s0  h
    · have h := (if_neg c6).symm.trans h
      refine j_aload_n C dX6_minute_49 1 rfl ?_
      refine j_get C X dX6_minute_50 ho0 rfl rfl 11 (by decide) (fin := false) rfl rfl in_X6 (mU u_327) ?_
      refine j_bipush C dX6_minute_53 ((66 : Int32)) (by decide) ?_
      refine j_dup2 C dX6_minute_55 rfl rfl ?_
      obtain ⟨g11, h⟩ := sg h
      refine j_iald C X dX6_minute_56 (sh_6_11 ho0) (n := 73) rfl g11 ?_
      refine j_iconst C dX6_minute_57 ((1 : Int32)) (by decide) ?_
      refine j_isub C dX6_minute_58 ?_
      obtain ⟨g12, h⟩ := sg h
      obtain ⟨σ13, e14, h⟩ := lm_e h
      refine j_iast C X dX6_minute_59 (sh_6_11 ho0) (n := 73) (fun _ => rfl) g12 e14 ?_
      refine j_aload_n C dX6_minute_60 1 rfl ?_
      refine j_get C X dX6_minute_61 ho0 rfl rfl 11 (by decide) (fin := false) rfl rfl in_X6 (mU u_327) ?_
      refine j_bipush C dX6_minute_64 ((66 : Int32)) (by decide) ?_
      obtain ⟨g15, h⟩ := sg h
      refine j_iald C X dX6_minute_66 (sh_6_11 ho0) (n := 73) rfl g15 ?_
      refine j_if_ne C dX6_minute_67 74 (by decide) (fun c16 => ?_) (fun c16 => ?_)
      · have h := (if_neg c16).symm.trans h
        refine j_sub [1, 0] [(0, .ref (G.2.2 (o0))), (1, .int (s0))] rfl ?_
        exact JP74 σ13 s0  h
      · have h := (if_pos c16).symm.trans h
        refine j_aload_n C dX6_minute_70 1 rfl ?_
        obtain ⟨⟨r17, σ18⟩, h19, h⟩ := ob h
        try dsimp only at h
        refine j_callV C X (c_X6_ends n G σ13 o0 ho0 _ _ h19) dX6_minute_71 (gV u_408 u_410 u_411 u_315 u_409) rfl hy_X6_ends rfl ho0 rfl (ci := 10) rfl rfl rfl (by decide) (Nat.le_of_ble_eq_true rfl) (by decide) ?_
        refine j_sub [1, 0] [(0, .ref (G.2.2 (o0))), (1, .int (s0))] rfl ?_
        exact JP74 σ18 s0  h
  unfold sp_X6_minute at h
  show J x [(0, .ref (G.2.2 (o0)))] [] σ 0 0 0
  refine j_aload_n C dX6_minute_0 0 rfl ?_
  obtain ⟨⟨r1, σ2⟩, h3, h⟩ := ob h
  try dsimp only at h
  refine j_callV C X (c_X6_gases n G σ o0 ho0 _ _ h3) dX6_minute_1 (gV u_372 u_374 u_375 u_315 u_373) rfl hy_X6_gases rfl ho0 rfl (ci := 10) rfl rfl rfl (by decide) (Nat.le_of_ble_eq_true rfl) (by decide) ?_
  refine j_aload_n C dX6_minute_4 0 rfl ?_
  refine j_get C X dX6_minute_5 ho0 rfl rfl 11 (by decide) (fin := false) rfl rfl in_X6 (mU u_327) ?_
  refine j_bipush C dX6_minute_8 ((63 : Int32)) (by decide) ?_
  obtain ⟨g4, h⟩ := sg h
  refine j_iald C X dX6_minute_10 (sh_6_11 ho0) (n := 73) rfl g4 ?_
  refine j_bipush C dX6_minute_11 ((45 : Int32)) (by decide) ?_
  refine j_icmp_ne C dX6_minute_13 39 (by decide) (fun c5 => ?_) (fun c5 => ?_)
  · have h := (if_neg c5).symm.trans h
    refine j_iconst C dX6_minute_39 ((1 : Int32)) (by decide) ?_
    refine j_goto C dX6_minute_40 44 (by decide) ?_
    refine j_sub [0] [(0, .ref (G.2.2 (o0)))] rfl ?_
    exact JP44 σ2 ((1 : Int32))  h
  · have h := (if_pos c5).symm.trans h
    refine j_aload_n C dX6_minute_16 0 rfl ?_
    obtain ⟨⟨r20, σ21⟩, h22, h⟩ := ob h
    try dsimp only at h
    refine j_callV C X (c_X6_fliesFrom n G σ2 o0 ho0 _ _ h22) dX6_minute_17 (gV u_412 u_414 u_415 u_315 u_413) rfl hy_X6_fliesFrom rfl ho0 rfl (ci := 10) rfl rfl rfl (by decide) (Nat.le_of_ble_eq_true rfl) (by decide) ?_
    refine j_if_ne C dX6_minute_20 39 (by decide) (fun c23 => ?_) (fun c23 => ?_)
    · have h := (if_neg c23).symm.trans h
      refine j_iconst C dX6_minute_39 ((1 : Int32)) (by decide) ?_
      refine j_goto C dX6_minute_40 44 (by decide) ?_
      refine j_sub [0] [(0, .ref (G.2.2 (o0)))] rfl ?_
      exact JP44 σ21 ((1 : Int32))  h
    · have h := (if_pos c23).symm.trans h
      refine j_aload_n C dX6_minute_23 0 rfl ?_
      refine j_iconst C dX6_minute_24 ((0 : Int32)) (by decide) ?_
      obtain ⟨⟨r24, σ25⟩, h26, h⟩ := ob h
      try dsimp only at h
      refine j_callV C X (c_X6_takes n G σ21 o0 ((0 : Int32)) ho0 _ _ h26) dX6_minute_25 (gV u_416 u_418 u_419 u_315 u_417) rfl hy_X6_takes rfl ho0 rfl (ci := 10) rfl rfl rfl (by decide) (Nat.le_of_ble_eq_true rfl) (by decide) ?_
      refine j_if_ne C dX6_minute_28 39 (by decide) (fun c27 => ?_) (fun c27 => ?_)
      · have h := (if_neg c27).symm.trans h
        refine j_iconst C dX6_minute_39 ((1 : Int32)) (by decide) ?_
        refine j_goto C dX6_minute_40 44 (by decide) ?_
        refine j_sub [0] [(0, .ref (G.2.2 (o0)))] rfl ?_
        exact JP44 σ25 ((1 : Int32))  h
      · have h := (if_pos c27).symm.trans h
        refine j_aload_n C dX6_minute_31 0 rfl ?_
        refine j_iconst C dX6_minute_32 ((1 : Int32)) (by decide) ?_
        obtain ⟨⟨r28, σ29⟩, h30, h⟩ := ob h
        try dsimp only at h
        refine j_callV C X (c_X6_takes n G σ25 o0 ((1 : Int32)) ho0 _ _ h30) dX6_minute_33 (gV u_416 u_418 u_419 u_315 u_417) rfl hy_X6_takes rfl ho0 rfl (ci := 10) rfl rfl rfl (by decide) (Nat.le_of_ble_eq_true rfl) (by decide) ?_
        refine j_if_eq C dX6_minute_36 43 (by decide) (fun c31 => ?_) (fun c31 => ?_)
        · have h := (if_pos c31).symm.trans h
          refine j_iconst C dX6_minute_43 ((0 : Int32)) (by decide) ?_
          refine j_sub [0] [(0, .ref (G.2.2 (o0)))] rfl ?_
          exact JP44 σ29 ((0 : Int32))  h
        · have h := (if_neg c31).symm.trans h
          refine j_iconst C dX6_minute_39 ((1 : Int32)) (by decide) ?_
          refine j_goto C dX6_minute_40 44 (by decide) ?_
          refine j_sub [0] [(0, .ref (G.2.2 (o0)))] rfl ?_
          exact JP44 σ29 ((1 : Int32))  h
def lp_X6_pass_40 (n : Nat) (o0 : Nat) (a1 : Int32) : Nat → Mem → Int32 → Int32 → Option (Int32 × Mem)
  | 0, _, _, _ => none
  | k + 1, σ, l1, l2 => if l1 ≤ l2 then if (σ.1 o0 14) ≤ 0 then if inR (61 : Int32) 73 then some ((σ.1 (rf o0 11) ((61 : Int32)).toNatClampNeg), σ) else none else some ((0 : Int32), σ) else if (σ.1 o0 14) = 0 then ((sp_X6_minute n σ o0).bind fun q => match q with | (_, σ16) => lp_X6_pass_40 n o0 a1 k σ16 l1 ((l2 + (1 : Int32)))) else if (σ.1 o0 14) ≤ 0 then if inR (61 : Int32) 73 then some ((σ.1 (rf o0 11) ((61 : Int32)).toNatClampNeg), σ) else none else some ((0 : Int32), σ)
theorem lp_X6_pass_40_s (n : Nat) (o0 : Nat) (a1 : Int32) (k : Nat) (σ : Mem) (l1 : Int32) (l2 : Int32) : lp_X6_pass_40 n o0 a1 (k + 1) σ l1 l2 = (if l1 ≤ l2 then if (σ.1 o0 14) ≤ 0 then if inR (61 : Int32) 73 then some ((σ.1 (rf o0 11) ((61 : Int32)).toNatClampNeg), σ) else none else some ((0 : Int32), σ) else if (σ.1 o0 14) = 0 then ((sp_X6_minute n σ o0).bind fun q => match q with | (_, σ16) => lp_X6_pass_40 n o0 a1 k σ16 l1 ((l2 + (1 : Int32)))) else if (σ.1 o0 14) ≤ 0 then if inR (61 : Int32) 73 then some ((σ.1 (rf o0 11) ((61 : Int32)).toNatClampNeg), σ) else none else some ((0 : Int32), σ)) := rfl
def sp_X6_pass (n : Nat) (σ : Mem) (o0 : Nat) (a1 : Int32) : Option (Int32 × Mem) := ((sp_X6_in n σ a1 ((1 : Int32)) ((60 : Int32))).bind fun q => match q with | (r1, σ2) => if r1 = 0 then (lm (wi σ2 o0 14 (1 : Int32)) fun σ20 => lp_X6_pass_40 n o0 a1 n σ20 a1 ((0 : Int32))) else if inR (61 : Int32) 73 then if ((σ2.1 (rf o0 11) ((61 : Int32)).toNatClampNeg) + a1) ≤ (5000 : Int32) then (lm (wi σ2 o0 14 (0 : Int32)) fun σ7 => lp_X6_pass_40 n o0 a1 n σ7 a1 ((0 : Int32))) else (lm (wi σ2 o0 14 (2 : Int32)) fun σ18 => lp_X6_pass_40 n o0 a1 n σ18 a1 ((0 : Int32))) else none)
abbrev rm_X6_pass : Room := ({ frames := 15, cells := 0, slots := 0, locals := 313 } : Room)
abbrev wu_X6_pass : List Cond := (Cond.code yX6_pass cX6_pass 3 (some .int)) :: wsU
theorem hy_X6_pass : hyOk yX6_pass 1 := by decide +kernel
set_option maxRecDepth 20000 in
set_option maxHeartbeats 4000000 in
theorem c_X6_pass (n : Nat) (G : Gt) (σ : Mem) (o0 : Nat) (a1 : Int32) (ho0 : Ok o0 6) (r : Int32) (σ' : Mem) (h : sp_X6_pass n σ o0 a1 = some (r, σ')) : MM yX6_pass wu_X6_pass rm_X6_pass [.ref (G.2.2 (o0)), .int (a1)] G σ (.inl (some (.int r))) σ' := by
  refine mm_of (cc := cX6_pass) (maxL := 3) (ret := (some .int)) (by decide +kernel) rfl (Nat.le_of_ble_eq_true rfl) (fun x C X hg => ?_)
  have C : Cx x cX6_pass 3 RX6 (some .int) [] wu_X6_pass rm_X6_pass G.1 (tysF G) := C
  have LP40 : ∀ (k : Nat) (σ : Mem) (l1 : Int32) (l2 : Int32), lp_X6_pass_40 n o0 a1 k σ l1 l2 = some (r, σ') → J x [(0, .ref (G.2.2 (o0))), (1, .int (l1)), (2, .int (l2))] [] σ 40 0 0 := by
    intro k
    induction k with
    | zero => intro σ l1 l2  h; cases h
    | succ k ih =>
    intro σ l1 l2  h
    rw [lp_X6_pass_40_s] at h
    refine j_iload_n C dX6_pass_40 2 rfl ?_
    refine j_iload_n C dX6_pass_41 1 rfl ?_
    refine j_icmp_ge C dX6_pass_42 62 (by decide) (fun c9 => ?_) (fun c9 => ?_)
    · have h := (if_pos c9).symm.trans h
      refine j_aload_n C dX6_pass_62 0 rfl ?_
      refine j_get C X dX6_pass_63 ho0 rfl rfl 14 (by decide) (fin := false) rfl rfl in_X6 (mU u_312) ?_
      refine j_if_le C dX6_pass_66 73 (by decide) (fun c10 => ?_) (fun c10 => ?_)
      · have h := (if_pos c10).symm.trans h
        refine j_aload_n C dX6_pass_73 0 rfl ?_
        refine j_get C X dX6_pass_74 ho0 rfl rfl 11 (by decide) (fin := false) rfl rfl in_X6 (mU u_327) ?_
        refine j_bipush C dX6_pass_77 ((61 : Int32)) (by decide) ?_
        obtain ⟨g11, h⟩ := sg h
        refine j_iald C X dX6_pass_79 (sh_6_11 ho0) (n := 73) rfl g11 ?_
        exact j_ireturn C dX6_pass_80 (e_i h hg) (by decide) (by decide)
      · have h := (if_neg c10).symm.trans h
        refine j_iconst C dX6_pass_69 ((0 : Int32)) (by decide) ?_
        refine j_goto C dX6_pass_70 80 (by decide) ?_
        exact j_ireturn C dX6_pass_80 (e_i h hg) (by decide) (by decide)
    · have h := (if_neg c9).symm.trans h
      refine j_aload_n C dX6_pass_45 0 rfl ?_
      refine j_get C X dX6_pass_46 ho0 rfl rfl 14 (by decide) (fin := false) rfl rfl in_X6 (mU u_312) ?_
      refine j_if_ne C dX6_pass_49 62 (by decide) (fun c12 => ?_) (fun c12 => ?_)
      · have h := (if_neg c12).symm.trans h
        refine j_aload_n C dX6_pass_62 0 rfl ?_
        refine j_get C X dX6_pass_63 ho0 rfl rfl 14 (by decide) (fin := false) rfl rfl in_X6 (mU u_312) ?_
        refine j_if_le C dX6_pass_66 73 (by decide) (fun c13 => ?_) (fun c13 => ?_)
        · have h := (if_pos c13).symm.trans h
          refine j_aload_n C dX6_pass_73 0 rfl ?_
          refine j_get C X dX6_pass_74 ho0 rfl rfl 11 (by decide) (fin := false) rfl rfl in_X6 (mU u_327) ?_
          refine j_bipush C dX6_pass_77 ((61 : Int32)) (by decide) ?_
          obtain ⟨g14, h⟩ := sg h
          refine j_iald C X dX6_pass_79 (sh_6_11 ho0) (n := 73) rfl g14 ?_
          exact j_ireturn C dX6_pass_80 (e_i h hg) (by decide) (by decide)
        · have h := (if_neg c13).symm.trans h
          refine j_iconst C dX6_pass_69 ((0 : Int32)) (by decide) ?_
          refine j_goto C dX6_pass_70 80 (by decide) ?_
          exact j_ireturn C dX6_pass_80 (e_i h hg) (by decide) (by decide)
      · have h := (if_pos c12).symm.trans h
        refine j_aload_n C dX6_pass_52 0 rfl ?_
        obtain ⟨⟨r15, σ16⟩, h17, h⟩ := ob h
        try dsimp only at h
        refine j_callV C X (c_X6_minute n G σ o0 ho0 _ _ h17) dX6_pass_53 (gV u_420 u_422 u_423 u_315 u_421) rfl hy_X6_minute rfl ho0 rfl (ci := 10) rfl rfl rfl (by decide) (Nat.le_of_ble_eq_true rfl) (by decide) ?_
        refine j_iinc C dX6_pass_56 2 rfl ((1 : Int32)) (by decide) (by decide) [(2, .int ((l2 + (1 : Int32)))), (0, .ref (G.2.2 (o0))), (1, .int (l1))] rfl ?_
        refine j_goto C dX6_pass_59 40 (by decide) ?_
        refine j_sub [1, 2, 0] [(0, .ref (G.2.2 (o0))), (1, .int (l1)), (2, .int ((l2 + (1 : Int32))))] rfl ?_
        exact ih σ16 l1 ((l2 + (1 : Int32)))  h
  unfold sp_X6_pass at h
  show J x [(0, .ref (G.2.2 (o0))), (1, .int (a1))] [] σ 0 0 0
  refine j_aload_n C dX6_pass_0 0 rfl ?_
  refine j_iload_n C dX6_pass_1 1 rfl ?_
  refine j_iconst C dX6_pass_2 ((1 : Int32)) (by decide) ?_
  refine j_bipush C dX6_pass_3 ((60 : Int32)) (by decide) ?_
  obtain ⟨⟨r1, σ2⟩, h3, h⟩ := ob h
  try dsimp only at h
  refine j_callS C X (c_X6_in n G σ a1 ((1 : Int32)) ((60 : Int32))  _ _ h3) dX6_pass_5 (gS u_314 u_317 u_315 u_316) rfl hy_X6_in rfl rfl (by decide) (Nat.le_of_ble_eq_true rfl) (by decide) ?_
  refine j_if_ne C dX6_pass_8 15 (by decide) (fun c4 => ?_) (fun c4 => ?_)
  · have h := (if_neg c4).symm.trans h
    refine j_aload_n C dX6_pass_15 0 rfl ?_
    refine j_get C X dX6_pass_16 ho0 rfl rfl 11 (by decide) (fin := false) rfl rfl in_X6 (mU u_327) ?_
    refine j_bipush C dX6_pass_19 ((61 : Int32)) (by decide) ?_
    obtain ⟨g5, h⟩ := sg h
    refine j_iald C X dX6_pass_21 (sh_6_11 ho0) (n := 73) rfl g5 ?_
    refine j_iload_n C dX6_pass_22 1 rfl ?_
    refine j_iadd C dX6_pass_23 ?_
    refine j_sipush C dX6_pass_24 ((5000 : Int32)) (by decide) ?_
    refine j_icmp_le C dX6_pass_27 34 (by decide) (fun c6 => ?_) (fun c6 => ?_)
    · have h := (if_pos c6).symm.trans h
      refine j_iconst C dX6_pass_34 ((0 : Int32)) (by decide) ?_
      obtain ⟨σ7, e8, h⟩ := lm_e h
      refine j_put C X dX6_pass_35 ho0 (ty0 := tyX6) rfl rfl 14 (by decide) rfl rfl (Nat.le_of_ble_eq_true rfl) tyX6_ok nmX6 (ty := .int) rfl rfl rfl in_X6 (mU u_312) e8 ?_
      refine j_iconst C dX6_pass_38 ((0 : Int32)) (by decide) ?_
      refine j_istore_n C dX6_pass_39 (by decide) [(2, .int ((0 : Int32))), (0, .ref (G.2.2 (o0))), (1, .int (a1))] rfl ?_
      refine j_sub [1, 2, 0] [(0, .ref (G.2.2 (o0))), (1, .int (a1)), (2, .int ((0 : Int32)))] rfl ?_
      exact LP40 n σ7 a1 ((0 : Int32))  h
    · have h := (if_neg c6).symm.trans h
      refine j_iconst C dX6_pass_30 ((2 : Int32)) (by decide) ?_
      refine j_goto C dX6_pass_31 35 (by decide) ?_
      obtain ⟨σ18, e19, h⟩ := lm_e h
      refine j_put C X dX6_pass_35 ho0 (ty0 := tyX6) rfl rfl 14 (by decide) rfl rfl (Nat.le_of_ble_eq_true rfl) tyX6_ok nmX6 (ty := .int) rfl rfl rfl in_X6 (mU u_312) e19 ?_
      refine j_iconst C dX6_pass_38 ((0 : Int32)) (by decide) ?_
      refine j_istore_n C dX6_pass_39 (by decide) [(2, .int ((0 : Int32))), (0, .ref (G.2.2 (o0))), (1, .int (a1))] rfl ?_
      refine j_sub [1, 2, 0] [(0, .ref (G.2.2 (o0))), (1, .int (a1)), (2, .int ((0 : Int32)))] rfl ?_
      exact LP40 n σ18 a1 ((0 : Int32))  h
  · have h := (if_pos c4).symm.trans h
    refine j_iconst C dX6_pass_11 ((1 : Int32)) (by decide) ?_
    refine j_goto C dX6_pass_12 35 (by decide) ?_
    obtain ⟨σ20, e21, h⟩ := lm_e h
    refine j_put C X dX6_pass_35 ho0 (ty0 := tyX6) rfl rfl 14 (by decide) rfl rfl (Nat.le_of_ble_eq_true rfl) tyX6_ok nmX6 (ty := .int) rfl rfl rfl in_X6 (mU u_312) e21 ?_
    refine j_iconst C dX6_pass_38 ((0 : Int32)) (by decide) ?_
    refine j_istore_n C dX6_pass_39 (by decide) [(2, .int ((0 : Int32))), (0, .ref (G.2.2 (o0))), (1, .int (a1))] rfl ?_
    refine j_sub [1, 2, 0] [(0, .ref (G.2.2 (o0))), (1, .int (a1)), (2, .int ((0 : Int32)))] rfl ?_
    exact LP40 n σ20 a1 ((0 : Int32))  h
def sp_X6_clock (n : Nat) (σ : Mem) (o0 : Nat) : Option (Int32 × Mem) := (lm (wi σ o0 14 (0 : Int32)) fun σ1 => if inR (61 : Int32) 73 then some ((σ1.1 (rf o0 11) ((61 : Int32)).toNatClampNeg), σ1) else none)
abbrev rm_X6_clock : Room := ({ frames := 10, cells := 0, slots := 0, locals := 200 } : Room)
abbrev wu_X6_clock : List Cond := (Cond.code yX6_clock cX6_clock 1 (some .int)) :: wsU
theorem hy_X6_clock : hyOk yX6_clock 0 := by decide +kernel
set_option maxRecDepth 20000 in
set_option maxHeartbeats 4000000 in
theorem c_X6_clock (n : Nat) (G : Gt) (σ : Mem) (o0 : Nat) (ho0 : Ok o0 6) (r : Int32) (σ' : Mem) (h : sp_X6_clock n σ o0 = some (r, σ')) : MM yX6_clock wu_X6_clock rm_X6_clock [.ref (G.2.2 (o0))] G σ (.inl (some (.int r))) σ' := by
  refine mm_of (cc := cX6_clock) (maxL := 1) (ret := (some .int)) (by decide +kernel) rfl (Nat.le_of_ble_eq_true rfl) (fun x C X hg => ?_)
  have C : Cx x cX6_clock 1 RX6 (some .int) [] wu_X6_clock rm_X6_clock G.1 (tysF G) := C
  unfold sp_X6_clock at h
  show J x [(0, .ref (G.2.2 (o0)))] [] σ 0 0 0
  refine j_aload_n C dX6_clock_0 0 rfl ?_
  refine j_iconst C dX6_clock_1 ((0 : Int32)) (by decide) ?_
  obtain ⟨σ1, e2, h⟩ := lm_e h
  refine j_put C X dX6_clock_2 ho0 (ty0 := tyX6) rfl rfl 14 (by decide) rfl rfl (Nat.le_of_ble_eq_true rfl) tyX6_ok nmX6 (ty := .int) rfl rfl rfl in_X6 (mU u_312) e2 ?_
  refine j_aload_n C dX6_clock_5 0 rfl ?_
  refine j_get C X dX6_clock_6 ho0 rfl rfl 11 (by decide) (fin := false) rfl rfl in_X6 (mU u_327) ?_
  refine j_bipush C dX6_clock_9 ((61 : Int32)) (by decide) ?_
  obtain ⟨g3, h⟩ := sg h
  refine j_iald C X dX6_clock_11 (sh_6_11 ho0) (n := 73) rfl g3 ?_
  exact j_ireturn C dX6_clock_12 (e_i h hg) (by decide) (by decide)
def sp_X6_tripKind (n : Nat) (σ : Mem) (o0 : Nat) : Option (Int32 × Mem) := (lm (wi σ o0 14 (0 : Int32)) fun σ1 => if inR (63 : Int32) 73 then if 0 ≤ (((σ1.1 (rf o0 11) ((63 : Int32)).toNatClampNeg)).toUInt32 % 65536).toInt32 ∧ (((σ1.1 (rf o0 11) ((63 : Int32)).toNatClampNeg)).toUInt32 % 65536).toInt32 ≤ 65535 then some ((((σ1.1 (rf o0 11) ((63 : Int32)).toNatClampNeg)).toUInt32 % 65536).toInt32, σ1) else none else none)
abbrev rm_X6_tripKind : Room := ({ frames := 10, cells := 0, slots := 0, locals := 200 } : Room)
abbrev wu_X6_tripKind : List Cond := (Cond.code yX6_tripKind cX6_tripKind 1 (some .char)) :: wsU
theorem hy_X6_tripKind : hyOk yX6_tripKind 0 := by decide +kernel
set_option maxRecDepth 20000 in
set_option maxHeartbeats 4000000 in
theorem c_X6_tripKind (n : Nat) (G : Gt) (σ : Mem) (o0 : Nat) (ho0 : Ok o0 6) (r : Int32) (σ' : Mem) (h : sp_X6_tripKind n σ o0 = some (r, σ')) : MM yX6_tripKind wu_X6_tripKind rm_X6_tripKind [.ref (G.2.2 (o0))] G σ (.inl (some (.int r))) σ' := by
  refine mm_of (cc := cX6_tripKind) (maxL := 1) (ret := (some .char)) (by decide +kernel) rfl (Nat.le_of_ble_eq_true rfl) (fun x C X hg => ?_)
  have C : Cx x cX6_tripKind 1 RX6 (some .char) [] wu_X6_tripKind rm_X6_tripKind G.1 (tysF G) := C
  unfold sp_X6_tripKind at h
  show J x [(0, .ref (G.2.2 (o0)))] [] σ 0 0 0
  refine j_aload_n C dX6_tripKind_0 0 rfl ?_
  refine j_iconst C dX6_tripKind_1 ((0 : Int32)) (by decide) ?_
  obtain ⟨σ1, e2, h⟩ := lm_e h
  refine j_put C X dX6_tripKind_2 ho0 (ty0 := tyX6) rfl rfl 14 (by decide) rfl rfl (Nat.le_of_ble_eq_true rfl) tyX6_ok nmX6 (ty := .int) rfl rfl rfl in_X6 (mU u_312) e2 ?_
  refine j_aload_n C dX6_tripKind_5 0 rfl ?_
  refine j_get C X dX6_tripKind_6 ho0 rfl rfl 11 (by decide) (fin := false) rfl rfl in_X6 (mU u_327) ?_
  refine j_bipush C dX6_tripKind_9 ((63 : Int32)) (by decide) ?_
  obtain ⟨g3, h⟩ := sg h
  refine j_iald C X dX6_tripKind_11 (sh_6_11 ho0) (n := 73) rfl g3 ?_
  refine j_i2c C dX6_tripKind_12 ?_
  obtain ⟨g4, h⟩ := sg h
  exact j_zreturn C (nar_c g4).1 dX6_tripKind_13 (e_i h hg) (by decide) (by decide)
def sp_X6_noTrip (n : Nat) (σ : Mem) (o0 : Nat) : Option (Int32 × Mem) := if inR (63 : Int32) 73 then if (σ.1 (rf o0 11) ((63 : Int32)).toNatClampNeg) = (45 : Int32) then (lm (wi σ o0 14 (1 : Int32)) fun σ6 => if (σ6.1 o0 14) ≤ 0 then some ((0 : Int32), σ6) else some ((1 : Int32), σ6)) else (lm (wi σ o0 14 (0 : Int32)) fun σ3 => if (σ3.1 o0 14) ≤ 0 then some ((0 : Int32), σ3) else some ((1 : Int32), σ3)) else none
abbrev rm_X6_noTrip : Room := ({ frames := 10, cells := 0, slots := 0, locals := 200 } : Room)
abbrev wu_X6_noTrip : List Cond := (Cond.code yX6_noTrip cX6_noTrip 1 (some .boolean)) :: wsU
theorem hy_X6_noTrip : hyOk yX6_noTrip 0 := by decide +kernel
set_option maxRecDepth 20000 in
set_option maxHeartbeats 4000000 in
theorem c_X6_noTrip (n : Nat) (G : Gt) (σ : Mem) (o0 : Nat) (ho0 : Ok o0 6) (r : Int32) (σ' : Mem) (h : sp_X6_noTrip n σ o0 = some (r, σ')) : MM yX6_noTrip wu_X6_noTrip rm_X6_noTrip [.ref (G.2.2 (o0))] G σ (.inl (some (.int r))) σ' := by
  refine mm_of (cc := cX6_noTrip) (maxL := 1) (ret := (some .boolean)) (by decide +kernel) rfl (Nat.le_of_ble_eq_true rfl) (fun x C X hg => ?_)
  have C : Cx x cX6_noTrip 1 RX6 (some .boolean) [] wu_X6_noTrip rm_X6_noTrip G.1 (tysF G) := C
  unfold sp_X6_noTrip at h
  show J x [(0, .ref (G.2.2 (o0)))] [] σ 0 0 0
  refine j_aload_n C dX6_noTrip_0 0 rfl ?_
  refine j_aload_n C dX6_noTrip_1 0 rfl ?_
  refine j_get C X dX6_noTrip_2 ho0 rfl rfl 11 (by decide) (fin := false) rfl rfl in_X6 (mU u_327) ?_
  refine j_bipush C dX6_noTrip_5 ((63 : Int32)) (by decide) ?_
  obtain ⟨g1, h⟩ := sg h
  refine j_iald C X dX6_noTrip_7 (sh_6_11 ho0) (n := 73) rfl g1 ?_
  refine j_bipush C dX6_noTrip_8 ((45 : Int32)) (by decide) ?_
  refine j_icmp_ne C dX6_noTrip_10 17 (by decide) (fun c2 => ?_) (fun c2 => ?_)
  · have h := (if_neg c2).symm.trans h
    refine j_iconst C dX6_noTrip_17 ((0 : Int32)) (by decide) ?_
    obtain ⟨σ3, e4, h⟩ := lm_e h
    refine j_put C X dX6_noTrip_18 ho0 (ty0 := tyX6) rfl rfl 14 (by decide) rfl rfl (Nat.le_of_ble_eq_true rfl) tyX6_ok nmX6 (ty := .int) rfl rfl rfl in_X6 (mU u_312) e4 ?_
    refine j_aload_n C dX6_noTrip_21 0 rfl ?_
    refine j_get C X dX6_noTrip_22 ho0 rfl rfl 14 (by decide) (fin := false) rfl rfl in_X6 (mU u_312) ?_
    refine j_if_le C dX6_noTrip_25 32 (by decide) (fun c5 => ?_) (fun c5 => ?_)
    · have h := (if_pos c5).symm.trans h
      refine j_iconst C dX6_noTrip_32 ((0 : Int32)) (by decide) ?_
      exact j_zreturn C (by decide) dX6_noTrip_33 (e_i h hg) (by decide) (by decide)
    · have h := (if_neg c5).symm.trans h
      refine j_iconst C dX6_noTrip_28 ((1 : Int32)) (by decide) ?_
      refine j_goto C dX6_noTrip_29 33 (by decide) ?_
      exact j_zreturn C (by decide) dX6_noTrip_33 (e_i h hg) (by decide) (by decide)
  · have h := (if_pos c2).symm.trans h
    refine j_iconst C dX6_noTrip_13 ((1 : Int32)) (by decide) ?_
    refine j_goto C dX6_noTrip_14 18 (by decide) ?_
    obtain ⟨σ6, e7, h⟩ := lm_e h
    refine j_put C X dX6_noTrip_18 ho0 (ty0 := tyX6) rfl rfl 14 (by decide) rfl rfl (Nat.le_of_ble_eq_true rfl) tyX6_ok nmX6 (ty := .int) rfl rfl rfl in_X6 (mU u_312) e7 ?_
    refine j_aload_n C dX6_noTrip_21 0 rfl ?_
    refine j_get C X dX6_noTrip_22 ho0 rfl rfl 14 (by decide) (fin := false) rfl rfl in_X6 (mU u_312) ?_
    refine j_if_le C dX6_noTrip_25 32 (by decide) (fun c8 => ?_) (fun c8 => ?_)
    · have h := (if_pos c8).symm.trans h
      refine j_iconst C dX6_noTrip_32 ((0 : Int32)) (by decide) ?_
      exact j_zreturn C (by decide) dX6_noTrip_33 (e_i h hg) (by decide) (by decide)
    · have h := (if_neg c8).symm.trans h
      refine j_iconst C dX6_noTrip_28 ((1 : Int32)) (by decide) ?_
      refine j_goto C dX6_noTrip_29 33 (by decide) ?_
      exact j_zreturn C (by decide) dX6_noTrip_33 (e_i h hg) (by decide) (by decide)
def sp_X6_tripLevel (n : Nat) (σ : Mem) (o0 : Nat) : Option (Int32 × Mem) := ((sp_X6_noTrip n σ o0).bind fun q => match q with | (r1, σ2) => if r1 = 0 then if inR (64 : Int32) 73 then some ((σ2.1 (rf o0 11) ((64 : Int32)).toNatClampNeg), σ2) else none else some ((0 : Int32), σ2))
abbrev rm_X6_tripLevel : Room := ({ frames := 11, cells := 0, slots := 0, locals := 220 } : Room)
abbrev wu_X6_tripLevel : List Cond := (Cond.code yX6_tripLevel cX6_tripLevel 1 (some .int)) :: wsU
theorem hy_X6_tripLevel : hyOk yX6_tripLevel 0 := by decide +kernel
set_option maxRecDepth 20000 in
set_option maxHeartbeats 4000000 in
theorem c_X6_tripLevel (n : Nat) (G : Gt) (σ : Mem) (o0 : Nat) (ho0 : Ok o0 6) (r : Int32) (σ' : Mem) (h : sp_X6_tripLevel n σ o0 = some (r, σ')) : MM yX6_tripLevel wu_X6_tripLevel rm_X6_tripLevel [.ref (G.2.2 (o0))] G σ (.inl (some (.int r))) σ' := by
  refine mm_of (cc := cX6_tripLevel) (maxL := 1) (ret := (some .int)) (by decide +kernel) rfl (Nat.le_of_ble_eq_true rfl) (fun x C X hg => ?_)
  have C : Cx x cX6_tripLevel 1 RX6 (some .int) [] wu_X6_tripLevel rm_X6_tripLevel G.1 (tysF G) := C
  unfold sp_X6_tripLevel at h
  show J x [(0, .ref (G.2.2 (o0)))] [] σ 0 0 0
  refine j_aload_n C dX6_tripLevel_0 0 rfl ?_
  obtain ⟨⟨r1, σ2⟩, h3, h⟩ := ob h
  try dsimp only at h
  refine j_callV C X (c_X6_noTrip n G σ o0 ho0 _ _ h3) dX6_tripLevel_1 (gV u_424 u_426 u_427 u_315 u_425) rfl hy_X6_noTrip rfl ho0 rfl (ci := 10) rfl rfl rfl (by decide) (Nat.le_of_ble_eq_true rfl) (by decide) ?_
  refine j_if_eq C dX6_tripLevel_4 11 (by decide) (fun c4 => ?_) (fun c4 => ?_)
  · have h := (if_pos c4).symm.trans h
    refine j_aload_n C dX6_tripLevel_11 0 rfl ?_
    refine j_get C X dX6_tripLevel_12 ho0 rfl rfl 11 (by decide) (fin := false) rfl rfl in_X6 (mU u_327) ?_
    refine j_bipush C dX6_tripLevel_15 ((64 : Int32)) (by decide) ?_
    obtain ⟨g5, h⟩ := sg h
    refine j_iald C X dX6_tripLevel_17 (sh_6_11 ho0) (n := 73) rfl g5 ?_
    exact j_ireturn C dX6_tripLevel_18 (e_i h hg) (by decide) (by decide)
  · have h := (if_neg c4).symm.trans h
    refine j_iconst C dX6_tripLevel_7 ((0 : Int32)) (by decide) ?_
    refine j_goto C dX6_tripLevel_8 18 (by decide) ?_
    exact j_ireturn C dX6_tripLevel_18 (e_i h hg) (by decide) (by decide)
def sp_X6_tripLoad (n : Nat) (σ : Mem) (o0 : Nat) : Option (Int32 × Mem) := ((sp_X6_noTrip n σ o0).bind fun q => match q with | (r1, σ2) => if r1 = 0 then if inR (65 : Int32) 73 then some ((σ2.1 (rf o0 11) ((65 : Int32)).toNatClampNeg), σ2) else none else some ((0 : Int32), σ2))
abbrev rm_X6_tripLoad : Room := ({ frames := 11, cells := 0, slots := 0, locals := 220 } : Room)
abbrev wu_X6_tripLoad : List Cond := (Cond.code yX6_tripLoad cX6_tripLoad 1 (some .int)) :: wsU
theorem hy_X6_tripLoad : hyOk yX6_tripLoad 0 := by decide +kernel
set_option maxRecDepth 20000 in
set_option maxHeartbeats 4000000 in
theorem c_X6_tripLoad (n : Nat) (G : Gt) (σ : Mem) (o0 : Nat) (ho0 : Ok o0 6) (r : Int32) (σ' : Mem) (h : sp_X6_tripLoad n σ o0 = some (r, σ')) : MM yX6_tripLoad wu_X6_tripLoad rm_X6_tripLoad [.ref (G.2.2 (o0))] G σ (.inl (some (.int r))) σ' := by
  refine mm_of (cc := cX6_tripLoad) (maxL := 1) (ret := (some .int)) (by decide +kernel) rfl (Nat.le_of_ble_eq_true rfl) (fun x C X hg => ?_)
  have C : Cx x cX6_tripLoad 1 RX6 (some .int) [] wu_X6_tripLoad rm_X6_tripLoad G.1 (tysF G) := C
  unfold sp_X6_tripLoad at h
  show J x [(0, .ref (G.2.2 (o0)))] [] σ 0 0 0
  refine j_aload_n C dX6_tripLoad_0 0 rfl ?_
  obtain ⟨⟨r1, σ2⟩, h3, h⟩ := ob h
  try dsimp only at h
  refine j_callV C X (c_X6_noTrip n G σ o0 ho0 _ _ h3) dX6_tripLoad_1 (gV u_424 u_426 u_427 u_315 u_425) rfl hy_X6_noTrip rfl ho0 rfl (ci := 10) rfl rfl rfl (by decide) (Nat.le_of_ble_eq_true rfl) (by decide) ?_
  refine j_if_eq C dX6_tripLoad_4 11 (by decide) (fun c4 => ?_) (fun c4 => ?_)
  · have h := (if_pos c4).symm.trans h
    refine j_aload_n C dX6_tripLoad_11 0 rfl ?_
    refine j_get C X dX6_tripLoad_12 ho0 rfl rfl 11 (by decide) (fin := false) rfl rfl in_X6 (mU u_327) ?_
    refine j_bipush C dX6_tripLoad_15 ((65 : Int32)) (by decide) ?_
    obtain ⟨g5, h⟩ := sg h
    refine j_iald C X dX6_tripLoad_17 (sh_6_11 ho0) (n := 73) rfl g5 ?_
    exact j_ireturn C dX6_tripLoad_18 (e_i h hg) (by decide) (by decide)
  · have h := (if_neg c4).symm.trans h
    refine j_iconst C dX6_tripLoad_7 ((0 : Int32)) (by decide) ?_
    refine j_goto C dX6_tripLoad_8 18 (by decide) ?_
    exact j_ireturn C dX6_tripLoad_18 (e_i h hg) (by decide) (by decide)
def sp_X6_tripRest (n : Nat) (σ : Mem) (o0 : Nat) : Option (Int32 × Mem) := ((sp_X6_noTrip n σ o0).bind fun q => match q with | (r1, σ2) => if r1 = 0 then if inR (66 : Int32) 73 then some ((σ2.1 (rf o0 11) ((66 : Int32)).toNatClampNeg), σ2) else none else some ((0 : Int32), σ2))
abbrev rm_X6_tripRest : Room := ({ frames := 11, cells := 0, slots := 0, locals := 220 } : Room)
abbrev wu_X6_tripRest : List Cond := (Cond.code yX6_tripRest cX6_tripRest 1 (some .int)) :: wsU
theorem hy_X6_tripRest : hyOk yX6_tripRest 0 := by decide +kernel
set_option maxRecDepth 20000 in
set_option maxHeartbeats 4000000 in
theorem c_X6_tripRest (n : Nat) (G : Gt) (σ : Mem) (o0 : Nat) (ho0 : Ok o0 6) (r : Int32) (σ' : Mem) (h : sp_X6_tripRest n σ o0 = some (r, σ')) : MM yX6_tripRest wu_X6_tripRest rm_X6_tripRest [.ref (G.2.2 (o0))] G σ (.inl (some (.int r))) σ' := by
  refine mm_of (cc := cX6_tripRest) (maxL := 1) (ret := (some .int)) (by decide +kernel) rfl (Nat.le_of_ble_eq_true rfl) (fun x C X hg => ?_)
  have C : Cx x cX6_tripRest 1 RX6 (some .int) [] wu_X6_tripRest rm_X6_tripRest G.1 (tysF G) := C
  unfold sp_X6_tripRest at h
  show J x [(0, .ref (G.2.2 (o0)))] [] σ 0 0 0
  refine j_aload_n C dX6_tripRest_0 0 rfl ?_
  obtain ⟨⟨r1, σ2⟩, h3, h⟩ := ob h
  try dsimp only at h
  refine j_callV C X (c_X6_noTrip n G σ o0 ho0 _ _ h3) dX6_tripRest_1 (gV u_424 u_426 u_427 u_315 u_425) rfl hy_X6_noTrip rfl ho0 rfl (ci := 10) rfl rfl rfl (by decide) (Nat.le_of_ble_eq_true rfl) (by decide) ?_
  refine j_if_eq C dX6_tripRest_4 11 (by decide) (fun c4 => ?_) (fun c4 => ?_)
  · have h := (if_pos c4).symm.trans h
    refine j_aload_n C dX6_tripRest_11 0 rfl ?_
    refine j_get C X dX6_tripRest_12 ho0 rfl rfl 11 (by decide) (fin := false) rfl rfl in_X6 (mU u_327) ?_
    refine j_bipush C dX6_tripRest_15 ((66 : Int32)) (by decide) ?_
    obtain ⟨g5, h⟩ := sg h
    refine j_iald C X dX6_tripRest_17 (sh_6_11 ho0) (n := 73) rfl g5 ?_
    exact j_ireturn C dX6_tripRest_18 (e_i h hg) (by decide) (by decide)
  · have h := (if_neg c4).symm.trans h
    refine j_iconst C dX6_tripRest_7 ((0 : Int32)) (by decide) ?_
    refine j_goto C dX6_tripRest_8 18 (by decide) ?_
    exact j_ireturn C dX6_tripRest_18 (e_i h hg) (by decide) (by decide)
def sp_X6_cageLevel (n : Nat) (σ : Mem) (o0 : Nat) : Option (Int32 × Mem) := (lm (wi σ o0 14 (0 : Int32)) fun σ1 => if inR (62 : Int32) 73 then some ((σ1.1 (rf o0 11) ((62 : Int32)).toNatClampNeg), σ1) else none)
abbrev rm_X6_cageLevel : Room := ({ frames := 10, cells := 0, slots := 0, locals := 200 } : Room)
abbrev wu_X6_cageLevel : List Cond := (Cond.code yX6_cageLevel cX6_cageLevel 1 (some .int)) :: wsU
theorem hy_X6_cageLevel : hyOk yX6_cageLevel 0 := by decide +kernel
set_option maxRecDepth 20000 in
set_option maxHeartbeats 4000000 in
theorem c_X6_cageLevel (n : Nat) (G : Gt) (σ : Mem) (o0 : Nat) (ho0 : Ok o0 6) (r : Int32) (σ' : Mem) (h : sp_X6_cageLevel n σ o0 = some (r, σ')) : MM yX6_cageLevel wu_X6_cageLevel rm_X6_cageLevel [.ref (G.2.2 (o0))] G σ (.inl (some (.int r))) σ' := by
  refine mm_of (cc := cX6_cageLevel) (maxL := 1) (ret := (some .int)) (by decide +kernel) rfl (Nat.le_of_ble_eq_true rfl) (fun x C X hg => ?_)
  have C : Cx x cX6_cageLevel 1 RX6 (some .int) [] wu_X6_cageLevel rm_X6_cageLevel G.1 (tysF G) := C
  unfold sp_X6_cageLevel at h
  show J x [(0, .ref (G.2.2 (o0)))] [] σ 0 0 0
  refine j_aload_n C dX6_cageLevel_0 0 rfl ?_
  refine j_iconst C dX6_cageLevel_1 ((0 : Int32)) (by decide) ?_
  obtain ⟨σ1, e2, h⟩ := lm_e h
  refine j_put C X dX6_cageLevel_2 ho0 (ty0 := tyX6) rfl rfl 14 (by decide) rfl rfl (Nat.le_of_ble_eq_true rfl) tyX6_ok nmX6 (ty := .int) rfl rfl rfl in_X6 (mU u_312) e2 ?_
  refine j_aload_n C dX6_cageLevel_5 0 rfl ?_
  refine j_get C X dX6_cageLevel_6 ho0 rfl rfl 11 (by decide) (fin := false) rfl rfl in_X6 (mU u_327) ?_
  refine j_bipush C dX6_cageLevel_9 ((62 : Int32)) (by decide) ?_
  obtain ⟨g3, h⟩ := sg h
  refine j_iald C X dX6_cageLevel_11 (sh_6_11 ho0) (n := 73) rfl g3 ?_
  exact j_ireturn C dX6_cageLevel_12 (e_i h hg) (by decide) (by decide)
def sp_X6_doneCount (n : Nat) (σ : Mem) (o0 : Nat) : Option (Int32 × Mem) := (lm (wi σ o0 14 (0 : Int32)) fun σ1 => if inR (68 : Int32) 73 then some ((σ1.1 (rf o0 11) ((68 : Int32)).toNatClampNeg), σ1) else none)
abbrev rm_X6_doneCount : Room := ({ frames := 10, cells := 0, slots := 0, locals := 200 } : Room)
abbrev wu_X6_doneCount : List Cond := (Cond.code yX6_doneCount cX6_doneCount 1 (some .int)) :: wsU
theorem hy_X6_doneCount : hyOk yX6_doneCount 0 := by decide +kernel
set_option maxRecDepth 20000 in
set_option maxHeartbeats 4000000 in
theorem c_X6_doneCount (n : Nat) (G : Gt) (σ : Mem) (o0 : Nat) (ho0 : Ok o0 6) (r : Int32) (σ' : Mem) (h : sp_X6_doneCount n σ o0 = some (r, σ')) : MM yX6_doneCount wu_X6_doneCount rm_X6_doneCount [.ref (G.2.2 (o0))] G σ (.inl (some (.int r))) σ' := by
  refine mm_of (cc := cX6_doneCount) (maxL := 1) (ret := (some .int)) (by decide +kernel) rfl (Nat.le_of_ble_eq_true rfl) (fun x C X hg => ?_)
  have C : Cx x cX6_doneCount 1 RX6 (some .int) [] wu_X6_doneCount rm_X6_doneCount G.1 (tysF G) := C
  unfold sp_X6_doneCount at h
  show J x [(0, .ref (G.2.2 (o0)))] [] σ 0 0 0
  refine j_aload_n C dX6_doneCount_0 0 rfl ?_
  refine j_iconst C dX6_doneCount_1 ((0 : Int32)) (by decide) ?_
  obtain ⟨σ1, e2, h⟩ := lm_e h
  refine j_put C X dX6_doneCount_2 ho0 (ty0 := tyX6) rfl rfl 14 (by decide) rfl rfl (Nat.le_of_ble_eq_true rfl) tyX6_ok nmX6 (ty := .int) rfl rfl rfl in_X6 (mU u_312) e2 ?_
  refine j_aload_n C dX6_doneCount_5 0 rfl ?_
  refine j_get C X dX6_doneCount_6 ho0 rfl rfl 11 (by decide) (fin := false) rfl rfl in_X6 (mU u_327) ?_
  refine j_bipush C dX6_doneCount_9 ((68 : Int32)) (by decide) ?_
  obtain ⟨g3, h⟩ := sg h
  refine j_iald C X dX6_doneCount_11 (sh_6_11 ho0) (n := 73) rfl g3 ?_
  exact j_ireturn C dX6_doneCount_12 (e_i h hg) (by decide) (by decide)
def sp_X6_droppedCount (n : Nat) (σ : Mem) (o0 : Nat) : Option (Int32 × Mem) := (lm (wi σ o0 14 (0 : Int32)) fun σ1 => if inR (69 : Int32) 73 then some ((σ1.1 (rf o0 11) ((69 : Int32)).toNatClampNeg), σ1) else none)
abbrev rm_X6_droppedCount : Room := ({ frames := 10, cells := 0, slots := 0, locals := 200 } : Room)
abbrev wu_X6_droppedCount : List Cond := (Cond.code yX6_droppedCount cX6_droppedCount 1 (some .int)) :: wsU
theorem hy_X6_droppedCount : hyOk yX6_droppedCount 0 := by decide +kernel
set_option maxRecDepth 20000 in
set_option maxHeartbeats 4000000 in
theorem c_X6_droppedCount (n : Nat) (G : Gt) (σ : Mem) (o0 : Nat) (ho0 : Ok o0 6) (r : Int32) (σ' : Mem) (h : sp_X6_droppedCount n σ o0 = some (r, σ')) : MM yX6_droppedCount wu_X6_droppedCount rm_X6_droppedCount [.ref (G.2.2 (o0))] G σ (.inl (some (.int r))) σ' := by
  refine mm_of (cc := cX6_droppedCount) (maxL := 1) (ret := (some .int)) (by decide +kernel) rfl (Nat.le_of_ble_eq_true rfl) (fun x C X hg => ?_)
  have C : Cx x cX6_droppedCount 1 RX6 (some .int) [] wu_X6_droppedCount rm_X6_droppedCount G.1 (tysF G) := C
  unfold sp_X6_droppedCount at h
  show J x [(0, .ref (G.2.2 (o0)))] [] σ 0 0 0
  refine j_aload_n C dX6_droppedCount_0 0 rfl ?_
  refine j_iconst C dX6_droppedCount_1 ((0 : Int32)) (by decide) ?_
  obtain ⟨σ1, e2, h⟩ := lm_e h
  refine j_put C X dX6_droppedCount_2 ho0 (ty0 := tyX6) rfl rfl 14 (by decide) rfl rfl (Nat.le_of_ble_eq_true rfl) tyX6_ok nmX6 (ty := .int) rfl rfl rfl in_X6 (mU u_312) e2 ?_
  refine j_aload_n C dX6_droppedCount_5 0 rfl ?_
  refine j_get C X dX6_droppedCount_6 ho0 rfl rfl 11 (by decide) (fin := false) rfl rfl in_X6 (mU u_327) ?_
  refine j_bipush C dX6_droppedCount_9 ((69 : Int32)) (by decide) ?_
  obtain ⟨g3, h⟩ := sg h
  refine j_iald C X dX6_droppedCount_11 (sh_6_11 ho0) (n := 73) rfl g3 ?_
  exact j_ireturn C dX6_droppedCount_12 (e_i h hg) (by decide) (by decide)
def lp_X6_waitFor_175 (n : Nat) (o0 : Nat) (a1 : Int32) (σ : Mem) (l1 : Int32) (l2 : Int32) (l3 : Int32) (l4 : Int32) (l5 : Int32) (s0 : Int32) : Option (Int32 × Mem) := (lm (wi σ o0 14 s0) fun σ12 => if l4 = 0 then some ((0 : Int32), σ12) else some (l3, σ12))
def lp_X6_waitFor_160 (n : Nat) (o0 : Nat) (a1 : Int32) (σ : Mem) (l1 : Int32) (l2 : Int32) (l3 : Int32) (l4 : Int32) (l5 : Int32) : Option (Int32 × Mem) := ((sp_X6_goesBack n σ o0).bind fun q => match q with | (_, σ9) => if l4 = 0 then lp_X6_waitFor_175 n o0 a1 σ9 l1 l2 l3 l4 l5 ((2 : Int32)) else lp_X6_waitFor_175 n o0 a1 σ9 l1 l2 l3 l4 l5 ((0 : Int32)))
def lp_X6_waitFor_65 (n : Nat) (o0 : Nat) (a1 : Int32) : Nat → Mem → Int32 → Int32 → Int32 → Int32 → Int32 → Option (Int32 × Mem)
  | 0, _, _, _, _, _, _ => none
  | k + 1, σ, l1, l2, l3, l4, l5 => if l5 = 0 then lp_X6_waitFor_160 n o0 a1 σ l1 l2 l3 l4 l5 else if (500 : Int32) ≤ l3 then lp_X6_waitFor_160 n o0 a1 σ l1 l2 l3 l4 l5 else if inR (67 : Int32) 73 then if (σ.1 (rf o0 11) ((67 : Int32)).toNatClampNeg) = l1 then ((sp_X6_minute n σ o0).bind fun q => match q with | (_, σ34) => if inR (67 : Int32) 73 then if (σ34.1 (rf o0 11) ((67 : Int32)).toNatClampNeg) = l1 then lp_X6_waitFor_65 n o0 a1 k σ34 l1 l2 ((l3 + (1 : Int32))) ((0 : Int32)) ((1 : Int32)) else ((sp_X6_place n σ34 o0 l1).bind fun q => match q with | (r39, σ40) => if r39 = (-1 : Int32) then lp_X6_waitFor_65 n o0 a1 k σ40 l1 l2 ((l3 + (1 : Int32))) ((1 : Int32)) ((0 : Int32)) else lp_X6_waitFor_65 n o0 a1 k σ40 l1 l2 ((l3 + (1 : Int32))) ((0 : Int32)) ((1 : Int32))) else none) else ((sp_X6_minute n σ o0).bind fun q => match q with | (_, σ19) => if inR (67 : Int32) 73 then if (σ19.1 (rf o0 11) ((67 : Int32)).toNatClampNeg) = l1 then lp_X6_waitFor_65 n o0 a1 k σ19 l1 l2 ((l3 + (1 : Int32))) ((0 : Int32)) ((1 : Int32)) else ((sp_X6_place n σ19 o0 l1).bind fun q => match q with | (r24, σ25) => if r24 = (-1 : Int32) then if inR (72 : Int32) 73 then if (σ25.1 (rf o0 11) ((72 : Int32)).toNatClampNeg) = l1 then lp_X6_waitFor_65 n o0 a1 k σ25 l1 l2 ((l3 + (1 : Int32))) ((1 : Int32)) ((0 : Int32)) else lp_X6_waitFor_65 n o0 a1 k σ25 l1 l2 ((l3 + (1 : Int32))) ((0 : Int32)) ((0 : Int32)) else none else lp_X6_waitFor_65 n o0 a1 k σ25 l1 l2 ((l3 + (1 : Int32))) ((0 : Int32)) ((1 : Int32))) else none) else none
theorem lp_X6_waitFor_65_s (n : Nat) (o0 : Nat) (a1 : Int32) (k : Nat) (σ : Mem) (l1 : Int32) (l2 : Int32) (l3 : Int32) (l4 : Int32) (l5 : Int32) : lp_X6_waitFor_65 n o0 a1 (k + 1) σ l1 l2 l3 l4 l5 = (if l5 = 0 then lp_X6_waitFor_160 n o0 a1 σ l1 l2 l3 l4 l5 else if (500 : Int32) ≤ l3 then lp_X6_waitFor_160 n o0 a1 σ l1 l2 l3 l4 l5 else if inR (67 : Int32) 73 then if (σ.1 (rf o0 11) ((67 : Int32)).toNatClampNeg) = l1 then ((sp_X6_minute n σ o0).bind fun q => match q with | (_, σ34) => if inR (67 : Int32) 73 then if (σ34.1 (rf o0 11) ((67 : Int32)).toNatClampNeg) = l1 then lp_X6_waitFor_65 n o0 a1 k σ34 l1 l2 ((l3 + (1 : Int32))) ((0 : Int32)) ((1 : Int32)) else ((sp_X6_place n σ34 o0 l1).bind fun q => match q with | (r39, σ40) => if r39 = (-1 : Int32) then lp_X6_waitFor_65 n o0 a1 k σ40 l1 l2 ((l3 + (1 : Int32))) ((1 : Int32)) ((0 : Int32)) else lp_X6_waitFor_65 n o0 a1 k σ40 l1 l2 ((l3 + (1 : Int32))) ((0 : Int32)) ((1 : Int32))) else none) else ((sp_X6_minute n σ o0).bind fun q => match q with | (_, σ19) => if inR (67 : Int32) 73 then if (σ19.1 (rf o0 11) ((67 : Int32)).toNatClampNeg) = l1 then lp_X6_waitFor_65 n o0 a1 k σ19 l1 l2 ((l3 + (1 : Int32))) ((0 : Int32)) ((1 : Int32)) else ((sp_X6_place n σ19 o0 l1).bind fun q => match q with | (r24, σ25) => if r24 = (-1 : Int32) then if inR (72 : Int32) 73 then if (σ25.1 (rf o0 11) ((72 : Int32)).toNatClampNeg) = l1 then lp_X6_waitFor_65 n o0 a1 k σ25 l1 l2 ((l3 + (1 : Int32))) ((1 : Int32)) ((0 : Int32)) else lp_X6_waitFor_65 n o0 a1 k σ25 l1 l2 ((l3 + (1 : Int32))) ((0 : Int32)) ((0 : Int32)) else none else lp_X6_waitFor_65 n o0 a1 k σ25 l1 l2 ((l3 + (1 : Int32))) ((0 : Int32)) ((1 : Int32))) else none) else none) := rfl
def lp_X6_waitFor_33 (n : Nat) (o0 : Nat) (a1 : Int32) (σ : Mem) (l1 : Int32) (s0 : Int32) : Option (Int32 × Mem) := if s0 = 0 then ((sp_X6_place n σ o0 l1).bind fun q => match q with | (r46, σ47) => if r46 = (-1 : Int32) then ((sp_X6_raises n σ47 o0 ((1 : Int32))).bind fun q => match q with | (r53, σ54) => some (r53, σ54)) else ((sp_X6_keeps n σ47 o0).bind fun q => match q with | (_, σ51) => lp_X6_waitFor_65 n o0 a1 n σ51 l1 s0 ((0 : Int32)) ((0 : Int32)) ((1 : Int32)))) else ((sp_X6_keeps n σ o0).bind fun q => match q with | (_, σ5) => lp_X6_waitFor_65 n o0 a1 n σ5 l1 s0 ((0 : Int32)) ((0 : Int32)) ((1 : Int32)))
def sp_X6_waitFor (n : Nat) (σ : Mem) (o0 : Nat) (a1 : Int32) : Option (Int32 × Mem) := if inR (63 : Int32) 73 then if (σ.1 (rf o0 11) ((63 : Int32)).toNatClampNeg) = (45 : Int32) then lp_X6_waitFor_33 n o0 a1 σ a1 ((0 : Int32)) else if a1 = (-1 : Int32) then lp_X6_waitFor_33 n o0 a1 σ a1 ((0 : Int32)) else if inR (67 : Int32) 73 then if (σ.1 (rf o0 11) ((67 : Int32)).toNatClampNeg) = a1 then lp_X6_waitFor_33 n o0 a1 σ a1 ((1 : Int32)) else lp_X6_waitFor_33 n o0 a1 σ a1 ((0 : Int32)) else none else none
abbrev rm_X6_waitFor : Room := ({ frames := 15, cells := 0, slots := 0, locals := 313 } : Room)
abbrev wu_X6_waitFor : List Cond := (Cond.code yX6_waitFor cX6_waitFor 7 (some .int)) :: wsU
theorem hy_X6_waitFor : hyOk yX6_waitFor 1 := by decide +kernel
set_option maxRecDepth 20000 in
set_option maxHeartbeats 4000000 in
theorem c_X6_waitFor (n : Nat) (G : Gt) (σ : Mem) (o0 : Nat) (a1 : Int32) (ho0 : Ok o0 6) (r : Int32) (σ' : Mem) (h : sp_X6_waitFor n σ o0 a1 = some (r, σ')) : MM yX6_waitFor wu_X6_waitFor rm_X6_waitFor [.ref (G.2.2 (o0)), .int (a1)] G σ (.inl (some (.int r))) σ' := by
  refine mm_of (cc := cX6_waitFor) (maxL := 7) (ret := (some .int)) (by decide +kernel) rfl (Nat.le_of_ble_eq_true rfl) (fun x C X hg => ?_)
  have C : Cx x cX6_waitFor 7 RX6 (some .int) [] wu_X6_waitFor rm_X6_waitFor G.1 (tysF G) := C
  have JP175 : ∀ (σ : Mem) (l1 : Int32) (l2 : Int32) (l3 : Int32) (l4 : Int32) (l5 : Int32) (s0 : Int32), lp_X6_waitFor_175 n o0 a1 σ l1 l2 l3 l4 l5 s0 = some (r, σ') → J x [(0, .ref (G.2.2 (o0))), (1, .int (l1)), (2, .int (l2)), (3, .int (l3)), (4, .int (l4)), (5, .int (l5))] [.int (s0), .ref (G.2.2 (o0))] σ 175 0 0 := by
    intro σ l1 l2 l3 l4 l5 s0  h
    unfold lp_X6_waitFor_175 at h
    obtain ⟨σ12, e13, h⟩ := lm_e h
    refine j_put C X dX6_waitFor_175 ho0 (ty0 := tyX6) rfl rfl 14 (by decide) rfl rfl (Nat.le_of_ble_eq_true rfl) tyX6_ok nmX6 (ty := .int) rfl rfl rfl in_X6 (mU u_312) e13 ?_
    refine j_iload C dX6_waitFor_178 4 rfl ?_
    refine j_if_eq C dX6_waitFor_180 187 (by decide) (fun c14 => ?_) (fun c14 => ?_)
    · have h := (if_pos c14).symm.trans h
      refine j_iconst C dX6_waitFor_187 ((0 : Int32)) (by decide) ?_
      exact j_ireturn C dX6_waitFor_188 (e_i h hg) (by decide) (by decide)
    · have h := (if_neg c14).symm.trans h
      refine j_iload_n C dX6_waitFor_183 3 rfl ?_
      refine j_goto C dX6_waitFor_184 188 (by decide) ?_
      exact j_ireturn C dX6_waitFor_188 (e_i h hg) (by decide) (by decide)
  have JP160 : ∀ (σ : Mem) (l1 : Int32) (l2 : Int32) (l3 : Int32) (l4 : Int32) (l5 : Int32), lp_X6_waitFor_160 n o0 a1 σ l1 l2 l3 l4 l5 = some (r, σ') → J x [(0, .ref (G.2.2 (o0))), (1, .int (l1)), (2, .int (l2)), (3, .int (l3)), (4, .int (l4)), (5, .int (l5))] [] σ 160 0 0 := by
    intro σ l1 l2 l3 l4 l5  h
    unfold lp_X6_waitFor_160 at h
    refine j_aload_n C dX6_waitFor_160 0 rfl ?_
    obtain ⟨⟨r8, σ9⟩, h10, h⟩ := ob h
    try dsimp only at h
    refine j_callV C X (c_X6_goesBack n G σ o0 ho0 _ _ h10) dX6_waitFor_161 (gV u_364 u_366 u_367 u_315 u_365) rfl hy_X6_goesBack rfl ho0 rfl (ci := 10) rfl rfl rfl (by decide) (Nat.le_of_ble_eq_true rfl) (by decide) ?_
    refine j_aload_n C dX6_waitFor_164 0 rfl ?_
    refine j_iload C dX6_waitFor_165 4 rfl ?_
    refine j_if_eq C dX6_waitFor_167 174 (by decide) (fun c11 => ?_) (fun c11 => ?_)
    · have h := (if_pos c11).symm.trans h
      refine j_iconst C dX6_waitFor_174 ((2 : Int32)) (by decide) ?_
      refine j_sub [0, 1, 2, 3, 4, 5] [(0, .ref (G.2.2 (o0))), (1, .int (l1)), (2, .int (l2)), (3, .int (l3)), (4, .int (l4)), (5, .int (l5))] rfl ?_
      exact JP175 σ9 l1 l2 l3 l4 l5 ((2 : Int32))  h
    · have h := (if_neg c11).symm.trans h
      refine j_iconst C dX6_waitFor_170 ((0 : Int32)) (by decide) ?_
      refine j_goto C dX6_waitFor_171 175 (by decide) ?_
      refine j_sub [0, 1, 2, 3, 4, 5] [(0, .ref (G.2.2 (o0))), (1, .int (l1)), (2, .int (l2)), (3, .int (l3)), (4, .int (l4)), (5, .int (l5))] rfl ?_
      exact JP175 σ9 l1 l2 l3 l4 l5 ((0 : Int32))  h
  have LP65 : ∀ (k : Nat) (σ : Mem) (l1 : Int32) (l2 : Int32) (l3 : Int32) (l4 : Int32) (l5 : Int32), lp_X6_waitFor_65 n o0 a1 k σ l1 l2 l3 l4 l5 = some (r, σ') → J x [(0, .ref (G.2.2 (o0))), (1, .int (l1)), (2, .int (l2)), (3, .int (l3)), (4, .int (l4)), (5, .int (l5))] [] σ 65 0 0 := by
    intro k
    induction k with
    | zero => intro σ l1 l2 l3 l4 l5  h; cases h
    | succ k ih =>
    intro σ l1 l2 l3 l4 l5  h
    rw [lp_X6_waitFor_65_s] at h
    refine j_iload C dX6_waitFor_65 5 rfl ?_
    refine j_if_eq C dX6_waitFor_67 160 (by decide) (fun c7 => ?_) (fun c7 => ?_)
    · have h := (if_pos c7).symm.trans h
      refine j_sub [0, 1, 2, 3, 4, 5] [(0, .ref (G.2.2 (o0))), (1, .int (l1)), (2, .int (l2)), (3, .int (l3)), (4, .int (l4)), (5, .int (l5))] rfl ?_
      exact JP160 σ l1 l2 l3 l4 l5  h
    · have h := (if_neg c7).symm.trans h
      refine j_iload_n C dX6_waitFor_70 3 rfl ?_
      refine j_sipush C dX6_waitFor_71 ((500 : Int32)) (by decide) ?_
      refine j_icmp_ge C dX6_waitFor_74 160 (by decide) (fun c15 => ?_) (fun c15 => ?_)
      · have h := (if_pos c15).symm.trans h
        refine j_sub [0, 1, 2, 3, 4, 5] [(0, .ref (G.2.2 (o0))), (1, .int (l1)), (2, .int (l2)), (3, .int (l3)), (4, .int (l4)), (5, .int (l5))] rfl ?_
        exact JP160 σ l1 l2 l3 l4 l5  h
      · have h := (if_neg c15).symm.trans h
        refine j_aload_n C dX6_waitFor_77 0 rfl ?_
        refine j_get C X dX6_waitFor_78 ho0 rfl rfl 11 (by decide) (fin := false) rfl rfl in_X6 (mU u_327) ?_
        refine j_bipush C dX6_waitFor_81 ((67 : Int32)) (by decide) ?_
        obtain ⟨g16, h⟩ := sg h
        refine j_iald C X dX6_waitFor_83 (sh_6_11 ho0) (n := 73) rfl g16 ?_
        refine j_iload_n C dX6_waitFor_84 1 rfl ?_
        refine j_icmp_ne C dX6_waitFor_85 92 (by decide) (fun c17 => ?_) (fun c17 => ?_)
        · have h := (if_neg c17).symm.trans h
          refine j_iconst C dX6_waitFor_92 ((0 : Int32)) (by decide) ?_
          refine j_istore C dX6_waitFor_93 (by decide) [(6, .int ((0 : Int32))), (0, .ref (G.2.2 (o0))), (1, .int (l1)), (2, .int (l2)), (3, .int (l3)), (4, .int (l4)), (5, .int (l5))] rfl ?_
          refine j_aload_n C dX6_waitFor_95 1 rfl ?_
          obtain ⟨⟨r18, σ19⟩, h20, h⟩ := ob h
          try dsimp only at h
          refine j_callV C X (c_X6_minute n G σ o0 ho0 _ _ h20) dX6_waitFor_96 (gV u_420 u_422 u_423 u_315 u_421) rfl hy_X6_minute rfl ho0 rfl (ci := 10) rfl rfl rfl (by decide) (Nat.le_of_ble_eq_true rfl) (by decide) ?_
          refine j_iinc C dX6_waitFor_99 4 rfl ((1 : Int32)) (by decide) (by decide) [(3, .int ((l3 + (1 : Int32)))), (6, .int ((0 : Int32))), (0, .ref (G.2.2 (o0))), (1, .int (l1)), (2, .int (l2)), (4, .int (l4)), (5, .int (l5))] rfl ?_
          refine j_aload_n C dX6_waitFor_102 2 rfl ?_
          refine j_get C X dX6_waitFor_103 ho0 rfl rfl 11 (by decide) (fin := false) rfl rfl in_X6 (mU u_327) ?_
          refine j_bipush C dX6_waitFor_106 ((67 : Int32)) (by decide) ?_
          obtain ⟨g21, h⟩ := sg h
          refine j_iald C X dX6_waitFor_108 (sh_6_11 ho0) (n := 73) rfl g21 ?_
          refine j_iload_n C dX6_waitFor_109 3 rfl ?_
          refine j_icmp_eq C dX6_waitFor_110 122 (by decide) (fun c22 => ?_) (fun c22 => ?_)
          · have h := (if_pos c22).symm.trans h
            refine j_iconst C dX6_waitFor_122 ((1 : Int32)) (by decide) ?_
            refine j_goto C dX6_waitFor_123 127 (by decide) ?_
            refine j_istore C dX6_waitFor_127 (by decide) [(5, .int ((1 : Int32))), (3, .int ((l3 + (1 : Int32)))), (6, .int ((0 : Int32))), (0, .ref (G.2.2 (o0))), (1, .int (l1)), (2, .int (l2)), (4, .int (l4))] rfl ?_
            refine j_iload C dX6_waitFor_129 0 rfl ?_
            refine j_if_ne C dX6_waitFor_131 154 (by decide) (fun c23 => ?_) (fun c23 => absurd c23 (by decide))
            refine j_iconst C dX6_waitFor_154 ((0 : Int32)) (by decide) ?_
            refine j_istore C dX6_waitFor_155 (by decide) [(4, .int ((0 : Int32))), (5, .int ((1 : Int32))), (3, .int ((l3 + (1 : Int32)))), (6, .int ((0 : Int32))), (0, .ref (G.2.2 (o0))), (1, .int (l1)), (2, .int (l2))] rfl ?_
            refine j_goto C dX6_waitFor_157 65 (by decide) ?_
            refine j_sub [4, 5, 6, 2, 0, 1] [(0, .ref (G.2.2 (o0))), (1, .int (l1)), (2, .int (l2)), (3, .int ((l3 + (1 : Int32)))), (4, .int ((0 : Int32))), (5, .int ((1 : Int32)))] rfl ?_
            exact ih σ19 l1 l2 ((l3 + (1 : Int32))) ((0 : Int32)) ((1 : Int32))  h
          · have h := (if_neg c22).symm.trans h
            refine j_aload_n C dX6_waitFor_113 2 rfl ?_
            refine j_iload_n C dX6_waitFor_114 3 rfl ?_
            obtain ⟨⟨r24, σ25⟩, h26, h⟩ := ob h
            try dsimp only at h
            refine j_callV C X (c_X6_place n G σ19 o0 l1 ho0 _ _ h26) dX6_waitFor_115 (gV u_387 u_389 u_390 u_315 u_388) rfl hy_X6_place rfl ho0 rfl (ci := 10) rfl rfl rfl (by decide) (Nat.le_of_ble_eq_true rfl) (by decide) ?_
            refine j_iconst C dX6_waitFor_118 ((-1 : Int32)) (by decide) ?_
            refine j_icmp_eq C dX6_waitFor_119 126 (by decide) (fun c27 => ?_) (fun c27 => ?_)
            · have h := (if_pos c27).symm.trans h
              refine j_iconst C dX6_waitFor_126 ((0 : Int32)) (by decide) ?_
              refine j_istore C dX6_waitFor_127 (by decide) [(5, .int ((0 : Int32))), (3, .int ((l3 + (1 : Int32)))), (6, .int ((0 : Int32))), (0, .ref (G.2.2 (o0))), (1, .int (l1)), (2, .int (l2)), (4, .int (l4))] rfl ?_
              refine j_iload C dX6_waitFor_129 0 rfl ?_
              refine j_if_ne C dX6_waitFor_131 154 (by decide) (fun c28 => absurd c28 (by decide)) (fun c28 => ?_)
              refine j_iload C dX6_waitFor_134 2 rfl ?_
              refine j_if_ne C dX6_waitFor_136 150 (by decide) (fun c29 => absurd c29 (by decide)) (fun c29 => ?_)
              refine j_aload_n C dX6_waitFor_139 3 rfl ?_
              refine j_get C X dX6_waitFor_140 ho0 rfl rfl 11 (by decide) (fin := false) rfl rfl in_X6 (mU u_327) ?_
              refine j_bipush C dX6_waitFor_143 ((72 : Int32)) (by decide) ?_
              obtain ⟨g30, h⟩ := sg h
              refine j_iald C X dX6_waitFor_145 (sh_6_11 ho0) (n := 73) rfl g30 ?_
              refine j_iload_n C dX6_waitFor_146 4 rfl ?_
              refine j_icmp_ne C dX6_waitFor_147 154 (by decide) (fun c31 => ?_) (fun c31 => ?_)
              · have h := (if_neg c31).symm.trans h
                refine j_iconst C dX6_waitFor_154 ((0 : Int32)) (by decide) ?_
                refine j_istore C dX6_waitFor_155 (by decide) [(4, .int ((0 : Int32))), (5, .int ((0 : Int32))), (3, .int ((l3 + (1 : Int32)))), (6, .int ((0 : Int32))), (0, .ref (G.2.2 (o0))), (1, .int (l1)), (2, .int (l2))] rfl ?_
                refine j_goto C dX6_waitFor_157 65 (by decide) ?_
                refine j_sub [4, 5, 6, 2, 0, 1] [(0, .ref (G.2.2 (o0))), (1, .int (l1)), (2, .int (l2)), (3, .int ((l3 + (1 : Int32)))), (4, .int ((0 : Int32))), (5, .int ((0 : Int32)))] rfl ?_
                exact ih σ25 l1 l2 ((l3 + (1 : Int32))) ((0 : Int32)) ((0 : Int32))  h
              · have h := (if_pos c31).symm.trans h
                refine j_iconst C dX6_waitFor_150 ((1 : Int32)) (by decide) ?_
                refine j_goto C dX6_waitFor_151 155 (by decide) ?_
                refine j_istore C dX6_waitFor_155 (by decide) [(4, .int ((1 : Int32))), (5, .int ((0 : Int32))), (3, .int ((l3 + (1 : Int32)))), (6, .int ((0 : Int32))), (0, .ref (G.2.2 (o0))), (1, .int (l1)), (2, .int (l2))] rfl ?_
                refine j_goto C dX6_waitFor_157 65 (by decide) ?_
                refine j_sub [4, 5, 6, 2, 0, 1] [(0, .ref (G.2.2 (o0))), (1, .int (l1)), (2, .int (l2)), (3, .int ((l3 + (1 : Int32)))), (4, .int ((1 : Int32))), (5, .int ((0 : Int32)))] rfl ?_
                exact ih σ25 l1 l2 ((l3 + (1 : Int32))) ((1 : Int32)) ((0 : Int32))  h
            · have h := (if_neg c27).symm.trans h
              refine j_iconst C dX6_waitFor_122 ((1 : Int32)) (by decide) ?_
              refine j_goto C dX6_waitFor_123 127 (by decide) ?_
              refine j_istore C dX6_waitFor_127 (by decide) [(5, .int ((1 : Int32))), (3, .int ((l3 + (1 : Int32)))), (6, .int ((0 : Int32))), (0, .ref (G.2.2 (o0))), (1, .int (l1)), (2, .int (l2)), (4, .int (l4))] rfl ?_
              refine j_iload C dX6_waitFor_129 0 rfl ?_
              refine j_if_ne C dX6_waitFor_131 154 (by decide) (fun c32 => ?_) (fun c32 => absurd c32 (by decide))
              refine j_iconst C dX6_waitFor_154 ((0 : Int32)) (by decide) ?_
              refine j_istore C dX6_waitFor_155 (by decide) [(4, .int ((0 : Int32))), (5, .int ((1 : Int32))), (3, .int ((l3 + (1 : Int32)))), (6, .int ((0 : Int32))), (0, .ref (G.2.2 (o0))), (1, .int (l1)), (2, .int (l2))] rfl ?_
              refine j_goto C dX6_waitFor_157 65 (by decide) ?_
              refine j_sub [4, 5, 6, 2, 0, 1] [(0, .ref (G.2.2 (o0))), (1, .int (l1)), (2, .int (l2)), (3, .int ((l3 + (1 : Int32)))), (4, .int ((0 : Int32))), (5, .int ((1 : Int32)))] rfl ?_
              exact ih σ25 l1 l2 ((l3 + (1 : Int32))) ((0 : Int32)) ((1 : Int32))  h
        · have h := (if_pos c17).symm.trans h
          refine j_iconst C dX6_waitFor_88 ((1 : Int32)) (by decide) ?_
          refine j_goto C dX6_waitFor_89 93 (by decide) ?_
          refine j_istore C dX6_waitFor_93 (by decide) [(6, .int ((1 : Int32))), (0, .ref (G.2.2 (o0))), (1, .int (l1)), (2, .int (l2)), (3, .int (l3)), (4, .int (l4)), (5, .int (l5))] rfl ?_
          refine j_aload_n C dX6_waitFor_95 1 rfl ?_
          obtain ⟨⟨r33, σ34⟩, h35, h⟩ := ob h
          try dsimp only at h
          refine j_callV C X (c_X6_minute n G σ o0 ho0 _ _ h35) dX6_waitFor_96 (gV u_420 u_422 u_423 u_315 u_421) rfl hy_X6_minute rfl ho0 rfl (ci := 10) rfl rfl rfl (by decide) (Nat.le_of_ble_eq_true rfl) (by decide) ?_
          refine j_iinc C dX6_waitFor_99 4 rfl ((1 : Int32)) (by decide) (by decide) [(3, .int ((l3 + (1 : Int32)))), (6, .int ((1 : Int32))), (0, .ref (G.2.2 (o0))), (1, .int (l1)), (2, .int (l2)), (4, .int (l4)), (5, .int (l5))] rfl ?_
          refine j_aload_n C dX6_waitFor_102 2 rfl ?_
          refine j_get C X dX6_waitFor_103 ho0 rfl rfl 11 (by decide) (fin := false) rfl rfl in_X6 (mU u_327) ?_
          refine j_bipush C dX6_waitFor_106 ((67 : Int32)) (by decide) ?_
          obtain ⟨g36, h⟩ := sg h
          refine j_iald C X dX6_waitFor_108 (sh_6_11 ho0) (n := 73) rfl g36 ?_
          refine j_iload_n C dX6_waitFor_109 3 rfl ?_
          refine j_icmp_eq C dX6_waitFor_110 122 (by decide) (fun c37 => ?_) (fun c37 => ?_)
          · have h := (if_pos c37).symm.trans h
            refine j_iconst C dX6_waitFor_122 ((1 : Int32)) (by decide) ?_
            refine j_goto C dX6_waitFor_123 127 (by decide) ?_
            refine j_istore C dX6_waitFor_127 (by decide) [(5, .int ((1 : Int32))), (3, .int ((l3 + (1 : Int32)))), (6, .int ((1 : Int32))), (0, .ref (G.2.2 (o0))), (1, .int (l1)), (2, .int (l2)), (4, .int (l4))] rfl ?_
            refine j_iload C dX6_waitFor_129 0 rfl ?_
            refine j_if_ne C dX6_waitFor_131 154 (by decide) (fun c38 => ?_) (fun c38 => absurd c38 (by decide))
            refine j_iconst C dX6_waitFor_154 ((0 : Int32)) (by decide) ?_
            refine j_istore C dX6_waitFor_155 (by decide) [(4, .int ((0 : Int32))), (5, .int ((1 : Int32))), (3, .int ((l3 + (1 : Int32)))), (6, .int ((1 : Int32))), (0, .ref (G.2.2 (o0))), (1, .int (l1)), (2, .int (l2))] rfl ?_
            refine j_goto C dX6_waitFor_157 65 (by decide) ?_
            refine j_sub [4, 5, 6, 2, 0, 1] [(0, .ref (G.2.2 (o0))), (1, .int (l1)), (2, .int (l2)), (3, .int ((l3 + (1 : Int32)))), (4, .int ((0 : Int32))), (5, .int ((1 : Int32)))] rfl ?_
            exact ih σ34 l1 l2 ((l3 + (1 : Int32))) ((0 : Int32)) ((1 : Int32))  h
          · have h := (if_neg c37).symm.trans h
            refine j_aload_n C dX6_waitFor_113 2 rfl ?_
            refine j_iload_n C dX6_waitFor_114 3 rfl ?_
            obtain ⟨⟨r39, σ40⟩, h41, h⟩ := ob h
            try dsimp only at h
            refine j_callV C X (c_X6_place n G σ34 o0 l1 ho0 _ _ h41) dX6_waitFor_115 (gV u_387 u_389 u_390 u_315 u_388) rfl hy_X6_place rfl ho0 rfl (ci := 10) rfl rfl rfl (by decide) (Nat.le_of_ble_eq_true rfl) (by decide) ?_
            refine j_iconst C dX6_waitFor_118 ((-1 : Int32)) (by decide) ?_
            refine j_icmp_eq C dX6_waitFor_119 126 (by decide) (fun c42 => ?_) (fun c42 => ?_)
            · have h := (if_pos c42).symm.trans h
              refine j_iconst C dX6_waitFor_126 ((0 : Int32)) (by decide) ?_
              refine j_istore C dX6_waitFor_127 (by decide) [(5, .int ((0 : Int32))), (3, .int ((l3 + (1 : Int32)))), (6, .int ((1 : Int32))), (0, .ref (G.2.2 (o0))), (1, .int (l1)), (2, .int (l2)), (4, .int (l4))] rfl ?_
              refine j_iload C dX6_waitFor_129 0 rfl ?_
              refine j_if_ne C dX6_waitFor_131 154 (by decide) (fun c43 => absurd c43 (by decide)) (fun c43 => ?_)
              refine j_iload C dX6_waitFor_134 2 rfl ?_
              refine j_if_ne C dX6_waitFor_136 150 (by decide) (fun c44 => ?_) (fun c44 => absurd c44 (by decide))
              refine j_iconst C dX6_waitFor_150 ((1 : Int32)) (by decide) ?_
              refine j_goto C dX6_waitFor_151 155 (by decide) ?_
              refine j_istore C dX6_waitFor_155 (by decide) [(4, .int ((1 : Int32))), (5, .int ((0 : Int32))), (3, .int ((l3 + (1 : Int32)))), (6, .int ((1 : Int32))), (0, .ref (G.2.2 (o0))), (1, .int (l1)), (2, .int (l2))] rfl ?_
              refine j_goto C dX6_waitFor_157 65 (by decide) ?_
              refine j_sub [4, 5, 6, 2, 0, 1] [(0, .ref (G.2.2 (o0))), (1, .int (l1)), (2, .int (l2)), (3, .int ((l3 + (1 : Int32)))), (4, .int ((1 : Int32))), (5, .int ((0 : Int32)))] rfl ?_
              exact ih σ40 l1 l2 ((l3 + (1 : Int32))) ((1 : Int32)) ((0 : Int32))  h
            · have h := (if_neg c42).symm.trans h
              refine j_iconst C dX6_waitFor_122 ((1 : Int32)) (by decide) ?_
              refine j_goto C dX6_waitFor_123 127 (by decide) ?_
              refine j_istore C dX6_waitFor_127 (by decide) [(5, .int ((1 : Int32))), (3, .int ((l3 + (1 : Int32)))), (6, .int ((1 : Int32))), (0, .ref (G.2.2 (o0))), (1, .int (l1)), (2, .int (l2)), (4, .int (l4))] rfl ?_
              refine j_iload C dX6_waitFor_129 0 rfl ?_
              refine j_if_ne C dX6_waitFor_131 154 (by decide) (fun c45 => ?_) (fun c45 => absurd c45 (by decide))
              refine j_iconst C dX6_waitFor_154 ((0 : Int32)) (by decide) ?_
              refine j_istore C dX6_waitFor_155 (by decide) [(4, .int ((0 : Int32))), (5, .int ((1 : Int32))), (3, .int ((l3 + (1 : Int32)))), (6, .int ((1 : Int32))), (0, .ref (G.2.2 (o0))), (1, .int (l1)), (2, .int (l2))] rfl ?_
              refine j_goto C dX6_waitFor_157 65 (by decide) ?_
              refine j_sub [4, 5, 6, 2, 0, 1] [(0, .ref (G.2.2 (o0))), (1, .int (l1)), (2, .int (l2)), (3, .int ((l3 + (1 : Int32)))), (4, .int ((0 : Int32))), (5, .int ((1 : Int32)))] rfl ?_
              exact ih σ40 l1 l2 ((l3 + (1 : Int32))) ((0 : Int32)) ((1 : Int32))  h
  have JP33 : ∀ (σ : Mem) (l1 : Int32) (s0 : Int32), lp_X6_waitFor_33 n o0 a1 σ l1 s0 = some (r, σ') → J x [(0, .ref (G.2.2 (o0))), (1, .int (l1))] [.int (s0)] σ 33 0 0 := by
    intro σ l1 s0  h
    unfold lp_X6_waitFor_33 at h
    refine j_istore_n C dX6_waitFor_33 (by decide) [(2, .int (s0)), (0, .ref (G.2.2 (o0))), (1, .int (l1))] rfl ?_
    refine j_iload_n C dX6_waitFor_34 0 rfl ?_
    refine j_if_ne C dX6_waitFor_35 53 (by decide) (fun c3 => ?_) (fun c3 => ?_)
    · have h := (if_neg c3).symm.trans h
      refine j_aload_n C dX6_waitFor_53 1 rfl ?_
      obtain ⟨⟨r4, σ5⟩, h6, h⟩ := ob h
      try dsimp only at h
      refine j_callV C X (c_X6_keeps n G σ o0 ho0 _ _ h6) dX6_waitFor_54 (gV u_360 u_362 u_363 u_315 u_361) rfl hy_X6_keeps rfl ho0 rfl (ci := 10) rfl rfl rfl (by decide) (Nat.le_of_ble_eq_true rfl) (by decide) ?_
      refine j_iconst C dX6_waitFor_57 ((0 : Int32)) (by decide) ?_
      refine j_istore_n C dX6_waitFor_58 (by decide) [(3, .int ((0 : Int32))), (2, .int (s0)), (0, .ref (G.2.2 (o0))), (1, .int (l1))] rfl ?_
      refine j_iconst C dX6_waitFor_59 ((0 : Int32)) (by decide) ?_
      refine j_istore C dX6_waitFor_60 (by decide) [(4, .int ((0 : Int32))), (3, .int ((0 : Int32))), (2, .int (s0)), (0, .ref (G.2.2 (o0))), (1, .int (l1))] rfl ?_
      refine j_iconst C dX6_waitFor_62 ((1 : Int32)) (by decide) ?_
      refine j_istore C dX6_waitFor_63 (by decide) [(5, .int ((1 : Int32))), (4, .int ((0 : Int32))), (3, .int ((0 : Int32))), (2, .int (s0)), (0, .ref (G.2.2 (o0))), (1, .int (l1))] rfl ?_
      refine j_sub [4, 5, 3, 2, 1, 0] [(0, .ref (G.2.2 (o0))), (1, .int (l1)), (2, .int (s0)), (3, .int ((0 : Int32))), (4, .int ((0 : Int32))), (5, .int ((1 : Int32)))] rfl ?_
      exact LP65 n σ5 l1 s0 ((0 : Int32)) ((0 : Int32)) ((1 : Int32))  h
    · have h := (if_pos c3).symm.trans h
      refine j_aload_n C dX6_waitFor_38 1 rfl ?_
      refine j_iload_n C dX6_waitFor_39 2 rfl ?_
      obtain ⟨⟨r46, σ47⟩, h48, h⟩ := ob h
      try dsimp only at h
      refine j_callV C X (c_X6_place n G σ o0 l1 ho0 _ _ h48) dX6_waitFor_40 (gV u_387 u_389 u_390 u_315 u_388) rfl hy_X6_place rfl ho0 rfl (ci := 10) rfl rfl rfl (by decide) (Nat.le_of_ble_eq_true rfl) (by decide) ?_
      refine j_iconst C dX6_waitFor_43 ((-1 : Int32)) (by decide) ?_
      refine j_icmp_ne C dX6_waitFor_44 53 (by decide) (fun c49 => ?_) (fun c49 => ?_)
      · have h := (if_neg c49).symm.trans h
        refine j_aload_n C dX6_waitFor_53 1 rfl ?_
        obtain ⟨⟨r50, σ51⟩, h52, h⟩ := ob h
        try dsimp only at h
        refine j_callV C X (c_X6_keeps n G σ47 o0 ho0 _ _ h52) dX6_waitFor_54 (gV u_360 u_362 u_363 u_315 u_361) rfl hy_X6_keeps rfl ho0 rfl (ci := 10) rfl rfl rfl (by decide) (Nat.le_of_ble_eq_true rfl) (by decide) ?_
        refine j_iconst C dX6_waitFor_57 ((0 : Int32)) (by decide) ?_
        refine j_istore_n C dX6_waitFor_58 (by decide) [(3, .int ((0 : Int32))), (2, .int (s0)), (0, .ref (G.2.2 (o0))), (1, .int (l1))] rfl ?_
        refine j_iconst C dX6_waitFor_59 ((0 : Int32)) (by decide) ?_
        refine j_istore C dX6_waitFor_60 (by decide) [(4, .int ((0 : Int32))), (3, .int ((0 : Int32))), (2, .int (s0)), (0, .ref (G.2.2 (o0))), (1, .int (l1))] rfl ?_
        refine j_iconst C dX6_waitFor_62 ((1 : Int32)) (by decide) ?_
        refine j_istore C dX6_waitFor_63 (by decide) [(5, .int ((1 : Int32))), (4, .int ((0 : Int32))), (3, .int ((0 : Int32))), (2, .int (s0)), (0, .ref (G.2.2 (o0))), (1, .int (l1))] rfl ?_
        refine j_sub [4, 5, 3, 2, 1, 0] [(0, .ref (G.2.2 (o0))), (1, .int (l1)), (2, .int (s0)), (3, .int ((0 : Int32))), (4, .int ((0 : Int32))), (5, .int ((1 : Int32)))] rfl ?_
        exact LP65 n σ51 l1 s0 ((0 : Int32)) ((0 : Int32)) ((1 : Int32))  h
      · have h := (if_pos c49).symm.trans h
        refine j_aload_n C dX6_waitFor_47 1 rfl ?_
        refine j_iconst C dX6_waitFor_48 ((1 : Int32)) (by decide) ?_
        obtain ⟨⟨r53, σ54⟩, h55, h⟩ := ob h
        try dsimp only at h
        refine j_callV C X (c_X6_raises n G σ47 o0 ((1 : Int32)) ho0 _ _ h55) dX6_waitFor_49 (gV u_368 u_370 u_371 u_315 u_369) rfl hy_X6_raises rfl ho0 rfl (ci := 10) rfl rfl rfl (by decide) (Nat.le_of_ble_eq_true rfl) (by decide) ?_
        exact j_ireturn C dX6_waitFor_52 (e_i h hg) (by decide) (by decide)
  unfold sp_X6_waitFor at h
  show J x [(0, .ref (G.2.2 (o0))), (1, .int (a1))] [] σ 0 0 0
  refine j_aload_n C dX6_waitFor_0 0 rfl ?_
  refine j_get C X dX6_waitFor_1 ho0 rfl rfl 11 (by decide) (fin := false) rfl rfl in_X6 (mU u_327) ?_
  refine j_bipush C dX6_waitFor_4 ((63 : Int32)) (by decide) ?_
  obtain ⟨g1, h⟩ := sg h
  refine j_iald C X dX6_waitFor_6 (sh_6_11 ho0) (n := 73) rfl g1 ?_
  refine j_bipush C dX6_waitFor_7 ((45 : Int32)) (by decide) ?_
  refine j_icmp_eq C dX6_waitFor_9 32 (by decide) (fun c2 => ?_) (fun c2 => ?_)
  · have h := (if_pos c2).symm.trans h
    refine j_iconst C dX6_waitFor_32 ((0 : Int32)) (by decide) ?_
    refine j_sub [0, 1] [(0, .ref (G.2.2 (o0))), (1, .int (a1))] rfl ?_
    exact JP33 σ a1 ((0 : Int32))  h
  · have h := (if_neg c2).symm.trans h
    refine j_iload_n C dX6_waitFor_12 1 rfl ?_
    refine j_iconst C dX6_waitFor_13 ((-1 : Int32)) (by decide) ?_
    refine j_icmp_eq C dX6_waitFor_14 32 (by decide) (fun c56 => ?_) (fun c56 => ?_)
    · have h := (if_pos c56).symm.trans h
      refine j_iconst C dX6_waitFor_32 ((0 : Int32)) (by decide) ?_
      refine j_sub [0, 1] [(0, .ref (G.2.2 (o0))), (1, .int (a1))] rfl ?_
      exact JP33 σ a1 ((0 : Int32))  h
    · have h := (if_neg c56).symm.trans h
      refine j_aload_n C dX6_waitFor_17 0 rfl ?_
      refine j_get C X dX6_waitFor_18 ho0 rfl rfl 11 (by decide) (fin := false) rfl rfl in_X6 (mU u_327) ?_
      refine j_bipush C dX6_waitFor_21 ((67 : Int32)) (by decide) ?_
      obtain ⟨g57, h⟩ := sg h
      refine j_iald C X dX6_waitFor_23 (sh_6_11 ho0) (n := 73) rfl g57 ?_
      refine j_iload_n C dX6_waitFor_24 1 rfl ?_
      refine j_icmp_ne C dX6_waitFor_25 32 (by decide) (fun c58 => ?_) (fun c58 => ?_)
      · have h := (if_neg c58).symm.trans h
        refine j_iconst C dX6_waitFor_32 ((0 : Int32)) (by decide) ?_
        refine j_sub [0, 1] [(0, .ref (G.2.2 (o0))), (1, .int (a1))] rfl ?_
        exact JP33 σ a1 ((0 : Int32))  h
      · have h := (if_pos c58).symm.trans h
        refine j_iconst C dX6_waitFor_28 ((1 : Int32)) (by decide) ?_
        refine j_goto C dX6_waitFor_29 33 (by decide) ?_
        refine j_sub [0, 1] [(0, .ref (G.2.2 (o0))), (1, .int (a1))] rfl ?_
        exact JP33 σ a1 ((1 : Int32))  h
def sp_X6_isConsistent (n : Nat) (σ : Mem) (o0 : Nat) : Option (Int32 × Mem) := (lm (wi σ o0 14 (0 : Int32)) fun σ1 => some ((1 : Int32), σ1))
abbrev rm_X6_isConsistent : Room := ({ frames := 10, cells := 0, slots := 0, locals := 200 } : Room)
abbrev wu_X6_isConsistent : List Cond := (Cond.code yX6_isConsistent cX6_isConsistent 1 (some .boolean)) :: wsU
theorem hy_X6_isConsistent : hyOk yX6_isConsistent 0 := by decide +kernel
set_option maxRecDepth 20000 in
set_option maxHeartbeats 4000000 in
theorem c_X6_isConsistent (n : Nat) (G : Gt) (σ : Mem) (o0 : Nat) (ho0 : Ok o0 6) (r : Int32) (σ' : Mem) (h : sp_X6_isConsistent n σ o0 = some (r, σ')) : MM yX6_isConsistent wu_X6_isConsistent rm_X6_isConsistent [.ref (G.2.2 (o0))] G σ (.inl (some (.int r))) σ' := by
  refine mm_of (cc := cX6_isConsistent) (maxL := 1) (ret := (some .boolean)) (by decide +kernel) rfl (Nat.le_of_ble_eq_true rfl) (fun x C X hg => ?_)
  have C : Cx x cX6_isConsistent 1 RX6 (some .boolean) [] wu_X6_isConsistent rm_X6_isConsistent G.1 (tysF G) := C
  unfold sp_X6_isConsistent at h
  show J x [(0, .ref (G.2.2 (o0)))] [] σ 0 0 0
  refine j_aload_n C dX6_isConsistent_0 0 rfl ?_
  refine j_iconst C dX6_isConsistent_1 ((0 : Int32)) (by decide) ?_
  obtain ⟨σ1, e2, h⟩ := lm_e h
  refine j_put C X dX6_isConsistent_2 ho0 (ty0 := tyX6) rfl rfl 14 (by decide) rfl rfl (Nat.le_of_ble_eq_true rfl) tyX6_ok nmX6 (ty := .int) rfl rfl rfl in_X6 (mU u_312) e2 ?_
  refine j_iconst C dX6_isConsistent_5 ((1 : Int32)) (by decide) ?_
  exact j_zreturn C (by decide) dX6_isConsistent_6 (e_i h hg) (by decide) (by decide)
