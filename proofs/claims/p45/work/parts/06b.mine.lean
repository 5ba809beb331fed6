def lp_X1_copyFrom_2 (n : Nat) (o0 : Nat) (o1 : Nat) : Nat → Mem → Int32 → Option (Unit × Mem)
  | 0, _, _ => none
  | k + 1, σ, l2 => if (7 : Int32) ≤ l2 then ((sp_X4_copyFrom n σ ((rf o0 2)) ((rf o1 2))).bind fun q => match q with | (_, σ3) => ((sp_X3_copyFrom n σ3 ((rf o0 3)) ((rf o1 3))).bind fun q => match q with | (_, σ6) => (lm (wi σ6 o0 4 (σ6.1 o1 4)) fun σ8 => (lm (wi σ8 o0 5 (σ8.1 o1 5)) fun σ10 => (lm (wi σ10 o0 6 (σ10.1 o1 6)) fun σ12 => (lm (wi σ12 o0 7 (σ12.1 o1 7)) fun σ14 => (lm (wi σ14 o0 8 (σ14.1 o1 8)) fun σ16 => (lm (wi σ16 o0 9 (σ16.1 o1 9)) fun σ18 => (lm (wi σ18 o0 10 (σ18.1 o1 10)) fun σ20 => (lm (wi σ20 o0 11 (σ20.1 o1 11)) fun σ22 => (lm (wi σ22 o0 12 (σ22.1 o1 12)) fun σ24 => (lm (wi σ24 o0 13 (σ24.1 o1 13)) fun σ26 => (lm (wi σ26 o0 14 (σ26.1 o1 14)) fun σ28 => (lm (wi σ28 o0 15 (σ28.1 o1 15)) fun σ30 => some ((), σ30))))))))))))))) else if (7 : Int32) ≤ l2 then ((sp_X4_copyFrom n σ ((rf o0 2)) ((rf o1 2))).bind fun q => match q with | (_, σ34) => ((sp_X3_copyFrom n σ34 ((rf o0 3)) ((rf o1 3))).bind fun q => match q with | (_, σ37) => (lm (wi σ37 o0 4 (σ37.1 o1 4)) fun σ39 => (lm (wi σ39 o0 5 (σ39.1 o1 5)) fun σ41 => (lm (wi σ41 o0 6 (σ41.1 o1 6)) fun σ43 => (lm (wi σ43 o0 7 (σ43.1 o1 7)) fun σ45 => (lm (wi σ45 o0 8 (σ45.1 o1 8)) fun σ47 => (lm (wi σ47 o0 9 (σ47.1 o1 9)) fun σ49 => (lm (wi σ49 o0 10 (σ49.1 o1 10)) fun σ51 => (lm (wi σ51 o0 11 (σ51.1 o1 11)) fun σ53 => (lm (wi σ53 o0 12 (σ53.1 o1 12)) fun σ55 => (lm (wi σ55 o0 13 (σ55.1 o1 13)) fun σ57 => (lm (wi σ57 o0 14 (σ57.1 o1 14)) fun σ59 => (lm (wi σ59 o0 15 (σ59.1 o1 15)) fun σ61 => some ((), σ61))))))))))))))) else if inR l2 7 ∧ Ok (σ.2 (rf o0 1) (l2).toNatClampNeg) 0 then if inR l2 7 ∧ Ok (σ.2 (rf o1 1) (l2).toNatClampNeg) 0 then ((sp_X0_copyFrom n σ ((σ.2 (rf o0 1) (l2).toNatClampNeg)) ((σ.2 (rf o1 1) (l2).toNatClampNeg))).bind fun q => match q with | (_, σ66) => lp_X1_copyFrom_2 n o0 o1 k σ66 ((l2 + (1 : Int32)))) else none else none
theorem lp_X1_copyFrom_2_s (n : Nat) (o0 : Nat) (o1 : Nat) (k : Nat) (σ : Mem) (l2 : Int32) : lp_X1_copyFrom_2 n o0 o1 (k + 1) σ l2 = (if (7 : Int32) ≤ l2 then ((sp_X4_copyFrom n σ ((rf o0 2)) ((rf o1 2))).bind fun q => match q with | (_, σ3) => ((sp_X3_copyFrom n σ3 ((rf o0 3)) ((rf o1 3))).bind fun q => match q with | (_, σ6) => (lm (wi σ6 o0 4 (σ6.1 o1 4)) fun σ8 => (lm (wi σ8 o0 5 (σ8.1 o1 5)) fun σ10 => (lm (wi σ10 o0 6 (σ10.1 o1 6)) fun σ12 => (lm (wi σ12 o0 7 (σ12.1 o1 7)) fun σ14 => (lm (wi σ14 o0 8 (σ14.1 o1 8)) fun σ16 => (lm (wi σ16 o0 9 (σ16.1 o1 9)) fun σ18 => (lm (wi σ18 o0 10 (σ18.1 o1 10)) fun σ20 => (lm (wi σ20 o0 11 (σ20.1 o1 11)) fun σ22 => (lm (wi σ22 o0 12 (σ22.1 o1 12)) fun σ24 => (lm (wi σ24 o0 13 (σ24.1 o1 13)) fun σ26 => (lm (wi σ26 o0 14 (σ26.1 o1 14)) fun σ28 => (lm (wi σ28 o0 15 (σ28.1 o1 15)) fun σ30 => some ((), σ30))))))))))))))) else if (7 : Int32) ≤ l2 then ((sp_X4_copyFrom n σ ((rf o0 2)) ((rf o1 2))).bind fun q => match q with | (_, σ34) => ((sp_X3_copyFrom n σ34 ((rf o0 3)) ((rf o1 3))).bind fun q => match q with | (_, σ37) => (lm (wi σ37 o0 4 (σ37.1 o1 4)) fun σ39 => (lm (wi σ39 o0 5 (σ39.1 o1 5)) fun σ41 => (lm (wi σ41 o0 6 (σ41.1 o1 6)) fun σ43 => (lm (wi σ43 o0 7 (σ43.1 o1 7)) fun σ45 => (lm (wi σ45 o0 8 (σ45.1 o1 8)) fun σ47 => (lm (wi σ47 o0 9 (σ47.1 o1 9)) fun σ49 => (lm (wi σ49 o0 10 (σ49.1 o1 10)) fun σ51 => (lm (wi σ51 o0 11 (σ51.1 o1 11)) fun σ53 => (lm (wi σ53 o0 12 (σ53.1 o1 12)) fun σ55 => (lm (wi σ55 o0 13 (σ55.1 o1 13)) fun σ57 => (lm (wi σ57 o0 14 (σ57.1 o1 14)) fun σ59 => (lm (wi σ59 o0 15 (σ59.1 o1 15)) fun σ61 => some ((), σ61))))))))))))))) else if inR l2 7 ∧ Ok (σ.2 (rf o0 1) (l2).toNatClampNeg) 0 then if inR l2 7 ∧ Ok (σ.2 (rf o1 1) (l2).toNatClampNeg) 0 then ((sp_X0_copyFrom n σ ((σ.2 (rf o0 1) (l2).toNatClampNeg)) ((σ.2 (rf o1 1) (l2).toNatClampNeg))).bind fun q => match q with | (_, σ66) => lp_X1_copyFrom_2 n o0 o1 k σ66 ((l2 + (1 : Int32)))) else none else none) := rfl
def sp_X1_copyFrom (n : Nat) (σ : Mem) (o0 : Nat) (o1 : Nat) : Option (Unit × Mem) := lp_X1_copyFrom_2 n o0 o1 n σ ((0 : Int32))
abbrev rm_X1_copyFrom : Room := ({ frames := 12, cells := 0, slots := 0, locals := 247 } : Room)
abbrev wu_X1_copyFrom : List Cond := (Cond.code yX1_copyFrom cX1_copyFrom 3 none) :: wsU
theorem hy_X1_copyFrom : hyOk yX1_copyFrom 1 := by decide +kernel
set_option maxRecDepth 20000 in
set_option maxHeartbeats 4000000 in
theorem c_X1_copyFrom (n : Nat) (G : Gt) (σ : Mem) (o0 : Nat) (o1 : Nat) (ho0 : Ok o0 1) (ho1 : Ok o1 1) (r : Unit) (σ' : Mem) (h : sp_X1_copyFrom n σ o0 o1 = some (r, σ')) : MM yX1_copyFrom wu_X1_copyFrom rm_X1_copyFrom [.ref (G.2.2 (o0)), .ref (G.2.2 (o1))] G σ (.inl none) σ' := by
  refine mm_of (cc := cX1_copyFrom) (maxL := 3) (ret := none) (by decide +kernel) rfl (Nat.le_of_ble_eq_true rfl) (fun x C X hg => ?_)
  have C : Cx x cX1_copyFrom 3 RX1 none [] wu_X1_copyFrom rm_X1_copyFrom G.1 (tysF G) := C
  have LP2 : ∀ (k : Nat) (σ : Mem) (l2 : Int32), lp_X1_copyFrom_2 n o0 o1 k σ l2 = some (r, σ') → J x [(0, .ref (G.2.2 (o0))), (1, .ref (G.2.2 (o1))), (2, .int (l2))] [] σ 2 0 0 := by
    intro k
    induction k with
    | zero => intro σ l2  h; cases h
    | succ k ih =>
    intro σ l2  h
    rw [lp_X1_copyFrom_2_s] at h
    refine j_iload_n C dX1_copyFrom_2 2 rfl ?_
    refine j_aload_n C dX1_copyFrom_3 0 rfl ?_
    refine j_get C X dX1_copyFrom_4 ho0 rfl rfl 1 (by decide) (fin := true) rfl rfl in_X1 (mU u_53) ?_
    refine j_alen C X dX1_copyFrom_7 (sh_1_1 ho0) 0 rfl rfl 7 rfl ?_
    refine j_icmp_ge C dX1_copyFrom_8 41 (by decide) (fun c1 => ?_) (fun c1 => ?_)
    · have h := (if_pos c1).symm.trans h
      refine j_aload_n C dX1_copyFrom_41 0 rfl ?_
      refine j_get C X dX1_copyFrom_42 ho0 rfl rfl 2 (by decide) (fin := true) rfl rfl in_X1 (mU u_54) ?_
      refine j_aload_n C dX1_copyFrom_45 1 rfl ?_
      refine j_get C X dX1_copyFrom_46 ho1 rfl rfl 2 (by decide) (fin := true) rfl rfl in_X1 (mU u_54) ?_
      obtain ⟨⟨r2, σ3⟩, h4, h⟩ := ob h
      try dsimp only at h
      refine j_callV C X (c_X4_copyFrom n G σ ((rf o0 2)) ((rf o1 2)) (sh_1_2 ho0) (sh_1_2 ho1) _ _ h4) dX1_copyFrom_49 (gV u_55 u_57 u_58 u_45 u_56) rfl hy_X4_copyFrom rfl (sh_1_2 ho0) rfl (ci := 8) rfl rfl rfl (by decide) (Nat.le_of_ble_eq_true rfl) (by decide) ?_
      refine j_aload_n C dX1_copyFrom_52 0 rfl ?_
      refine j_get C X dX1_copyFrom_53 ho0 rfl rfl 3 (by decide) (fin := true) rfl rfl in_X1 (mU u_59) ?_
      refine j_aload_n C dX1_copyFrom_56 1 rfl ?_
      refine j_get C X dX1_copyFrom_57 ho1 rfl rfl 3 (by decide) (fin := true) rfl rfl in_X1 (mU u_59) ?_
      obtain ⟨⟨r5, σ6⟩, h7, h⟩ := ob h
      try dsimp only at h
      refine j_callV C X (c_X3_copyFrom n G σ3 ((rf o0 3)) ((rf o1 3)) (sh_1_3 ho0) (sh_1_3 ho1) _ _ h7) dX1_copyFrom_60 (gV u_60 u_62 u_63 u_25 u_61) rfl hy_X3_copyFrom rfl (sh_1_3 ho0) rfl (ci := 7) rfl rfl rfl (by decide) (Nat.le_of_ble_eq_true rfl) (by decide) ?_
      refine j_aload_n C dX1_copyFrom_63 0 rfl ?_
      refine j_aload_n C dX1_copyFrom_64 1 rfl ?_
      refine j_get C X dX1_copyFrom_65 ho1 rfl rfl 4 (by decide) (fin := false) rfl rfl in_X1 (mU u_64) ?_
      obtain ⟨σ8, e9, h⟩ := lm_e h
      refine j_put C X dX1_copyFrom_68 ho0 (ty0 := tyX1) rfl rfl 4 (by decide) rfl rfl (Nat.le_of_ble_eq_true rfl) tyX1_ok nmX1 (ty := .int) rfl rfl rfl in_X1 (mU u_64) e9 ?_
      refine j_aload_n C dX1_copyFrom_71 0 rfl ?_
      refine j_aload_n C dX1_copyFrom_72 1 rfl ?_
      refine j_get C X dX1_copyFrom_73 ho1 rfl rfl 5 (by decide) (fin := false) rfl rfl in_X1 (mU u_65) ?_
      obtain ⟨σ10, e11, h⟩ := lm_e h
      refine j_put C X dX1_copyFrom_76 ho0 (ty0 := tyX1) rfl rfl 5 (by decide) rfl rfl (Nat.le_of_ble_eq_true rfl) tyX1_ok nmX1 (ty := .int) rfl rfl rfl in_X1 (mU u_65) e11 ?_
      refine j_aload_n C dX1_copyFrom_79 0 rfl ?_
      refine j_aload_n C dX1_copyFrom_80 1 rfl ?_
      refine j_get C X dX1_copyFrom_81 ho1 rfl rfl 6 (by decide) (fin := false) rfl rfl in_X1 (mU u_66) ?_
      obtain ⟨σ12, e13, h⟩ := lm_e h
      refine j_put C X dX1_copyFrom_84 ho0 (ty0 := tyX1) rfl rfl 6 (by decide) rfl rfl (Nat.le_of_ble_eq_true rfl) tyX1_ok nmX1 (ty := .int) rfl rfl rfl in_X1 (mU u_66) e13 ?_
      refine j_aload_n C dX1_copyFrom_87 0 rfl ?_
      refine j_aload_n C dX1_copyFrom_88 1 rfl ?_
      refine j_get C X dX1_copyFrom_89 ho1 rfl rfl 7 (by decide) (fin := false) rfl rfl in_X1 (mU u_67) ?_
      obtain ⟨σ14, e15, h⟩ := lm_e h
      refine j_put C X dX1_copyFrom_92 ho0 (ty0 := tyX1) rfl rfl 7 (by decide) rfl rfl (Nat.le_of_ble_eq_true rfl) tyX1_ok nmX1 (ty := .int) rfl rfl rfl in_X1 (mU u_67) e15 ?_
      refine j_aload_n C dX1_copyFrom_95 0 rfl ?_
      refine j_aload_n C dX1_copyFrom_96 1 rfl ?_
      refine j_get C X dX1_copyFrom_97 ho1 rfl rfl 8 (by decide) (fin := false) rfl rfl in_X1 (mU u_68) ?_
      obtain ⟨σ16, e17, h⟩ := lm_e h
      refine j_put C X dX1_copyFrom_100 ho0 (ty0 := tyX1) rfl rfl 8 (by decide) rfl rfl (Nat.le_of_ble_eq_true rfl) tyX1_ok nmX1 (ty := .int) rfl rfl rfl in_X1 (mU u_68) e17 ?_
      refine j_aload_n C dX1_copyFrom_103 0 rfl ?_
      refine j_aload_n C dX1_copyFrom_104 1 rfl ?_
      refine j_get C X dX1_copyFrom_105 ho1 rfl rfl 9 (by decide) (fin := false) rfl rfl in_X1 (mU u_69) ?_
      obtain ⟨σ18, e19, h⟩ := lm_e h
      refine j_put C X dX1_copyFrom_108 ho0 (ty0 := tyX1) rfl rfl 9 (by decide) rfl rfl (Nat.le_of_ble_eq_true rfl) tyX1_ok nmX1 (ty := .int) rfl rfl rfl in_X1 (mU u_69) e19 ?_
      refine j_aload_n C dX1_copyFrom_111 0 rfl ?_
      refine j_aload_n C dX1_copyFrom_112 1 rfl ?_
      refine j_get C X dX1_copyFrom_113 ho1 rfl rfl 10 (by decide) (fin := false) rfl rfl in_X1 (mU u_70) ?_
      obtain ⟨σ20, e21, h⟩ := lm_e h
      refine j_put C X dX1_copyFrom_116 ho0 (ty0 := tyX1) rfl rfl 10 (by decide) rfl rfl (Nat.le_of_ble_eq_true rfl) tyX1_ok nmX1 (ty := .int) rfl rfl rfl in_X1 (mU u_70) e21 ?_
      refine j_aload_n C dX1_copyFrom_119 0 rfl ?_
      refine j_aload_n C dX1_copyFrom_120 1 rfl ?_
      refine j_get C X dX1_copyFrom_121 ho1 rfl rfl 11 (by decide) (fin := false) rfl rfl in_X1 (mU u_71) ?_
      obtain ⟨σ22, e23, h⟩ := lm_e h
      refine j_put C X dX1_copyFrom_124 ho0 (ty0 := tyX1) rfl rfl 11 (by decide) rfl rfl (Nat.le_of_ble_eq_true rfl) tyX1_ok nmX1 (ty := .int) rfl rfl rfl in_X1 (mU u_71) e23 ?_
      refine j_aload_n C dX1_copyFrom_127 0 rfl ?_
      refine j_aload_n C dX1_copyFrom_128 1 rfl ?_
      refine j_get C X dX1_copyFrom_129 ho1 rfl rfl 12 (by decide) (fin := false) rfl rfl in_X1 (mU u_72) ?_
      obtain ⟨σ24, e25, h⟩ := lm_e h
      refine j_put C X dX1_copyFrom_132 ho0 (ty0 := tyX1) rfl rfl 12 (by decide) rfl rfl (Nat.le_of_ble_eq_true rfl) tyX1_ok nmX1 (ty := .int) rfl rfl rfl in_X1 (mU u_72) e25 ?_
      refine j_aload_n C dX1_copyFrom_135 0 rfl ?_
      refine j_aload_n C dX1_copyFrom_136 1 rfl ?_
      refine j_get C X dX1_copyFrom_137 ho1 rfl rfl 13 (by decide) (fin := false) rfl rfl in_X1 (mU u_73) ?_
      obtain ⟨σ26, e27, h⟩ := lm_e h
      refine j_put C X dX1_copyFrom_140 ho0 (ty0 := tyX1) rfl rfl 13 (by decide) rfl rfl (Nat.le_of_ble_eq_true rfl) tyX1_ok nmX1 (ty := .int) rfl rfl rfl in_X1 (mU u_73) e27 ?_
      refine j_aload_n C dX1_copyFrom_143 0 rfl ?_
      refine j_aload_n C dX1_copyFrom_144 1 rfl ?_
      refine j_get C X dX1_copyFrom_145 ho1 rfl rfl 14 (by decide) (fin := false) rfl rfl in_X1 (mU u_74) ?_
      obtain ⟨σ28, e29, h⟩ := lm_e h
      refine j_put C X dX1_copyFrom_148 ho0 (ty0 := tyX1) rfl rfl 14 (by decide) rfl rfl (Nat.le_of_ble_eq_true rfl) tyX1_ok nmX1 (ty := .int) rfl rfl rfl in_X1 (mU u_74) e29 ?_
      refine j_aload_n C dX1_copyFrom_151 0 rfl ?_
      refine j_aload_n C dX1_copyFrom_152 1 rfl ?_
      refine j_get C X dX1_copyFrom_153 ho1 rfl rfl 15 (by decide) (fin := false) rfl rfl in_X1 (mU u_75) ?_
      obtain ⟨σ30, e31, h⟩ := lm_e h
      refine j_put C X dX1_copyFrom_156 ho0 (ty0 := tyX1) rfl rfl 15 (by decide) rfl rfl (Nat.le_of_ble_eq_true rfl) tyX1_ok nmX1 (ty := .int) rfl rfl rfl in_X1 (mU u_75) e31 ?_
      exact j_return C dX1_copyFrom_159 (e_v h hg) (by decide) (by decide)
    · have h := (if_neg c1).symm.trans h
      refine j_iload_n C dX1_copyFrom_11 2 rfl ?_
      refine j_aload_n C dX1_copyFrom_12 1 rfl ?_
      refine j_get C X dX1_copyFrom_13 ho1 rfl rfl 1 (by decide) (fin := true) rfl rfl in_X1 (mU u_53) ?_
      refine j_alen C X dX1_copyFrom_16 (sh_1_1 ho1) 0 rfl rfl 7 rfl ?_
      refine j_icmp_ge C dX1_copyFrom_17 41 (by decide) (fun c32 => ?_) (fun c32 => ?_)
      · have h := (if_pos c32).symm.trans h
        refine j_aload_n C dX1_copyFrom_41 0 rfl ?_
        refine j_get C X dX1_copyFrom_42 ho0 rfl rfl 2 (by decide) (fin := true) rfl rfl in_X1 (mU u_54) ?_
        refine j_aload_n C dX1_copyFrom_45 1 rfl ?_
        refine j_get C X dX1_copyFrom_46 ho1 rfl rfl 2 (by decide) (fin := true) rfl rfl in_X1 (mU u_54) ?_
        obtain ⟨⟨r33, σ34⟩, h35, h⟩ := ob h
        try dsimp only at h
        refine j_callV C X (c_X4_copyFrom n G σ ((rf o0 2)) ((rf o1 2)) (sh_1_2 ho0) (sh_1_2 ho1) _ _ h35) dX1_copyFrom_49 (gV u_55 u_57 u_58 u_45 u_56) rfl hy_X4_copyFrom rfl (sh_1_2 ho0) rfl (ci := 8) rfl rfl rfl (by decide) (Nat.le_of_ble_eq_true rfl) (by decide) ?_
        refine j_aload_n C dX1_copyFrom_52 0 rfl ?_
        refine j_get C X dX1_copyFrom_53 ho0 rfl rfl 3 (by decide) (fin := true) rfl rfl in_X1 (mU u_59) ?_
        refine j_aload_n C dX1_copyFrom_56 1 rfl ?_
        refine j_get C X dX1_copyFrom_57 ho1 rfl rfl 3 (by decide) (fin := true) rfl rfl in_X1 (mU u_59) ?_
        obtain ⟨⟨r36, σ37⟩, h38, h⟩ := ob h
        try dsimp only at h
        refine j_callV C X (c_X3_copyFrom n G σ34 ((rf o0 3)) ((rf o1 3)) (sh_1_3 ho0) (sh_1_3 ho1) _ _ h38) dX1_copyFrom_60 (gV u_60 u_62 u_63 u_25 u_61) rfl hy_X3_copyFrom rfl (sh_1_3 ho0) rfl (ci := 7) rfl rfl rfl (by decide) (Nat.le_of_ble_eq_true rfl) (by decide) ?_
        refine j_aload_n C dX1_copyFrom_63 0 rfl ?_
        refine j_aload_n C dX1_copyFrom_64 1 rfl ?_
        refine j_get C X dX1_copyFrom_65 ho1 rfl rfl 4 (by decide) (fin := false) rfl rfl in_X1 (mU u_64) ?_
        obtain ⟨σ39, e40, h⟩ := lm_e h
        refine j_put C X dX1_copyFrom_68 ho0 (ty0 := tyX1) rfl rfl 4 (by decide) rfl rfl (Nat.le_of_ble_eq_true rfl) tyX1_ok nmX1 (ty := .int) rfl rfl rfl in_X1 (mU u_64) e40 ?_
        refine j_aload_n C dX1_copyFrom_71 0 rfl ?_
        refine j_aload_n C dX1_copyFrom_72 1 rfl ?_
        refine j_get C X dX1_copyFrom_73 ho1 rfl rfl 5 (by decide) (fin := false) rfl rfl in_X1 (mU u_65) ?_
        obtain ⟨σ41, e42, h⟩ := lm_e h
        refine j_put C X dX1_copyFrom_76 ho0 (ty0 := tyX1) rfl rfl 5 (by decide) rfl rfl (Nat.le_of_ble_eq_true rfl) tyX1_ok nmX1 (ty := .int) rfl rfl rfl in_X1 (mU u_65) e42 ?_
        refine j_aload_n C dX1_copyFrom_79 0 rfl ?_
        refine j_aload_n C dX1_copyFrom_80 1 rfl ?_
        refine j_get C X dX1_copyFrom_81 ho1 rfl rfl 6 (by decide) (fin := false) rfl rfl in_X1 (mU u_66) ?_
        obtain ⟨σ43, e44, h⟩ := lm_e h
        refine j_put C X dX1_copyFrom_84 ho0 (ty0 := tyX1) rfl rfl 6 (by decide) rfl rfl (Nat.le_of_ble_eq_true rfl) tyX1_ok nmX1 (ty := .int) rfl rfl rfl in_X1 (mU u_66) e44 ?_
        refine j_aload_n C dX1_copyFrom_87 0 rfl ?_
        refine j_aload_n C dX1_copyFrom_88 1 rfl ?_
        refine j_get C X dX1_copyFrom_89 ho1 rfl rfl 7 (by decide) (fin := false) rfl rfl in_X1 (mU u_67) ?_
        obtain ⟨σ45, e46, h⟩ := lm_e h
        refine j_put C X dX1_copyFrom_92 ho0 (ty0 := tyX1) rfl rfl 7 (by decide) rfl rfl (Nat.le_of_ble_eq_true rfl) tyX1_ok nmX1 (ty := .int) rfl rfl rfl in_X1 (mU u_67) e46 ?_
        refine j_aload_n C dX1_copyFrom_95 0 rfl ?_
        refine j_aload_n C dX1_copyFrom_96 1 rfl ?_
        refine j_get C X dX1_copyFrom_97 ho1 rfl rfl 8 (by decide) (fin := false) rfl rfl in_X1 (mU u_68) ?_
        obtain ⟨σ47, e48, h⟩ := lm_e h
        refine j_put C X dX1_copyFrom_100 ho0 (ty0 := tyX1) rfl rfl 8 (by decide) rfl rfl (Nat.le_of_ble_eq_true rfl) tyX1_ok nmX1 (ty := .int) rfl rfl rfl in_X1 (mU u_68) e48 ?_
        refine j_aload_n C dX1_copyFrom_103 0 rfl ?_
        refine j_aload_n C dX1_copyFrom_104 1 rfl ?_
        refine j_get C X dX1_copyFrom_105 ho1 rfl rfl 9 (by decide) (fin := false) rfl rfl in_X1 (mU u_69) ?_
        obtain ⟨σ49, e50, h⟩ := lm_e h
        refine j_put C X dX1_copyFrom_108 ho0 (ty0 := tyX1) rfl rfl 9 (by decide) rfl rfl (Nat.le_of_ble_eq_true rfl) tyX1_ok nmX1 (ty := .int) rfl rfl rfl in_X1 (mU u_69) e50 ?_
        refine j_aload_n C dX1_copyFrom_111 0 rfl ?_
        refine j_aload_n C dX1_copyFrom_112 1 rfl ?_
        refine j_get C X dX1_copyFrom_113 ho1 rfl rfl 10 (by decide) (fin := false) rfl rfl in_X1 (mU u_70) ?_
        obtain ⟨σ51, e52, h⟩ := lm_e h
        refine j_put C X dX1_copyFrom_116 ho0 (ty0 := tyX1) rfl rfl 10 (by decide) rfl rfl (Nat.le_of_ble_eq_true rfl) tyX1_ok nmX1 (ty := .int) rfl rfl rfl in_X1 (mU u_70) e52 ?_
        refine j_aload_n C dX1_copyFrom_119 0 rfl ?_
        refine j_aload_n C dX1_copyFrom_120 1 rfl ?_
        refine j_get C X dX1_copyFrom_121 ho1 rfl rfl 11 (by decide) (fin := false) rfl rfl in_X1 (mU u_71) ?_
        obtain ⟨σ53, e54, h⟩ := lm_e h
        refine j_put C X dX1_copyFrom_124 ho0 (ty0 := tyX1) rfl rfl 11 (by decide) rfl rfl (Nat.le_of_ble_eq_true rfl) tyX1_ok nmX1 (ty := .int) rfl rfl rfl in_X1 (mU u_71) e54 ?_
        refine j_aload_n C dX1_copyFrom_127 0 rfl ?_
        refine j_aload_n C dX1_copyFrom_128 1 rfl ?_
        refine j_get C X dX1_copyFrom_129 ho1 rfl rfl 12 (by decide) (fin := false) rfl rfl in_X1 (mU u_72) ?_
        obtain ⟨σ55, e56, h⟩ := lm_e h
        refine j_put C X dX1_copyFrom_132 ho0 (ty0 := tyX1) rfl rfl 12 (by decide) rfl rfl (Nat.le_of_ble_eq_true rfl) tyX1_ok nmX1 (ty := .int) rfl rfl rfl in_X1 (mU u_72) e56 ?_
        refine j_aload_n C dX1_copyFrom_135 0 rfl ?_
        refine j_aload_n C dX1_copyFrom_136 1 rfl ?_
        refine j_get C X dX1_copyFrom_137 ho1 rfl rfl 13 (by decide) (fin := false) rfl rfl in_X1 (mU u_73) ?_
        obtain ⟨σ57, e58, h⟩ := lm_e h
        refine j_put C X dX1_copyFrom_140 ho0 (ty0 := tyX1) rfl rfl 13 (by decide) rfl rfl (Nat.le_of_ble_eq_true rfl) tyX1_ok nmX1 (ty := .int) rfl rfl rfl in_X1 (mU u_73) e58 ?_
        refine j_aload_n C dX1_copyFrom_143 0 rfl ?_
        refine j_aload_n C dX1_copyFrom_144 1 rfl ?_
        refine j_get C X dX1_copyFrom_145 ho1 rfl rfl 14 (by decide) (fin := false) rfl rfl in_X1 (mU u_74) ?_
        obtain ⟨σ59, e60, h⟩ := lm_e h
        refine j_put C X dX1_copyFrom_148 ho0 (ty0 := tyX1) rfl rfl 14 (by decide) rfl rfl (Nat.le_of_ble_eq_true rfl) tyX1_ok nmX1 (ty := .int) rfl rfl rfl in_X1 (mU u_74) e60 ?_
        refine j_aload_n C dX1_copyFrom_151 0 rfl ?_
        refine j_aload_n C dX1_copyFrom_152 1 rfl ?_
        refine j_get C X dX1_copyFrom_153 ho1 rfl rfl 15 (by decide) (fin := false) rfl rfl in_X1 (mU u_75) ?_
        obtain ⟨σ61, e62, h⟩ := lm_e h
        refine j_put C X dX1_copyFrom_156 ho0 (ty0 := tyX1) rfl rfl 15 (by decide) rfl rfl (Nat.le_of_ble_eq_true rfl) tyX1_ok nmX1 (ty := .int) rfl rfl rfl in_X1 (mU u_75) e62 ?_
        exact j_return C dX1_copyFrom_159 (e_v h hg) (by decide) (by decide)
      · have h := (if_neg c32).symm.trans h
        refine j_aload_n C dX1_copyFrom_20 0 rfl ?_
        refine j_get C X dX1_copyFrom_21 ho0 rfl rfl 1 (by decide) (fin := true) rfl rfl in_X1 (mU u_53) ?_
        refine j_iload_n C dX1_copyFrom_24 2 rfl ?_
        obtain ⟨⟨g63, g63k⟩, h⟩ := sg h
        refine j_aald C X dX1_copyFrom_25 (sh_1_1 ho0) 0 (n := 7) rfl rfl g63 ?_
        refine j_aload_n C dX1_copyFrom_26 1 rfl ?_
        refine j_get C X dX1_copyFrom_27 ho1 rfl rfl 1 (by decide) (fin := true) rfl rfl in_X1 (mU u_53) ?_
        refine j_iload_n C dX1_copyFrom_30 2 rfl ?_
        obtain ⟨⟨g64, g64k⟩, h⟩ := sg h
        refine j_aald C X dX1_copyFrom_31 (sh_1_1 ho1) 0 (n := 7) rfl rfl g64 ?_
        obtain ⟨⟨r65, σ66⟩, h67, h⟩ := ob h
        try dsimp only at h
        refine j_callV C X (c_X0_copyFrom n G σ ((σ.2 (rf o0 1) (l2).toNatClampNeg)) ((σ.2 (rf o1 1) (l2).toNatClampNeg)) g63k g64k _ _ h67) dX1_copyFrom_32 (gV u_76 u_79 u_80 u_77 u_78) rfl hy_X0_copyFrom rfl g63k rfl (ci := 4) rfl rfl rfl (by decide) (Nat.le_of_ble_eq_true rfl) (by decide) ?_
        refine j_iinc C dX1_copyFrom_35 2 rfl ((1 : Int32)) (by decide) (by decide) [(2, .int ((l2 + (1 : Int32)))), (0, .ref (G.2.2 (o0))), (1, .ref (G.2.2 (o1)))] rfl ?_
        refine j_goto C dX1_copyFrom_38 2 (by decide) ?_
        refine j_sub [1, 2, 0] [(0, .ref (G.2.2 (o0))), (1, .ref (G.2.2 (o1))), (2, .int ((l2 + (1 : Int32))))] rfl ?_
        exact ih σ66 ((l2 + (1 : Int32)))  h
  unfold sp_X1_copyFrom at h
  show J x [(0, .ref (G.2.2 (o0))), (1, .ref (G.2.2 (o1)))] [] σ 0 0 0
  refine j_iconst C dX1_copyFrom_0 ((0 : Int32)) (by decide) ?_
  refine j_istore_n C dX1_copyFrom_1 (by decide) [(2, .int ((0 : Int32))), (0, .ref (G.2.2 (o0))), (1, .ref (G.2.2 (o1)))] rfl ?_
  refine j_sub [1, 2, 0] [(0, .ref (G.2.2 (o0))), (1, .ref (G.2.2 (o1))), (2, .int ((0 : Int32)))] rfl ?_
  exact LP2 n σ ((0 : Int32))  h
def sp_X1_place (n : Nat) (σ : Mem) (o0 : Nat) (a1 : Int32) : Option (Nat × Mem) := if a1 < 0 then some ((rf o0 0), σ) else if (7 : Int32) ≤ a1 then some ((rf o0 0), σ) else if inR a1 7 ∧ Ok (σ.2 (rf o0 1) (a1).toNatClampNeg) 0 then some ((σ.2 (rf o0 1) (a1).toNatClampNeg), σ) else none
abbrev rm_X1_place : Room := ({ frames := 10, cells := 0, slots := 0, locals := 200 } : Room)
abbrev wu_X1_place : List Cond := (Cond.code yX1_place cX1_place 2 (some (.object "MineHoist$Level"))) :: wsU
theorem hy_X1_place : hyOk yX1_place 1 := by decide +kernel
set_option maxRecDepth 20000 in
set_option maxHeartbeats 4000000 in
theorem c_X1_place (n : Nat) (G : Gt) (σ : Mem) (o0 : Nat) (a1 : Int32) (ho0 : Ok o0 1) (r : Nat) (σ' : Mem) (h : sp_X1_place n σ o0 a1 = some (r, σ')) : MM yX1_place wu_X1_place rm_X1_place [.ref (G.2.2 (o0)), .int (a1)] G σ (.inl (some (.ref (G.2.2 r)))) σ' := by
  refine mm_of (cc := cX1_place) (maxL := 2) (ret := (some (.object "MineHoist$Level"))) (by decide +kernel) rfl (Nat.le_of_ble_eq_true rfl) (fun x C X hg => ?_)
  have C : Cx x cX1_place 2 RX1 (some (.object "MineHoist$Level")) [] wu_X1_place rm_X1_place G.1 (tysF G) := C
  unfold sp_X1_place at h
  show J x [(0, .ref (G.2.2 (o0))), (1, .int (a1))] [] σ 0 0 0
  refine j_iload_n C dX1_place_0 1 rfl ?_
  refine j_if_lt C dX1_place_1 22 (by decide) (fun c1 => ?_) (fun c1 => ?_)
  · have h := (if_pos c1).symm.trans h
    refine j_aload_n C dX1_place_22 0 rfl ?_
    refine j_get C X dX1_place_23 ho0 rfl rfl 0 (by decide) (fin := true) rfl rfl in_X1 (mU u_81) ?_
    exact j_areturn C (Or.inl ⟨_, rfl⟩) dX1_place_26 (e_r h hg) (by decide) (by decide)
  · have h := (if_neg c1).symm.trans h
    refine j_iload_n C dX1_place_4 1 rfl ?_
    refine j_aload_n C dX1_place_5 0 rfl ?_
    refine j_get C X dX1_place_6 ho0 rfl rfl 1 (by decide) (fin := true) rfl rfl in_X1 (mU u_53) ?_
    refine j_alen C X dX1_place_9 (sh_1_1 ho0) 0 rfl rfl 7 rfl ?_
    refine j_icmp_ge C dX1_place_10 22 (by decide) (fun c2 => ?_) (fun c2 => ?_)
    · have h := (if_pos c2).symm.trans h
      refine j_aload_n C dX1_place_22 0 rfl ?_
      refine j_get C X dX1_place_23 ho0 rfl rfl 0 (by decide) (fin := true) rfl rfl in_X1 (mU u_81) ?_
      exact j_areturn C (Or.inl ⟨_, rfl⟩) dX1_place_26 (e_r h hg) (by decide) (by decide)
    · have h := (if_neg c2).symm.trans h
      refine j_aload_n C dX1_place_13 0 rfl ?_
      refine j_get C X dX1_place_14 ho0 rfl rfl 1 (by decide) (fin := true) rfl rfl in_X1 (mU u_53) ?_
      refine j_iload_n C dX1_place_17 1 rfl ?_
      obtain ⟨⟨g3, g3k⟩, h⟩ := sg h
      refine j_aald C X dX1_place_18 (sh_1_1 ho0) 0 (n := 7) rfl rfl g3 ?_
      refine j_goto C dX1_place_19 26 (by decide) ?_
      exact j_areturn C (Or.inl ⟨_, rfl⟩) dX1_place_26 (e_r h hg) (by decide) (by decide)
def sp_X1_hasAlarm (n : Nat) (σ : Mem) (o0 : Nat) (o1 : Nat) : Option (Int32 × Mem) := ((sp_X0_share n σ o1).bind fun q => match q with | (r1, σ2) => if r1 < (σ2.1 o0 6) then some ((0 : Int32), σ2) else some ((1 : Int32), σ2))
abbrev rm_X1_hasAlarm : Room := ({ frames := 11, cells := 0, slots := 0, locals := 220 } : Room)
abbrev wu_X1_hasAlarm : List Cond := (Cond.code yX1_hasAlarm cX1_hasAlarm 2 (some .boolean)) :: wsU
theorem hy_X1_hasAlarm : hyOk yX1_hasAlarm 1 := by decide +kernel
set_option maxRecDepth 20000 in
set_option maxHeartbeats 4000000 in
theorem c_X1_hasAlarm (n : Nat) (G : Gt) (σ : Mem) (o0 : Nat) (o1 : Nat) (ho0 : Ok o0 1) (ho1 : Ok o1 0) (r : Int32) (σ' : Mem) (h : sp_X1_hasAlarm n σ o0 o1 = some (r, σ')) : MM yX1_hasAlarm wu_X1_hasAlarm rm_X1_hasAlarm [.ref (G.2.2 (o0)), .ref (G.2.2 (o1))] G σ (.inl (some (.int r))) σ' := by
  refine mm_of (cc := cX1_hasAlarm) (maxL := 2) (ret := (some .boolean)) (by decide +kernel) rfl (Nat.le_of_ble_eq_true rfl) (fun x C X hg => ?_)
  have C : Cx x cX1_hasAlarm 2 RX1 (some .boolean) [] wu_X1_hasAlarm rm_X1_hasAlarm G.1 (tysF G) := C
  unfold sp_X1_hasAlarm at h
  show J x [(0, .ref (G.2.2 (o0))), (1, .ref (G.2.2 (o1)))] [] σ 0 0 0
  refine j_aload_n C dX1_hasAlarm_0 1 rfl ?_
  obtain ⟨⟨r1, σ2⟩, h3, h⟩ := ob h
  try dsimp only at h
  refine j_callV C X (c_X0_share n G σ o1 ho1 _ _ h3) dX1_hasAlarm_1 (gV u_82 u_84 u_85 u_77 u_83) rfl hy_X0_share rfl ho1 rfl (ci := 4) rfl rfl rfl (by decide) (Nat.le_of_ble_eq_true rfl) (by decide) ?_
  refine j_aload_n C dX1_hasAlarm_4 0 rfl ?_
  refine j_get C X dX1_hasAlarm_5 ho0 rfl rfl 6 (by decide) (fin := false) rfl rfl in_X1 (mU u_66) ?_
  refine j_icmp_lt C dX1_hasAlarm_8 15 (by decide) (fun c4 => ?_) (fun c4 => ?_)
  · have h := (if_pos c4).symm.trans h
    refine j_iconst C dX1_hasAlarm_15 ((0 : Int32)) (by decide) ?_
    exact j_zreturn C (by decide) dX1_hasAlarm_16 (e_i h hg) (by decide) (by decide)
  · have h := (if_neg c4).symm.trans h
    refine j_iconst C dX1_hasAlarm_11 ((1 : Int32)) (by decide) ?_
    refine j_goto C dX1_hasAlarm_12 16 (by decide) ?_
    exact j_zreturn C (by decide) dX1_hasAlarm_16 (e_i h hg) (by decide) (by decide)
def sp_X1_isShut (n : Nat) (σ : Mem) (o0 : Nat) (o1 : Nat) : Option (Int32 × Mem) := if (σ.1 o1 10) ≤ (σ.1 o0 8) then some ((0 : Int32), σ) else some ((1 : Int32), σ)
abbrev rm_X1_isShut : Room := ({ frames := 10, cells := 0, slots := 0, locals := 200 } : Room)
abbrev wu_X1_isShut : List Cond := (Cond.code yX1_isShut cX1_isShut 2 (some .boolean)) :: wsU
theorem hy_X1_isShut : hyOk yX1_isShut 1 := by decide +kernel
set_option maxRecDepth 20000 in
set_option maxHeartbeats 4000000 in
theorem c_X1_isShut (n : Nat) (G : Gt) (σ : Mem) (o0 : Nat) (o1 : Nat) (ho0 : Ok o0 1) (ho1 : Ok o1 0) (r : Int32) (σ' : Mem) (h : sp_X1_isShut n σ o0 o1 = some (r, σ')) : MM yX1_isShut wu_X1_isShut rm_X1_isShut [.ref (G.2.2 (o0)), .ref (G.2.2 (o1))] G σ (.inl (some (.int r))) σ' := by
  refine mm_of (cc := cX1_isShut) (maxL := 2) (ret := (some .boolean)) (by decide +kernel) rfl (Nat.le_of_ble_eq_true rfl) (fun x C X hg => ?_)
  have C : Cx x cX1_isShut 2 RX1 (some .boolean) [] wu_X1_isShut rm_X1_isShut G.1 (tysF G) := C
  unfold sp_X1_isShut at h
  show J x [(0, .ref (G.2.2 (o0))), (1, .ref (G.2.2 (o1)))] [] σ 0 0 0
  refine j_aload_n C dX1_isShut_0 0 rfl ?_
  refine j_get C X dX1_isShut_1 ho0 rfl rfl 8 (by decide) (fin := false) rfl rfl in_X1 (mU u_68) ?_
  refine j_aload_n C dX1_isShut_4 1 rfl ?_
  refine j_get C X dX1_isShut_5 ho1 rfl rfl 10 (by decide) (fin := false) rfl rfl in_X0 (mU u_86) ?_
  refine j_icmp_ge C dX1_isShut_8 15 (by decide) (fun c1 => ?_) (fun c1 => ?_)
  · have h := (if_pos c1).symm.trans h
    refine j_iconst C dX1_isShut_15 ((0 : Int32)) (by decide) ?_
    exact j_zreturn C (by decide) dX1_isShut_16 (e_i h hg) (by decide) (by decide)
  · have h := (if_neg c1).symm.trans h
    refine j_iconst C dX1_isShut_11 ((1 : Int32)) (by decide) ?_
    refine j_goto C dX1_isShut_12 16 (by decide) ?_
    exact j_zreturn C (by decide) dX1_isShut_16 (e_i h hg) (by decide) (by decide)
def sp_X1_isPending (n : Nat) (σ : Mem) (o0 : Nat) (a1 : Int32) : Option (Int32 × Mem) := ((sp_X4_holds n σ ((rf o0 2)) a1).bind fun q => match q with | (r1, σ2) => if r1 = 0 then ((sp_X3_isFor n σ2 ((rf o0 3)) a1).bind fun q => match q with | (r5, σ6) => if r5 = 0 then some ((0 : Int32), σ6) else some ((1 : Int32), σ6)) else some ((1 : Int32), σ2))
abbrev rm_X1_isPending : Room := ({ frames := 13, cells := 0, slots := 0, locals := 264 } : Room)
abbrev wu_X1_isPending : List Cond := (Cond.code yX1_isPending cX1_isPending 2 (some .boolean)) :: wsU
theorem hy_X1_isPending : hyOk yX1_isPending 1 := by decide +kernel
set_option maxRecDepth 20000 in
set_option maxHeartbeats 4000000 in
theorem c_X1_isPending (n : Nat) (G : Gt) (σ : Mem) (o0 : Nat) (a1 : Int32) (ho0 : Ok o0 1) (r : Int32) (σ' : Mem) (h : sp_X1_isPending n σ o0 a1 = some (r, σ')) : MM yX1_isPending wu_X1_isPending rm_X1_isPending [.ref (G.2.2 (o0)), .int (a1)] G σ (.inl (some (.int r))) σ' := by
  refine mm_of (cc := cX1_isPending) (maxL := 2) (ret := (some .boolean)) (by decide +kernel) rfl (Nat.le_of_ble_eq_true rfl) (fun x C X hg => ?_)
  have C : Cx x cX1_isPending 2 RX1 (some .boolean) [] wu_X1_isPending rm_X1_isPending G.1 (tysF G) := C
  unfold sp_X1_isPending at h
  show J x [(0, .ref (G.2.2 (o0))), (1, .int (a1))] [] σ 0 0 0
  refine j_aload_n C dX1_isPending_0 0 rfl ?_
  refine j_get C X dX1_isPending_1 ho0 rfl rfl 2 (by decide) (fin := true) rfl rfl in_X1 (mU u_54) ?_
  refine j_iload_n C dX1_isPending_4 1 rfl ?_
  obtain ⟨⟨r1, σ2⟩, h3, h⟩ := ob h
  try dsimp only at h
  refine j_callV C X (c_X4_holds n G σ ((rf o0 2)) a1 (sh_1_2 ho0) _ _ h3) dX1_isPending_5 (gV u_87 u_89 u_90 u_45 u_88) rfl hy_X4_holds rfl (sh_1_2 ho0) rfl (ci := 8) rfl rfl rfl (by decide) (Nat.le_of_ble_eq_true rfl) (by decide) ?_
  refine j_if_ne C dX1_isPending_8 22 (by decide) (fun c4 => ?_) (fun c4 => ?_)
  · have h := (if_neg c4).symm.trans h
    refine j_iconst C dX1_isPending_22 ((1 : Int32)) (by decide) ?_
    refine j_goto C dX1_isPending_23 27 (by decide) ?_
    exact j_zreturn C (by decide) dX1_isPending_27 (e_i h hg) (by decide) (by decide)
  · have h := (if_pos c4).symm.trans h
    refine j_aload_n C dX1_isPending_11 0 rfl ?_
    refine j_get C X dX1_isPending_12 ho0 rfl rfl 3 (by decide) (fin := true) rfl rfl in_X1 (mU u_59) ?_
    refine j_iload_n C dX1_isPending_15 1 rfl ?_
    obtain ⟨⟨r5, σ6⟩, h7, h⟩ := ob h
    try dsimp only at h
    refine j_callV C X (c_X3_isFor n G σ2 ((rf o0 3)) a1 (sh_1_3 ho0) _ _ h7) dX1_isPending_16 (gV u_91 u_93 u_94 u_25 u_92) rfl hy_X3_isFor rfl (sh_1_3 ho0) rfl (ci := 7) rfl rfl rfl (by decide) (Nat.le_of_ble_eq_true rfl) (by decide) ?_
    refine j_if_eq C dX1_isPending_19 26 (by decide) (fun c8 => ?_) (fun c8 => ?_)
    · have h := (if_pos c8).symm.trans h
      refine j_iconst C dX1_isPending_26 ((0 : Int32)) (by decide) ?_
      exact j_zreturn C (by decide) dX1_isPending_27 (e_i h hg) (by decide) (by decide)
    · have h := (if_neg c8).symm.trans h
      refine j_iconst C dX1_isPending_22 ((1 : Int32)) (by decide) ?_
      refine j_goto C dX1_isPending_23 27 (by decide) ?_
      exact j_zreturn C (by decide) dX1_isPending_27 (e_i h hg) (by decide) (by decide)
def lp_X1_allPeople_26 (n : Nat) (o0 : Nat) : Nat → Mem → Int32 → Int32 → Option (Int32 × Mem)
  | 0, _, _, _ => none
  | k + 1, σ, l1, l2 => if (σ.1 o0 4) < l2 then some (l1, σ) else ((sp_X1_place n σ o0 l2).bind fun q => match q with | (r3, σ4) => if Ok r3 0 then lp_X1_allPeople_26 n o0 k σ4 ((l1 + (σ4.1 r3 8))) ((l2 + (1 : Int32))) else none)
theorem lp_X1_allPeople_26_s (n : Nat) (o0 : Nat) (k : Nat) (σ : Mem) (l1 : Int32) (l2 : Int32) : lp_X1_allPeople_26 n o0 (k + 1) σ l1 l2 = (if (σ.1 o0 4) < l2 then some (l1, σ) else ((sp_X1_place n σ o0 l2).bind fun q => match q with | (r3, σ4) => if Ok r3 0 then lp_X1_allPeople_26 n o0 k σ4 ((l1 + (σ4.1 r3 8))) ((l2 + (1 : Int32))) else none)) := rfl
def sp_X1_allPeople (n : Nat) (σ : Mem) (o0 : Nat) : Option (Int32 × Mem) := if (σ.1 (rf o0 3) 0) = (111 : Int32) then lp_X1_allPeople_26 n o0 n σ ((0 : Int32)) ((0 : Int32)) else lp_X1_allPeople_26 n o0 n σ ((σ.1 (rf o0 3) 2)) ((0 : Int32))
abbrev rm_X1_allPeople : Room := ({ frames := 11, cells := 0, slots := 0, locals := 221 } : Room)
abbrev wu_X1_allPeople : List Cond := (Cond.code yX1_allPeople cX1_allPeople 3 (some .int)) :: wsU
theorem hy_X1_allPeople : hyOk yX1_allPeople 0 := by decide +kernel
set_option maxRecDepth 20000 in
set_option maxHeartbeats 4000000 in
theorem c_X1_allPeople (n : Nat) (G : Gt) (σ : Mem) (o0 : Nat) (ho0 : Ok o0 1) (r : Int32) (σ' : Mem) (h : sp_X1_allPeople n σ o0 = some (r, σ')) : MM yX1_allPeople wu_X1_allPeople rm_X1_allPeople [.ref (G.2.2 (o0))] G σ (.inl (some (.int r))) σ' := by
  refine mm_of (cc := cX1_allPeople) (maxL := 3) (ret := (some .int)) (by decide +kernel) rfl (Nat.le_of_ble_eq_true rfl) (fun x C X hg => ?_)
  have C : Cx x cX1_allPeople 3 RX1 (some .int) [] wu_X1_allPeople rm_X1_allPeople G.1 (tysF G) := C
  have LP26 : ∀ (k : Nat) (σ : Mem) (l1 : Int32) (l2 : Int32), lp_X1_allPeople_26 n o0 k σ l1 l2 = some (r, σ') → J x [(0, .ref (G.2.2 (o0))), (1, .int (l1)), (2, .int (l2))] [] σ 26 0 0 := by
    intro k
    induction k with
    | zero => intro σ l1 l2  h; cases h
    | succ k ih =>
    intro σ l1 l2  h
    rw [lp_X1_allPeople_26_s] at h
    refine j_iload_n C dX1_allPeople_26 2 rfl ?_
    refine j_aload_n C dX1_allPeople_27 0 rfl ?_
    refine j_get C X dX1_allPeople_28 ho0 rfl rfl 4 (by decide) (fin := false) rfl rfl in_X1 (mU u_64) ?_
    refine j_icmp_gt C dX1_allPeople_31 51 (by decide) (fun c2 => ?_) (fun c2 => ?_)
    · have h := (if_pos c2).symm.trans h
      refine j_iload_n C dX1_allPeople_51 1 rfl ?_
      exact j_ireturn C dX1_allPeople_52 (e_i h hg) (by decide) (by decide)
    · have h := (if_neg c2).symm.trans h
      refine j_iload_n C dX1_allPeople_34 1 rfl ?_
      refine j_aload_n C dX1_allPeople_35 0 rfl ?_
      refine j_iload_n C dX1_allPeople_36 2 rfl ?_
      obtain ⟨⟨r3, σ4⟩, h5, h⟩ := ob h
      try dsimp only at h
      obtain ⟨k6, h⟩ := sg h
      refine j_callV C X (c_X1_place n G σ o0 l2 ho0 _ _ h5) dX1_allPeople_37 (gV u_97 u_100 u_101 u_98 u_99) rfl hy_X1_place rfl ho0 rfl (ci := 5) rfl rfl rfl (by decide) (Nat.le_of_ble_eq_true rfl) (by decide) ?_
      refine j_get C X dX1_allPeople_40 k6 rfl rfl 8 (by decide) (fin := false) rfl rfl in_X0 (mU u_102) ?_
      refine j_iadd C dX1_allPeople_43 ?_
      refine j_istore_n C dX1_allPeople_44 (by decide) [(1, .int ((l1 + (σ4.1 r3 8)))), (0, .ref (G.2.2 (o0))), (2, .int (l2))] rfl ?_
      refine j_iinc C dX1_allPeople_45 2 rfl ((1 : Int32)) (by decide) (by decide) [(2, .int ((l2 + (1 : Int32)))), (1, .int ((l1 + (σ4.1 r3 8)))), (0, .ref (G.2.2 (o0)))] rfl ?_
      refine j_goto C dX1_allPeople_48 26 (by decide) ?_
      refine j_sub [2, 1, 0] [(0, .ref (G.2.2 (o0))), (1, .int ((l1 + (σ4.1 r3 8)))), (2, .int ((l2 + (1 : Int32))))] rfl ?_
      exact ih σ4 ((l1 + (σ4.1 r3 8))) ((l2 + (1 : Int32)))  h
  unfold sp_X1_allPeople at h
  show J x [(0, .ref (G.2.2 (o0)))] [] σ 0 0 0
  refine j_aload_n C dX1_allPeople_0 0 rfl ?_
  refine j_get C X dX1_allPeople_1 ho0 rfl rfl 3 (by decide) (fin := true) rfl rfl in_X1 (mU u_59) ?_
  refine j_get C X dX1_allPeople_4 (sh_1_3 ho0) rfl rfl 0 (by decide) (fin := false) rfl rfl in_X3 (mU u_95) ?_
  refine j_bipush C dX1_allPeople_7 ((111 : Int32)) (by decide) ?_
  refine j_icmp_ne C dX1_allPeople_9 16 (by decide) (fun c1 => ?_) (fun c1 => ?_)
  · have h := (if_neg c1).symm.trans h
    refine j_aload_n C dX1_allPeople_16 0 rfl ?_
    refine j_get C X dX1_allPeople_17 ho0 rfl rfl 3 (by decide) (fin := true) rfl rfl in_X1 (mU u_59) ?_
    refine j_get C X dX1_allPeople_20 (sh_1_3 ho0) rfl rfl 2 (by decide) (fin := false) rfl rfl in_X3 (mU u_96) ?_
    refine j_istore_n C dX1_allPeople_23 (by decide) [(1, .int ((σ.1 (rf o0 3) 2))), (0, .ref (G.2.2 (o0)))] rfl ?_
    refine j_iconst C dX1_allPeople_24 ((0 : Int32)) (by decide) ?_
    refine j_istore_n C dX1_allPeople_25 (by decide) [(2, .int ((0 : Int32))), (1, .int ((σ.1 (rf o0 3) 2))), (0, .ref (G.2.2 (o0)))] rfl ?_
    refine j_sub [2, 1, 0] [(0, .ref (G.2.2 (o0))), (1, .int ((σ.1 (rf o0 3) 2))), (2, .int ((0 : Int32)))] rfl ?_
    exact LP26 n σ ((σ.1 (rf o0 3) 2)) ((0 : Int32))  h
  · have h := (if_pos c1).symm.trans h
    refine j_iconst C dX1_allPeople_12 ((0 : Int32)) (by decide) ?_
    refine j_goto C dX1_allPeople_13 23 (by decide) ?_
    refine j_istore_n C dX1_allPeople_23 (by decide) [(1, .int ((0 : Int32))), (0, .ref (G.2.2 (o0)))] rfl ?_
    refine j_iconst C dX1_allPeople_24 ((0 : Int32)) (by decide) ?_
    refine j_istore_n C dX1_allPeople_25 (by decide) [(2, .int ((0 : Int32))), (1, .int ((0 : Int32))), (0, .ref (G.2.2 (o0)))] rfl ?_
    refine j_sub [2, 1, 0] [(0, .ref (G.2.2 (o0))), (1, .int ((0 : Int32))), (2, .int ((0 : Int32)))] rfl ?_
    exact LP26 n σ ((0 : Int32)) ((0 : Int32))  h
def lp_X1_openWidths_4 (n : Nat) (o0 : Nat) : Nat → Mem → Int32 → Int32 → Option (Int32 × Mem)
  | 0, _, _, _ => none
  | k + 1, σ, l1, l2 => if (σ.1 o0 4) < l2 then some (l1, σ) else ((sp_X1_place n σ o0 l2).bind fun q => match q with | (r2, σ3) => if Ok r2 0 then ((sp_X0_openWidth n σ3 r2).bind fun q => match q with | (r6, σ7) => lp_X1_openWidths_4 n o0 k σ7 ((l1 + r6)) ((l2 + (1 : Int32)))) else none)
theorem lp_X1_openWidths_4_s (n : Nat) (o0 : Nat) (k : Nat) (σ : Mem) (l1 : Int32) (l2 : Int32) : lp_X1_openWidths_4 n o0 (k + 1) σ l1 l2 = (if (σ.1 o0 4) < l2 then some (l1, σ) else ((sp_X1_place n σ o0 l2).bind fun q => match q with | (r2, σ3) => if Ok r2 0 then ((sp_X0_openWidth n σ3 r2).bind fun q => match q with | (r6, σ7) => lp_X1_openWidths_4 n o0 k σ7 ((l1 + r6)) ((l2 + (1 : Int32)))) else none)) := rfl
def sp_X1_openWidths (n : Nat) (σ : Mem) (o0 : Nat) : Option (Int32 × Mem) := lp_X1_openWidths_4 n o0 n σ ((0 : Int32)) ((1 : Int32))
abbrev rm_X1_openWidths : Room := ({ frames := 11, cells := 0, slots := 0, locals := 221 } : Room)
abbrev wu_X1_openWidths : List Cond := (Cond.code yX1_openWidths cX1_openWidths 3 (some .int)) :: wsU
theorem hy_X1_openWidths : hyOk yX1_openWidths 0 := by decide +kernel
set_option maxRecDepth 20000 in
set_option maxHeartbeats 4000000 in
theorem c_X1_openWidths (n : Nat) (G : Gt) (σ : Mem) (o0 : Nat) (ho0 : Ok o0 1) (r : Int32) (σ' : Mem) (h : sp_X1_openWidths n σ o0 = some (r, σ')) : MM yX1_openWidths wu_X1_openWidths rm_X1_openWidths [.ref (G.2.2 (o0))] G σ (.inl (some (.int r))) σ' := by
  refine mm_of (cc := cX1_openWidths) (maxL := 3) (ret := (some .int)) (by decide +kernel) rfl (Nat.le_of_ble_eq_true rfl) (fun x C X hg => ?_)
  have C : Cx x cX1_openWidths 3 RX1 (some .int) [] wu_X1_openWidths rm_X1_openWidths G.1 (tysF G) := C
  have LP4 : ∀ (k : Nat) (σ : Mem) (l1 : Int32) (l2 : Int32), lp_X1_openWidths_4 n o0 k σ l1 l2 = some (r, σ') → J x [(0, .ref (G.2.2 (o0))), (1, .int (l1)), (2, .int (l2))] [] σ 4 0 0 := by
    intro k
    induction k with
    | zero => intro σ l1 l2  h; cases h
    | succ k ih =>
    intro σ l1 l2  h
    rw [lp_X1_openWidths_4_s] at h
    refine j_iload_n C dX1_openWidths_4 2 rfl ?_
    refine j_aload_n C dX1_openWidths_5 0 rfl ?_
    refine j_get C X dX1_openWidths_6 ho0 rfl rfl 4 (by decide) (fin := false) rfl rfl in_X1 (mU u_64) ?_
    refine j_icmp_gt C dX1_openWidths_9 29 (by decide) (fun c1 => ?_) (fun c1 => ?_)
    · have h := (if_pos c1).symm.trans h
      refine j_iload_n C dX1_openWidths_29 1 rfl ?_
      exact j_ireturn C dX1_openWidths_30 (e_i h hg) (by decide) (by decide)
    · have h := (if_neg c1).symm.trans h
      refine j_iload_n C dX1_openWidths_12 1 rfl ?_
      refine j_aload_n C dX1_openWidths_13 0 rfl ?_
      refine j_iload_n C dX1_openWidths_14 2 rfl ?_
      obtain ⟨⟨r2, σ3⟩, h4, h⟩ := ob h
      try dsimp only at h
      obtain ⟨k5, h⟩ := sg h
      refine j_callV C X (c_X1_place n G σ o0 l2 ho0 _ _ h4) dX1_openWidths_15 (gV u_97 u_100 u_101 u_98 u_99) rfl hy_X1_place rfl ho0 rfl (ci := 5) rfl rfl rfl (by decide) (Nat.le_of_ble_eq_true rfl) (by decide) ?_
      obtain ⟨⟨r6, σ7⟩, h8, h⟩ := ob h
      try dsimp only at h
      refine j_callV C X (c_X0_openWidth n G σ3 r2 k5 _ _ h8) dX1_openWidths_18 (gV u_103 u_105 u_106 u_77 u_104) rfl hy_X0_openWidth rfl k5 rfl (ci := 4) rfl rfl rfl (by decide) (Nat.le_of_ble_eq_true rfl) (by decide) ?_
      refine j_iadd C dX1_openWidths_21 ?_
      refine j_istore_n C dX1_openWidths_22 (by decide) [(1, .int ((l1 + r6))), (0, .ref (G.2.2 (o0))), (2, .int (l2))] rfl ?_
      refine j_iinc C dX1_openWidths_23 2 rfl ((1 : Int32)) (by decide) (by decide) [(2, .int ((l2 + (1 : Int32)))), (1, .int ((l1 + r6))), (0, .ref (G.2.2 (o0)))] rfl ?_
      refine j_goto C dX1_openWidths_26 4 (by decide) ?_
      refine j_sub [2, 1, 0] [(0, .ref (G.2.2 (o0))), (1, .int ((l1 + r6))), (2, .int ((l2 + (1 : Int32))))] rfl ?_
      exact ih σ7 ((l1 + r6)) ((l2 + (1 : Int32)))  h
  unfold sp_X1_openWidths at h
  show J x [(0, .ref (G.2.2 (o0)))] [] σ 0 0 0
  refine j_iconst C dX1_openWidths_0 ((0 : Int32)) (by decide) ?_
  refine j_istore_n C dX1_openWidths_1 (by decide) [(1, .int ((0 : Int32))), (0, .ref (G.2.2 (o0)))] rfl ?_
  refine j_iconst C dX1_openWidths_2 ((1 : Int32)) (by decide) ?_
  refine j_istore_n C dX1_openWidths_3 (by decide) [(2, .int ((1 : Int32))), (1, .int ((0 : Int32))), (0, .ref (G.2.2 (o0)))] rfl ?_
  refine j_sub [2, 1, 0] [(0, .ref (G.2.2 (o0))), (1, .int ((0 : Int32))), (2, .int ((1 : Int32)))] rfl ?_
  exact LP4 n σ ((0 : Int32)) ((1 : Int32))  h
def sp_X1_intoGallery (n : Nat) (σ : Mem) (a0 : Int32) (a1 : Int32) (a2 : Int32) : Option (Int32 × Mem) := if a2 ≤ 0 then some ((0 : Int32), σ) else if ¬ a2 = 0 then some (((a0 * a1) / a2), σ) else none
abbrev rm_X1_intoGallery : Room := ({ frames := 10, cells := 0, slots := 0, locals := 200 } : Room)
abbrev wu_X1_intoGallery : List Cond := (Cond.code yX1_intoGallery cX1_intoGallery 3 (some .int)) :: wsU
theorem hy_X1_intoGallery : hyOk yX1_intoGallery 3 := by decide +kernel
set_option maxRecDepth 20000 in
set_option maxHeartbeats 4000000 in
theorem c_X1_intoGallery (n : Nat) (G : Gt) (σ : Mem) (a0 : Int32) (a1 : Int32) (a2 : Int32)  (r : Int32) (σ' : Mem) (h : sp_X1_intoGallery n σ a0 a1 a2 = some (r, σ')) : MM yX1_intoGallery wu_X1_intoGallery rm_X1_intoGallery [.int (a0), .int (a1), .int (a2)] G σ (.inl (some (.int r))) σ' := by
  refine mm_of (cc := cX1_intoGallery) (maxL := 3) (ret := (some .int)) (by decide +kernel) rfl (Nat.le_of_ble_eq_true rfl) (fun x C X hg => ?_)
  have C : Cx x cX1_intoGallery 3 RX1 (some .int) [] wu_X1_intoGallery rm_X1_intoGallery G.1 (tysF G) := C
  unfold sp_X1_intoGallery at h
  show J x [(0, .int (a0)), (1, .int (a1)), (2, .int (a2))] [] σ 0 0 0
  refine j_iload_n C dX1_intoGallery_0 2 rfl ?_
  refine j_if_le C dX1_intoGallery_1 12 (by decide) (fun c1 => ?_) (fun c1 => ?_)
  · have h := (if_pos c1).symm.trans h
    refine j_iconst C dX1_intoGallery_12 ((0 : Int32)) (by decide) ?_
    exact j_ireturn C dX1_intoGallery_13 (e_i h hg) (by decide) (by decide)
  · have h := (if_neg c1).symm.trans h
    refine j_iload_n C dX1_intoGallery_4 0 rfl ?_
    refine j_iload_n C dX1_intoGallery_5 1 rfl ?_
    refine j_imul C dX1_intoGallery_6 ?_
    refine j_iload_n C dX1_intoGallery_7 2 rfl ?_
    obtain ⟨g2, h⟩ := sg h
    refine j_idiv C dX1_intoGallery_8 g2 ?_
    refine j_goto C dX1_intoGallery_9 13 (by decide) ?_
    exact j_ireturn C dX1_intoGallery_13 (e_i h hg) (by decide) (by decide)
def lp_X1_spreadAir_12 (n : Nat) (o0 : Nat) : Nat → Mem → Int32 → Int32 → Int32 → Option (Unit × Mem)
  | 0, _, _, _, _ => none
  | k + 1, σ, l1, l2, l3 => if (σ.1 o0 4) < l3 then some ((), σ) else ((sp_X1_place n σ o0 l3).bind fun q => match q with | (r5, σ6) => if Ok r5 0 then ((sp_X0_openWidth n σ6 r5).bind fun q => match q with | (r9, σ10) => ((sp_X1_intoGallery n σ10 l1 r9 l2).bind fun q => match q with | (r12, σ13) => (lm (wi σ13 r5 5 r12) fun σ15 => ((sp_X0_openWidth n σ15 r5).bind fun q => match q with | (r17, σ18) => lp_X1_spreadAir_12 n o0 k σ18 ((l1 - (σ15.1 r5 5))) ((l2 - r17)) ((l3 + (1 : Int32))))))) else none)
theorem lp_X1_spreadAir_12_s (n : Nat) (o0 : Nat) (k : Nat) (σ : Mem) (l1 : Int32) (l2 : Int32) (l3 : Int32) : lp_X1_spreadAir_12 n o0 (k + 1) σ l1 l2 l3 = (if (σ.1 o0 4) < l3 then some ((), σ) else ((sp_X1_place n σ o0 l3).bind fun q => match q with | (r5, σ6) => if Ok r5 0 then ((sp_X0_openWidth n σ6 r5).bind fun q => match q with | (r9, σ10) => ((sp_X1_intoGallery n σ10 l1 r9 l2).bind fun q => match q with | (r12, σ13) => (lm (wi σ13 r5 5 r12) fun σ15 => ((sp_X0_openWidth n σ15 r5).bind fun q => match q with | (r17, σ18) => lp_X1_spreadAir_12 n o0 k σ18 ((l1 - (σ15.1 r5 5))) ((l2 - r17)) ((l3 + (1 : Int32))))))) else none)) := rfl
def sp_X1_spreadAir (n : Nat) (σ : Mem) (o0 : Nat) : Option (Unit × Mem) := ((sp_X1_openWidths n σ o0).bind fun q => match q with | (r1, σ2) => lp_X1_spreadAir_12 n o0 n σ2 ((σ.1 o0 5)) r1 ((1 : Int32)))
abbrev rm_X1_spreadAir : Room := ({ frames := 12, cells := 0, slots := 0, locals := 243 } : Room)
abbrev wu_X1_spreadAir : List Cond := (Cond.code yX1_spreadAir cX1_spreadAir 5 none) :: wsU
theorem hy_X1_spreadAir : hyOk yX1_spreadAir 0 := by decide +kernel
set_option maxRecDepth 20000 in
set_option maxHeartbeats 4000000 in
theorem c_X1_spreadAir (n : Nat) (G : Gt) (σ : Mem) (o0 : Nat) (ho0 : Ok o0 1) (r : Unit) (σ' : Mem) (h : sp_X1_spreadAir n σ o0 = some (r, σ')) : MM yX1_spreadAir wu_X1_spreadAir rm_X1_spreadAir [.ref (G.2.2 (o0))] G σ (.inl none) σ' := by
  refine mm_of (cc := cX1_spreadAir) (maxL := 5) (ret := none) (by decide +kernel) rfl (Nat.le_of_ble_eq_true rfl) (fun x C X hg => ?_)
  have C : Cx x cX1_spreadAir 5 RX1 none [] wu_X1_spreadAir rm_X1_spreadAir G.1 (tysF G) := C
  have LP12 : ∀ (k : Nat) (σ : Mem) (l1 : Int32) (l2 : Int32) (l3 : Int32), lp_X1_spreadAir_12 n o0 k σ l1 l2 l3 = some (r, σ') → J x [(0, .ref (G.2.2 (o0))), (1, .int (l1)), (2, .int (l2)), (3, .int (l3))] [] σ 12 0 0 := by
    intro k
    induction k with
    | zero => intro σ l1 l2 l3  h; cases h
    | succ k ih =>
    intro σ l1 l2 l3  h
    rw [lp_X1_spreadAir_12_s] at h
    refine j_iload_n C dX1_spreadAir_12 3 rfl ?_
    refine j_aload_n C dX1_spreadAir_13 0 rfl ?_
    refine j_get C X dX1_spreadAir_14 ho0 rfl rfl 4 (by decide) (fin := false) rfl rfl in_X1 (mU u_64) ?_
    refine j_icmp_gt C dX1_spreadAir_17 64 (by decide) (fun c4 => ?_) (fun c4 => ?_)
    · have h := (if_pos c4).symm.trans h
      exact j_return C dX1_spreadAir_64 (e_v h hg) (by decide) (by decide)
    · have h := (if_neg c4).symm.trans h
      refine j_aload_n C dX1_spreadAir_20 0 rfl ?_
      refine j_iload_n C dX1_spreadAir_21 3 rfl ?_
      obtain ⟨⟨r5, σ6⟩, h7, h⟩ := ob h
      try dsimp only at h
      obtain ⟨k8, h⟩ := sg h
      refine j_callV C X (c_X1_place n G σ o0 l3 ho0 _ _ h7) dX1_spreadAir_22 (gV u_97 u_100 u_101 u_98 u_99) rfl hy_X1_place rfl ho0 rfl (ci := 5) rfl rfl rfl (by decide) (Nat.le_of_ble_eq_true rfl) (by decide) ?_
      refine j_astore C dX1_spreadAir_25 (by decide) [(4, .ref (G.2.2 (r5))), (0, .ref (G.2.2 (o0))), (1, .int (l1)), (2, .int (l2)), (3, .int (l3))] rfl ?_
      refine j_aload C dX1_spreadAir_27 0 rfl ?_
      refine j_iload_n C dX1_spreadAir_29 2 rfl ?_
      refine j_aload C dX1_spreadAir_30 0 rfl ?_
      obtain ⟨⟨r9, σ10⟩, h11, h⟩ := ob h
      try dsimp only at h
      refine j_callV C X (c_X0_openWidth n G σ6 r5 k8 _ _ h11) dX1_spreadAir_32 (gV u_103 u_105 u_106 u_77 u_104) rfl hy_X0_openWidth rfl k8 rfl (ci := 4) rfl rfl rfl (by decide) (Nat.le_of_ble_eq_true rfl) (by decide) ?_
      refine j_iload_n C dX1_spreadAir_35 3 rfl ?_
      obtain ⟨⟨r12, σ13⟩, h14, h⟩ := ob h
      try dsimp only at h
      refine j_callS C X (c_X1_intoGallery n G σ10 l1 r9 l2  _ _ h14) dX1_spreadAir_36 (gS u_111 u_113 u_98 u_112) rfl hy_X1_intoGallery rfl rfl (by decide) (Nat.le_of_ble_eq_true rfl) (by decide) ?_
      obtain ⟨σ15, e16, h⟩ := lm_e h
      refine j_put C X dX1_spreadAir_39 k8 (ty0 := tyX0) rfl rfl 5 (by decide) rfl rfl (Nat.le_of_ble_eq_true rfl) tyX0_ok nmX0 (ty := .int) rfl rfl rfl in_X0 (mU u_114) e16 ?_
      refine j_iload_n C dX1_spreadAir_42 2 rfl ?_
      refine j_aload C dX1_spreadAir_43 0 rfl ?_
      refine j_get C X dX1_spreadAir_45 k8 rfl rfl 5 (by decide) (fin := false) rfl rfl in_X0 (mU u_114) ?_
      refine j_isub C dX1_spreadAir_48 ?_
      refine j_istore_n C dX1_spreadAir_49 (by decide) [(1, .int ((l1 - (σ15.1 r5 5)))), (4, .ref (G.2.2 (r5))), (0, .ref (G.2.2 (o0))), (2, .int (l2)), (3, .int (l3))] rfl ?_
      refine j_iload_n C dX1_spreadAir_50 3 rfl ?_
      refine j_aload C dX1_spreadAir_51 1 rfl ?_
      obtain ⟨⟨r17, σ18⟩, h19, h⟩ := ob h
      try dsimp only at h
      refine j_callV C X (c_X0_openWidth n G σ15 r5 k8 _ _ h19) dX1_spreadAir_53 (gV u_103 u_105 u_106 u_77 u_104) rfl hy_X0_openWidth rfl k8 rfl (ci := 4) rfl rfl rfl (by decide) (Nat.le_of_ble_eq_true rfl) (by decide) ?_
      refine j_isub C dX1_spreadAir_56 ?_
      refine j_istore_n C dX1_spreadAir_57 (by decide) [(2, .int ((l2 - r17))), (1, .int ((l1 - (σ15.1 r5 5)))), (4, .ref (G.2.2 (r5))), (0, .ref (G.2.2 (o0))), (3, .int (l3))] rfl ?_
      refine j_iinc C dX1_spreadAir_58 4 rfl ((1 : Int32)) (by decide) (by decide) [(3, .int ((l3 + (1 : Int32)))), (2, .int ((l2 - r17))), (1, .int ((l1 - (σ15.1 r5 5)))), (4, .ref (G.2.2 (r5))), (0, .ref (G.2.2 (o0)))] rfl ?_
      refine j_goto C dX1_spreadAir_61 12 (by decide) ?_
      refine j_sub [4, 2, 1, 0] [(0, .ref (G.2.2 (o0))), (1, .int ((l1 - (σ15.1 r5 5)))), (2, .int ((l2 - r17))), (3, .int ((l3 + (1 : Int32))))] rfl ?_
      exact ih σ18 ((l1 - (σ15.1 r5 5))) ((l2 - r17)) ((l3 + (1 : Int32)))  h
  unfold sp_X1_spreadAir at h
  show J x [(0, .ref (G.2.2 (o0)))] [] σ 0 0 0
  refine j_aload_n C dX1_spreadAir_0 0 rfl ?_
  refine j_get C X dX1_spreadAir_1 ho0 rfl rfl 5 (by decide) (fin := false) rfl rfl in_X1 (mU u_65) ?_
  refine j_istore_n C dX1_spreadAir_4 (by decide) [(1, .int ((σ.1 o0 5))), (0, .ref (G.2.2 (o0)))] rfl ?_
  refine j_aload_n C dX1_spreadAir_5 1 rfl ?_
  obtain ⟨⟨r1, σ2⟩, h3, h⟩ := ob h
  try dsimp only at h
  refine j_callV C X (c_X1_openWidths n G σ o0 ho0 _ _ h3) dX1_spreadAir_6 (gV u_107 u_109 u_110 u_98 u_108) rfl hy_X1_openWidths rfl ho0 rfl (ci := 5) rfl rfl rfl (by decide) (Nat.le_of_ble_eq_true rfl) (by decide) ?_
  refine j_istore_n C dX1_spreadAir_9 (by decide) [(2, .int (r1)), (1, .int ((σ.1 o0 5))), (0, .ref (G.2.2 (o0)))] rfl ?_
  refine j_iconst C dX1_spreadAir_10 ((1 : Int32)) (by decide) ?_
  refine j_istore_n C dX1_spreadAir_11 (by decide) [(3, .int ((1 : Int32))), (2, .int (r1)), (1, .int ((σ.1 o0 5))), (0, .ref (G.2.2 (o0)))] rfl ?_
  refine j_sub [3, 2, 1, 0] [(0, .ref (G.2.2 (o0))), (1, .int ((σ.1 o0 5))), (2, .int (r1)), (3, .int ((1 : Int32)))] rfl ?_
  exact LP12 n σ2 ((σ.1 o0 5)) r1 ((1 : Int32))  h
def lp_X1_galleryOf_8 (n : Nat) (o0 : Nat) (a1 : Int32) (a2 : Int32) : Nat → Mem → Int32 → Int32 → Int32 → Int32 → Int32 → Option (Int32 × Mem)
  | 0, _, _, _, _, _, _ => none
  | k + 1, σ, l1, l2, l3, l4, l5 => if (σ.1 o0 4) < l5 then some ((0 : Int32), σ) else ((sp_X1_place n σ o0 l5).bind fun q => match q with | (r2, σ3) => if Ok r2 0 then ((sp_X0_openWidth n σ3 r2).bind fun q => match q with | (r6, σ7) => ((sp_X1_intoGallery n σ7 l3 r6 l4).bind fun q => match q with | (r9, σ10) => ((sp_X1_intoGallery n σ10 ((l3 - (1 : Int32))) r6 l4).bind fun q => match q with | (r12, σ13) => if r9 = r12 then lp_X1_galleryOf_8 n o0 a1 a2 k σ13 l1 l2 ((l3 - r9)) ((l4 - r6)) ((l5 + (1 : Int32))) else some (l5, σ13)))) else none)
theorem lp_X1_galleryOf_8_s (n : Nat) (o0 : Nat) (a1 : Int32) (a2 : Int32) (k : Nat) (σ : Mem) (l1 : Int32) (l2 : Int32) (l3 : Int32) (l4 : Int32) (l5 : Int32) : lp_X1_galleryOf_8 n o0 a1 a2 (k + 1) σ l1 l2 l3 l4 l5 = (if (σ.1 o0 4) < l5 then some ((0 : Int32), σ) else ((sp_X1_place n σ o0 l5).bind fun q => match q with | (r2, σ3) => if Ok r2 0 then ((sp_X0_openWidth n σ3 r2).bind fun q => match q with | (r6, σ7) => ((sp_X1_intoGallery n σ7 l3 r6 l4).bind fun q => match q with | (r9, σ10) => ((sp_X1_intoGallery n σ10 ((l3 - (1 : Int32))) r6 l4).bind fun q => match q with | (r12, σ13) => if r9 = r12 then lp_X1_galleryOf_8 n o0 a1 a2 k σ13 l1 l2 ((l3 - r9)) ((l4 - r6)) ((l5 + (1 : Int32))) else some (l5, σ13)))) else none)) := rfl
def sp_X1_galleryOf (n : Nat) (σ : Mem) (o0 : Nat) (a1 : Int32) (a2 : Int32) : Option (Int32 × Mem) := lp_X1_galleryOf_8 n o0 a1 a2 n σ a1 a2 a1 a2 ((1 : Int32))
abbrev rm_X1_galleryOf : Room := ({ frames := 11, cells := 0, slots := 0, locals := 222 } : Room)
abbrev wu_X1_galleryOf : List Cond := (Cond.code yX1_galleryOf cX1_galleryOf 8 (some .int)) :: wsU
theorem hy_X1_galleryOf : hyOk yX1_galleryOf 2 := by decide +kernel
set_option maxRecDepth 20000 in
set_option maxHeartbeats 4000000 in
theorem c_X1_galleryOf (n : Nat) (G : Gt) (σ : Mem) (o0 : Nat) (a1 : Int32) (a2 : Int32) (ho0 : Ok o0 1) (r : Int32) (σ' : Mem) (h : sp_X1_galleryOf n σ o0 a1 a2 = some (r, σ')) : MM yX1_galleryOf wu_X1_galleryOf rm_X1_galleryOf [.ref (G.2.2 (o0)), .int (a1), .int (a2)] G σ (.inl (some (.int r))) σ' := by
  refine mm_of (cc := cX1_galleryOf) (maxL := 8) (ret := (some .int)) (by decide +kernel) rfl (Nat.le_of_ble_eq_true rfl) (fun x C X hg => ?_)
  have C : Cx x cX1_galleryOf 8 RX1 (some .int) [] wu_X1_galleryOf rm_X1_galleryOf G.1 (tysF G) := C
  have LP8 : ∀ (k : Nat) (σ : Mem) (l1 : Int32) (l2 : Int32) (l3 : Int32) (l4 : Int32) (l5 : Int32), lp_X1_galleryOf_8 n o0 a1 a2 k σ l1 l2 l3 l4 l5 = some (r, σ') → J x [(0, .ref (G.2.2 (o0))), (1, .int (l1)), (2, .int (l2)), (3, .int (l3)), (4, .int (l4)), (5, .int (l5))] [] σ 8 0 0 := by
    intro k
    induction k with
    | zero => intro σ l1 l2 l3 l4 l5  h; cases h
    | succ k ih =>
    intro σ l1 l2 l3 l4 l5  h
    rw [lp_X1_galleryOf_8_s] at h
    refine j_iload C dX1_galleryOf_8 5 rfl ?_
    refine j_aload_n C dX1_galleryOf_10 0 rfl ?_
    refine j_get C X dX1_galleryOf_11 ho0 rfl rfl 4 (by decide) (fin := false) rfl rfl in_X1 (mU u_64) ?_
    refine j_icmp_gt C dX1_galleryOf_14 74 (by decide) (fun c1 => ?_) (fun c1 => ?_)
    · have h := (if_pos c1).symm.trans h
      refine j_iconst C dX1_galleryOf_74 ((0 : Int32)) (by decide) ?_
      exact j_ireturn C dX1_galleryOf_75 (e_i h hg) (by decide) (by decide)
    · have h := (if_neg c1).symm.trans h
      refine j_aload_n C dX1_galleryOf_17 0 rfl ?_
      refine j_iload C dX1_galleryOf_18 5 rfl ?_
      obtain ⟨⟨r2, σ3⟩, h4, h⟩ := ob h
      try dsimp only at h
      obtain ⟨k5, h⟩ := sg h
      refine j_callV C X (c_X1_place n G σ o0 l5 ho0 _ _ h4) dX1_galleryOf_20 (gV u_97 u_100 u_101 u_98 u_99) rfl hy_X1_place rfl ho0 rfl (ci := 5) rfl rfl rfl (by decide) (Nat.le_of_ble_eq_true rfl) (by decide) ?_
      obtain ⟨⟨r6, σ7⟩, h8, h⟩ := ob h
      try dsimp only at h
      refine j_callV C X (c_X0_openWidth n G σ3 r2 k5 _ _ h8) dX1_galleryOf_23 (gV u_103 u_105 u_106 u_77 u_104) rfl hy_X0_openWidth rfl k5 rfl (ci := 4) rfl rfl rfl (by decide) (Nat.le_of_ble_eq_true rfl) (by decide) ?_
      refine j_istore C dX1_galleryOf_26 (by decide) [(6, .int (r6)), (0, .ref (G.2.2 (o0))), (1, .int (l1)), (2, .int (l2)), (3, .int (l3)), (4, .int (l4)), (5, .int (l5))] rfl ?_
      refine j_iload_n C dX1_galleryOf_28 4 rfl ?_
      refine j_iload C dX1_galleryOf_29 0 rfl ?_
      refine j_iload C dX1_galleryOf_31 5 rfl ?_
      obtain ⟨⟨r9, σ10⟩, h11, h⟩ := ob h
      try dsimp only at h
      refine j_callS C X (c_X1_intoGallery n G σ7 l3 r6 l4  _ _ h11) dX1_galleryOf_33 (gS u_111 u_113 u_98 u_112) rfl hy_X1_intoGallery rfl rfl (by decide) (Nat.le_of_ble_eq_true rfl) (by decide) ?_
      refine j_istore C dX1_galleryOf_36 (by decide) [(7, .int (r9)), (6, .int (r6)), (0, .ref (G.2.2 (o0))), (1, .int (l1)), (2, .int (l2)), (3, .int (l3)), (4, .int (l4)), (5, .int (l5))] rfl ?_
      refine j_iload C dX1_galleryOf_38 0 rfl ?_
      refine j_iload_n C dX1_galleryOf_40 5 rfl ?_
      refine j_iconst C dX1_galleryOf_41 ((1 : Int32)) (by decide) ?_
      refine j_isub C dX1_galleryOf_42 ?_
      refine j_iload C dX1_galleryOf_43 1 rfl ?_
      refine j_iload C dX1_galleryOf_45 6 rfl ?_
      obtain ⟨⟨r12, σ13⟩, h14, h⟩ := ob h
      try dsimp only at h
      refine j_callS C X (c_X1_intoGallery n G σ10 ((l3 - (1 : Int32))) r6 l4  _ _ h14) dX1_galleryOf_47 (gS u_111 u_113 u_98 u_112) rfl hy_X1_intoGallery rfl rfl (by decide) (Nat.le_of_ble_eq_true rfl) (by decide) ?_
      refine j_icmp_eq C dX1_galleryOf_50 56 (by decide) (fun c15 => ?_) (fun c15 => ?_)
      · have h := (if_pos c15).symm.trans h
        refine j_iload_n C dX1_galleryOf_56 5 rfl ?_
        refine j_iload C dX1_galleryOf_57 0 rfl ?_
        refine j_isub C dX1_galleryOf_59 ?_
        refine j_istore_n C dX1_galleryOf_60 (by decide) [(3, .int ((l3 - r9))), (7, .int (r9)), (6, .int (r6)), (0, .ref (G.2.2 (o0))), (1, .int (l1)), (2, .int (l2)), (4, .int (l4)), (5, .int (l5))] rfl ?_
        refine j_iload C dX1_galleryOf_61 6 rfl ?_
        refine j_iload C dX1_galleryOf_63 2 rfl ?_
        refine j_isub C dX1_galleryOf_65 ?_
        refine j_istore C dX1_galleryOf_66 (by decide) [(4, .int ((l4 - r6))), (3, .int ((l3 - r9))), (7, .int (r9)), (6, .int (r6)), (0, .ref (G.2.2 (o0))), (1, .int (l1)), (2, .int (l2)), (5, .int (l5))] rfl ?_
        refine j_iinc C dX1_galleryOf_68 7 rfl ((1 : Int32)) (by decide) (by decide) [(5, .int ((l5 + (1 : Int32)))), (4, .int ((l4 - r6))), (3, .int ((l3 - r9))), (7, .int (r9)), (6, .int (r6)), (0, .ref (G.2.2 (o0))), (1, .int (l1)), (2, .int (l2))] rfl ?_
        refine j_goto C dX1_galleryOf_71 8 (by decide) ?_
        refine j_sub [5, 6, 7, 2, 1, 0] [(0, .ref (G.2.2 (o0))), (1, .int (l1)), (2, .int (l2)), (3, .int ((l3 - r9))), (4, .int ((l4 - r6))), (5, .int ((l5 + (1 : Int32))))] rfl ?_
        exact ih σ13 l1 l2 ((l3 - r9)) ((l4 - r6)) ((l5 + (1 : Int32)))  h
      · have h := (if_neg c15).symm.trans h
        refine j_iload C dX1_galleryOf_53 7 rfl ?_
        exact j_ireturn C dX1_galleryOf_55 (e_i h hg) (by decide) (by decide)
  unfold sp_X1_galleryOf at h
  show J x [(0, .ref (G.2.2 (o0))), (1, .int (a1)), (2, .int (a2))] [] σ 0 0 0
  refine j_iload_n C dX1_galleryOf_0 1 rfl ?_
  refine j_istore_n C dX1_galleryOf_1 (by decide) [(3, .int (a1)), (0, .ref (G.2.2 (o0))), (1, .int (a1)), (2, .int (a2))] rfl ?_
  refine j_iload_n C dX1_galleryOf_2 3 rfl ?_
  refine j_istore C dX1_galleryOf_3 (by decide) [(4, .int (a2)), (3, .int (a1)), (0, .ref (G.2.2 (o0))), (1, .int (a1)), (2, .int (a2))] rfl ?_
  refine j_iconst C dX1_galleryOf_5 ((1 : Int32)) (by decide) ?_
  refine j_istore C dX1_galleryOf_6 (by decide) [(5, .int ((1 : Int32))), (4, .int (a2)), (3, .int (a1)), (0, .ref (G.2.2 (o0))), (1, .int (a1)), (2, .int (a2))] rfl ?_
  refine j_sub [3, 4, 5, 2, 1, 0] [(0, .ref (G.2.2 (o0))), (1, .int (a1)), (2, .int (a2)), (3, .int (a1)), (4, .int (a2)), (5, .int ((1 : Int32)))] rfl ?_
  exact LP8 n σ a1 a2 a1 a2 ((1 : Int32))  h
def lp_X1_followAir_32 (n : Nat) (o0 : Nat) : Nat → Mem → Int32 → Int32 → Option (Unit × Mem)
  | 0, _, _, _ => none
  | k + 1, σ, l1, l2 => if (σ.1 o0 5) < l2 then some ((), σ) else ((sp_X1_galleryOf n σ o0 l2 l1).bind fun q => match q with | (r6, σ7) => ((sp_X1_place n σ7 o0 r6).bind fun q => match q with | (r9, σ10) => if Ok r9 0 then (lm (wi σ10 r9 6 ((σ10.1 r9 6) + (1 : Int32))) fun σ13 => lp_X1_followAir_32 n o0 k σ13 l1 ((l2 + (1 : Int32)))) else none))
theorem lp_X1_followAir_32_s (n : Nat) (o0 : Nat) (k : Nat) (σ : Mem) (l1 : Int32) (l2 : Int32) : lp_X1_followAir_32 n o0 (k + 1) σ l1 l2 = (if (σ.1 o0 5) < l2 then some ((), σ) else ((sp_X1_galleryOf n σ o0 l2 l1).bind fun q => match q with | (r6, σ7) => ((sp_X1_place n σ7 o0 r6).bind fun q => match q with | (r9, σ10) => if Ok r9 0 then (lm (wi σ10 r9 6 ((σ10.1 r9 6) + (1 : Int32))) fun σ13 => lp_X1_followAir_32 n o0 k σ13 l1 ((l2 + (1 : Int32)))) else none))) := rfl
def lp_X1_followAir_2 (n : Nat) (o0 : Nat) : Nat → Mem → Int32 → Option (Unit × Mem)
  | 0, _, _ => none
  | k + 1, σ, l1 => if (σ.1 o0 4) < l1 then ((sp_X1_openWidths n σ o0).bind fun q => match q with | (r2, σ3) => lp_X1_followAir_32 n o0 n σ3 r2 ((1 : Int32))) else ((sp_X1_place n σ o0 l1).bind fun q => match q with | (r15, σ16) => if Ok r15 0 then (lm (wi σ16 r15 6 (0 : Int32)) fun σ19 => lp_X1_followAir_2 n o0 k σ19 ((l1 + (1 : Int32)))) else none)
theorem lp_X1_followAir_2_s (n : Nat) (o0 : Nat) (k : Nat) (σ : Mem) (l1 : Int32) : lp_X1_followAir_2 n o0 (k + 1) σ l1 = (if (σ.1 o0 4) < l1 then ((sp_X1_openWidths n σ o0).bind fun q => match q with | (r2, σ3) => lp_X1_followAir_32 n o0 n σ3 r2 ((1 : Int32))) else ((sp_X1_place n σ o0 l1).bind fun q => match q with | (r15, σ16) => if Ok r15 0 then (lm (wi σ16 r15 6 (0 : Int32)) fun σ19 => lp_X1_followAir_2 n o0 k σ19 ((l1 + (1 : Int32)))) else none)) := rfl
def sp_X1_followAir (n : Nat) (σ : Mem) (o0 : Nat) : Option (Unit × Mem) := lp_X1_followAir_2 n o0 n σ ((0 : Int32))
abbrev rm_X1_followAir : Room := ({ frames := 12, cells := 0, slots := 0, locals := 249 } : Room)
abbrev wu_X1_followAir : List Cond := (Cond.code yX1_followAir cX1_followAir 3 none) :: wsU
theorem hy_X1_followAir : hyOk yX1_followAir 0 := by decide +kernel
set_option maxRecDepth 20000 in
set_option maxHeartbeats 4000000 in
theorem c_X1_followAir (n : Nat) (G : Gt) (σ : Mem) (o0 : Nat) (ho0 : Ok o0 1) (r : Unit) (σ' : Mem) (h : sp_X1_followAir n σ o0 = some (r, σ')) : MM yX1_followAir wu_X1_followAir rm_X1_followAir [.ref (G.2.2 (o0))] G σ (.inl none) σ' := by
  refine mm_of (cc := cX1_followAir) (maxL := 3) (ret := none) (by decide +kernel) rfl (Nat.le_of_ble_eq_true rfl) (fun x C X hg => ?_)
  have C : Cx x cX1_followAir 3 RX1 none [] wu_X1_followAir rm_X1_followAir G.1 (tysF G) := C
  have LP32 : ∀ (k : Nat) (σ : Mem) (l1 : Int32) (l2 : Int32), lp_X1_followAir_32 n o0 k σ l1 l2 = some (r, σ') → J x [(0, .ref (G.2.2 (o0))), (1, .int (l1)), (2, .int (l2))] [] σ 32 0 0 := by
    intro k
    induction k with
    | zero => intro σ l1 l2  h; cases h
    | succ k ih =>
    intro σ l1 l2  h
    rw [lp_X1_followAir_32_s] at h
    refine j_iload_n C dX1_followAir_32 2 rfl ?_
    refine j_aload_n C dX1_followAir_33 0 rfl ?_
    refine j_get C X dX1_followAir_34 ho0 rfl rfl 5 (by decide) (fin := false) rfl rfl in_X1 (mU u_65) ?_
    refine j_icmp_gt C dX1_followAir_37 65 (by decide) (fun c5 => ?_) (fun c5 => ?_)
    · have h := (if_pos c5).symm.trans h
      exact j_return C dX1_followAir_65 (e_v h hg) (by decide) (by decide)
    · have h := (if_neg c5).symm.trans h
      refine j_aload_n C dX1_followAir_40 0 rfl ?_
      refine j_aload_n C dX1_followAir_41 0 rfl ?_
      refine j_iload_n C dX1_followAir_42 2 rfl ?_
      refine j_iload_n C dX1_followAir_43 1 rfl ?_
      obtain ⟨⟨r6, σ7⟩, h8, h⟩ := ob h
      try dsimp only at h
      refine j_callV C X (c_X1_galleryOf n G σ o0 l2 l1 ho0 _ _ h8) dX1_followAir_44 (gV u_115 u_117 u_118 u_98 u_116) rfl hy_X1_galleryOf rfl ho0 rfl (ci := 5) rfl rfl rfl (by decide) (Nat.le_of_ble_eq_true rfl) (by decide) ?_
      obtain ⟨⟨r9, σ10⟩, h11, h⟩ := ob h
      try dsimp only at h
      obtain ⟨k12, h⟩ := sg h
      refine j_callV C X (c_X1_place n G σ7 o0 r6 ho0 _ _ h11) dX1_followAir_47 (gV u_97 u_100 u_101 u_98 u_99) rfl hy_X1_place rfl ho0 rfl (ci := 5) rfl rfl rfl (by decide) (Nat.le_of_ble_eq_true rfl) (by decide) ?_
      refine j_dup C dX1_followAir_50 rfl ?_
      refine j_get C X dX1_followAir_51 k12 rfl rfl 6 (by decide) (fin := false) rfl rfl in_X0 (mU u_119) ?_
      refine j_iconst C dX1_followAir_54 ((1 : Int32)) (by decide) ?_
      refine j_iadd C dX1_followAir_55 ?_
      obtain ⟨σ13, e14, h⟩ := lm_e h
      refine j_put C X dX1_followAir_56 k12 (ty0 := tyX0) rfl rfl 6 (by decide) rfl rfl (Nat.le_of_ble_eq_true rfl) tyX0_ok nmX0 (ty := .int) rfl rfl rfl in_X0 (mU u_119) e14 ?_
      refine j_iinc C dX1_followAir_59 2 rfl ((1 : Int32)) (by decide) (by decide) [(2, .int ((l2 + (1 : Int32)))), (0, .ref (G.2.2 (o0))), (1, .int (l1))] rfl ?_
      refine j_goto C dX1_followAir_62 32 (by decide) ?_
      refine j_sub [1, 2, 0] [(0, .ref (G.2.2 (o0))), (1, .int (l1)), (2, .int ((l2 + (1 : Int32))))] rfl ?_
      exact ih σ13 l1 ((l2 + (1 : Int32)))  h
  have LP2 : ∀ (k : Nat) (σ : Mem) (l1 : Int32), lp_X1_followAir_2 n o0 k σ l1 = some (r, σ') → J x [(0, .ref (G.2.2 (o0))), (1, .int (l1))] [] σ 2 0 0 := by
    intro k
    induction k with
    | zero => intro σ l1  h; cases h
    | succ k ih =>
    intro σ l1  h
    rw [lp_X1_followAir_2_s] at h
    refine j_iload_n C dX1_followAir_2 1 rfl ?_
    refine j_aload_n C dX1_followAir_3 0 rfl ?_
    refine j_get C X dX1_followAir_4 ho0 rfl rfl 4 (by decide) (fin := false) rfl rfl in_X1 (mU u_64) ?_
    refine j_icmp_gt C dX1_followAir_7 25 (by decide) (fun c1 => ?_) (fun c1 => ?_)
    · have h := (if_pos c1).symm.trans h
      refine j_aload_n C dX1_followAir_25 0 rfl ?_
      obtain ⟨⟨r2, σ3⟩, h4, h⟩ := ob h
      try dsimp only at h
      refine j_callV C X (c_X1_openWidths n G σ o0 ho0 _ _ h4) dX1_followAir_26 (gV u_107 u_109 u_110 u_98 u_108) rfl hy_X1_openWidths rfl ho0 rfl (ci := 5) rfl rfl rfl (by decide) (Nat.le_of_ble_eq_true rfl) (by decide) ?_
      refine j_istore_n C dX1_followAir_29 (by decide) [(1, .int (r2)), (0, .ref (G.2.2 (o0)))] rfl ?_
      refine j_iconst C dX1_followAir_30 ((1 : Int32)) (by decide) ?_
      refine j_istore_n C dX1_followAir_31 (by decide) [(2, .int ((1 : Int32))), (1, .int (r2)), (0, .ref (G.2.2 (o0)))] rfl ?_
      refine j_sub [2, 1, 0] [(0, .ref (G.2.2 (o0))), (1, .int (r2)), (2, .int ((1 : Int32)))] rfl ?_
      exact LP32 n σ3 r2 ((1 : Int32))  h
    · have h := (if_neg c1).symm.trans h
      refine j_aload_n C dX1_followAir_10 0 rfl ?_
      refine j_iload_n C dX1_followAir_11 1 rfl ?_
      obtain ⟨⟨r15, σ16⟩, h17, h⟩ := ob h
      try dsimp only at h
      obtain ⟨k18, h⟩ := sg h
      refine j_callV C X (c_X1_place n G σ o0 l1 ho0 _ _ h17) dX1_followAir_12 (gV u_97 u_100 u_101 u_98 u_99) rfl hy_X1_place rfl ho0 rfl (ci := 5) rfl rfl rfl (by decide) (Nat.le_of_ble_eq_true rfl) (by decide) ?_
      refine j_iconst C dX1_followAir_15 ((0 : Int32)) (by decide) ?_
      obtain ⟨σ19, e20, h⟩ := lm_e h
      refine j_put C X dX1_followAir_16 k18 (ty0 := tyX0) rfl rfl 6 (by decide) rfl rfl (Nat.le_of_ble_eq_true rfl) tyX0_ok nmX0 (ty := .int) rfl rfl rfl in_X0 (mU u_119) e20 ?_
      refine j_iinc C dX1_followAir_19 1 rfl ((1 : Int32)) (by decide) (by decide) [(1, .int ((l1 + (1 : Int32)))), (0, .ref (G.2.2 (o0)))] rfl ?_
      refine j_goto C dX1_followAir_22 2 (by decide) ?_
      refine j_sub [1, 0] [(0, .ref (G.2.2 (o0))), (1, .int ((l1 + (1 : Int32))))] rfl ?_
      exact ih σ19 ((l1 + (1 : Int32)))  h
  unfold sp_X1_followAir at h
  show J x [(0, .ref (G.2.2 (o0)))] [] σ 0 0 0
  refine j_iconst C dX1_followAir_0 ((0 : Int32)) (by decide) ?_
  refine j_istore_n C dX1_followAir_1 (by decide) [(1, .int ((0 : Int32))), (0, .ref (G.2.2 (o0)))] rfl ?_
  refine j_sub [1, 0] [(0, .ref (G.2.2 (o0))), (1, .int ((0 : Int32)))] rfl ?_
  exact LP2 n σ ((0 : Int32))  h
def sp_X1_letGasIn (n : Nat) (σ : Mem) (o0 : Nat) (o1 : Nat) (a2 : Int32) : Option (Unit × Mem) := (lm (wi σ o1 7 ((σ.1 o1 7) + a2)) fun σ1 => (lm (wi σ1 o0 9 ((σ1.1 o0 9) + a2)) fun σ3 => some ((), σ3)))
abbrev rm_X1_letGasIn : Room := ({ frames := 10, cells := 0, slots := 0, locals := 200 } : Room)
abbrev wu_X1_letGasIn : List Cond := (Cond.code yX1_letGasIn cX1_letGasIn 3 none) :: wsU
theorem hy_X1_letGasIn : hyOk yX1_letGasIn 2 := by decide +kernel
set_option maxRecDepth 20000 in
set_option maxHeartbeats 4000000 in
theorem c_X1_letGasIn (n : Nat) (G : Gt) (σ : Mem) (o0 : Nat) (o1 : Nat) (a2 : Int32) (ho0 : Ok o0 1) (ho1 : Ok o1 0) (r : Unit) (σ' : Mem) (h : sp_X1_letGasIn n σ o0 o1 a2 = some (r, σ')) : MM yX1_letGasIn wu_X1_letGasIn rm_X1_letGasIn [.ref (G.2.2 (o0)), .ref (G.2.2 (o1)), .int (a2)] G σ (.inl none) σ' := by
  refine mm_of (cc := cX1_letGasIn) (maxL := 3) (ret := none) (by decide +kernel) rfl (Nat.le_of_ble_eq_true rfl) (fun x C X hg => ?_)
  have C : Cx x cX1_letGasIn 3 RX1 none [] wu_X1_letGasIn rm_X1_letGasIn G.1 (tysF G) := C
  unfold sp_X1_letGasIn at h
  show J x [(0, .ref (G.2.2 (o0))), (1, .ref (G.2.2 (o1))), (2, .int (a2))] [] σ 0 0 0
  refine j_aload_n C dX1_letGasIn_0 1 rfl ?_
  refine j_dup C dX1_letGasIn_1 rfl ?_
  refine j_get C X dX1_letGasIn_2 ho1 rfl rfl 7 (by decide) (fin := false) rfl rfl in_X0 (mU u_120) ?_
  refine j_iload_n C dX1_letGasIn_5 2 rfl ?_
  refine j_iadd C dX1_letGasIn_6 ?_
  obtain ⟨σ1, e2, h⟩ := lm_e h
  refine j_put C X dX1_letGasIn_7 ho1 (ty0 := tyX0) rfl rfl 7 (by decide) rfl rfl (Nat.le_of_ble_eq_true rfl) tyX0_ok nmX0 (ty := .int) rfl rfl rfl in_X0 (mU u_120) e2 ?_
  refine j_aload_n C dX1_letGasIn_10 0 rfl ?_
  refine j_dup C dX1_letGasIn_11 rfl ?_
  refine j_get C X dX1_letGasIn_12 ho0 rfl rfl 9 (by decide) (fin := false) rfl rfl in_X1 (mU u_69) ?_
  refine j_iload_n C dX1_letGasIn_15 2 rfl ?_
  refine j_iadd C dX1_letGasIn_16 ?_
  obtain ⟨σ3, e4, h⟩ := lm_e h
  refine j_put C X dX1_letGasIn_17 ho0 (ty0 := tyX1) rfl rfl 9 (by decide) rfl rfl (Nat.le_of_ble_eq_true rfl) tyX1_ok nmX1 (ty := .int) rfl rfl rfl in_X1 (mU u_69) e4 ?_
  exact j_return C dX1_letGasIn_20 (e_v h hg) (by decide) (by decide)
def sp_X1_moveGas (n : Nat) (σ : Mem) (o0 : Nat) (o1 : Nat) : Option (Unit × Mem) := ((sp_X1_letGasIn n σ o0 o1 ((σ.1 o1 3))).bind fun q => match q with | (_, σ2) => ((sp_X0_gasTaken n σ2 o1).bind fun q => match q with | (r4, σ5) => (lm (wi σ5 o1 7 ((σ5.1 o1 7) - r4)) fun σ7 => (lm (wi σ7 o0 10 ((σ7.1 o0 10) + r4)) fun σ9 => some ((), σ9)))))
abbrev rm_X1_moveGas : Room := ({ frames := 11, cells := 0, slots := 0, locals := 222 } : Room)
abbrev wu_X1_moveGas : List Cond := (Cond.code yX1_moveGas cX1_moveGas 3 none) :: wsU
theorem hy_X1_moveGas : hyOk yX1_moveGas 1 := by decide +kernel
set_option maxRecDepth 20000 in
set_option maxHeartbeats 4000000 in
theorem c_X1_moveGas (n : Nat) (G : Gt) (σ : Mem) (o0 : Nat) (o1 : Nat) (ho0 : Ok o0 1) (ho1 : Ok o1 0) (r : Unit) (σ' : Mem) (h : sp_X1_moveGas n σ o0 o1 = some (r, σ')) : MM yX1_moveGas wu_X1_moveGas rm_X1_moveGas [.ref (G.2.2 (o0)), .ref (G.2.2 (o1))] G σ (.inl none) σ' := by
  refine mm_of (cc := cX1_moveGas) (maxL := 3) (ret := none) (by decide +kernel) rfl (Nat.le_of_ble_eq_true rfl) (fun x C X hg => ?_)
  have C : Cx x cX1_moveGas 3 RX1 none [] wu_X1_moveGas rm_X1_moveGas G.1 (tysF G) := C
  unfold sp_X1_moveGas at h
  show J x [(0, .ref (G.2.2 (o0))), (1, .ref (G.2.2 (o1)))] [] σ 0 0 0
  refine j_aload_n C dX1_moveGas_0 0 rfl ?_
  refine j_aload_n C dX1_moveGas_1 1 rfl ?_
  refine j_aload_n C dX1_moveGas_2 1 rfl ?_
  refine j_get C X dX1_moveGas_3 ho1 rfl rfl 3 (by decide) (fin := false) rfl rfl in_X0 (mU u_121) ?_
  obtain ⟨⟨r1, σ2⟩, h3, h⟩ := ob h
  try dsimp only at h
  refine j_callV C X (c_X1_letGasIn n G σ o0 o1 ((σ.1 o1 3)) ho0 ho1 _ _ h3) dX1_moveGas_6 (gV u_122 u_124 u_125 u_98 u_123) rfl hy_X1_letGasIn rfl ho0 rfl (ci := 5) rfl rfl rfl (by decide) (Nat.le_of_ble_eq_true rfl) (by decide) ?_
  refine j_aload_n C dX1_moveGas_9 1 rfl ?_
  obtain ⟨⟨r4, σ5⟩, h6, h⟩ := ob h
  try dsimp only at h
  refine j_callV C X (c_X0_gasTaken n G σ2 o1 ho1 _ _ h6) dX1_moveGas_10 (gV u_126 u_128 u_129 u_77 u_127) rfl hy_X0_gasTaken rfl ho1 rfl (ci := 4) rfl rfl rfl (by decide) (Nat.le_of_ble_eq_true rfl) (by decide) ?_
  refine j_istore_n C dX1_moveGas_13 (by decide) [(2, .int (r4)), (0, .ref (G.2.2 (o0))), (1, .ref (G.2.2 (o1)))] rfl ?_
  refine j_aload_n C dX1_moveGas_14 2 rfl ?_
  refine j_dup C dX1_moveGas_15 rfl ?_
  refine j_get C X dX1_moveGas_16 ho1 rfl rfl 7 (by decide) (fin := false) rfl rfl in_X0 (mU u_120) ?_
  refine j_iload_n C dX1_moveGas_19 0 rfl ?_
  refine j_isub C dX1_moveGas_20 ?_
  obtain ⟨σ7, e8, h⟩ := lm_e h
  refine j_put C X dX1_moveGas_21 ho1 (ty0 := tyX0) rfl rfl 7 (by decide) rfl rfl (Nat.le_of_ble_eq_true rfl) tyX0_ok nmX0 (ty := .int) rfl rfl rfl in_X0 (mU u_120) e8 ?_
  refine j_aload_n C dX1_moveGas_24 1 rfl ?_
  refine j_dup C dX1_moveGas_25 rfl ?_
  refine j_get C X dX1_moveGas_26 ho0 rfl rfl 10 (by decide) (fin := false) rfl rfl in_X1 (mU u_70) ?_
  refine j_iload_n C dX1_moveGas_29 0 rfl ?_
  refine j_iadd C dX1_moveGas_30 ?_
  obtain ⟨σ9, e10, h⟩ := lm_e h
  refine j_put C X dX1_moveGas_31 ho0 (ty0 := tyX1) rfl rfl 10 (by decide) rfl rfl (Nat.le_of_ble_eq_true rfl) tyX1_ok nmX1 (ty := .int) rfl rfl rfl in_X1 (mU u_70) e10 ?_
  exact j_return C dX1_moveGas_34 (e_v h hg) (by decide) (by decide)
def sp_X1_carry (n : Nat) (σ : Mem) (o0 : Nat) (a1 : Int32) (a2 : Int32) : Option (Unit × Mem) := if a1 = (111 : Int32) then (lm (wi σ o0 9 ((σ.1 o0 9) + a2)) fun σ4 => some ((), σ4)) else (lm (wi σ o0 8 ((σ.1 o0 8) + a2)) fun σ2 => some ((), σ2))
abbrev rm_X1_carry : Room := ({ frames := 10, cells := 0, slots := 0, locals := 200 } : Room)
abbrev wu_X1_carry : List Cond := (Cond.code yX1_carry cX1_carry 3 none) :: wsU
theorem hy_X1_carry : hyOk yX1_carry 3 := by decide +kernel
set_option maxRecDepth 20000 in
set_option maxHeartbeats 4000000 in
theorem c_X1_carry (n : Nat) (G : Gt) (σ : Mem) (o0 : Nat) (a1 : Int32) (a2 : Int32) (ho0 : Ok o0 0) (r : Unit) (σ' : Mem) (h : sp_X1_carry n σ o0 a1 a2 = some (r, σ')) : MM yX1_carry wu_X1_carry rm_X1_carry [.ref (G.2.2 (o0)), .int (a1), .int (a2)] G σ (.inl none) σ' := by
  refine mm_of (cc := cX1_carry) (maxL := 3) (ret := none) (by decide +kernel) rfl (Nat.le_of_ble_eq_true rfl) (fun x C X hg => ?_)
  have C : Cx x cX1_carry 3 RX1 none [] wu_X1_carry rm_X1_carry G.1 (tysF G) := C
  unfold sp_X1_carry at h
  show J x [(0, .ref (G.2.2 (o0))), (1, .int (a1)), (2, .int (a2))] [] σ 0 0 0
  refine j_iload_n C dX1_carry_0 1 rfl ?_
  refine j_bipush C dX1_carry_1 ((111 : Int32)) (by decide) ?_
  refine j_icmp_ne C dX1_carry_3 19 (by decide) (fun c1 => ?_) (fun c1 => ?_)
  · have h := (if_neg c1).symm.trans h
    refine j_aload_n C dX1_carry_19 0 rfl ?_
    refine j_dup C dX1_carry_20 rfl ?_
    refine j_get C X dX1_carry_21 ho0 rfl rfl 8 (by decide) (fin := false) rfl rfl in_X0 (mU u_102) ?_
    refine j_iload_n C dX1_carry_24 2 rfl ?_
    refine j_iadd C dX1_carry_25 ?_
    obtain ⟨σ2, e3, h⟩ := lm_e h
    refine j_put C X dX1_carry_26 ho0 (ty0 := tyX0) rfl rfl 8 (by decide) rfl rfl (Nat.le_of_ble_eq_true rfl) tyX0_ok nmX0 (ty := .int) rfl rfl rfl in_X0 (mU u_102) e3 ?_
    exact j_return C dX1_carry_29 (e_v h hg) (by decide) (by decide)
  · have h := (if_pos c1).symm.trans h
    refine j_aload_n C dX1_carry_6 0 rfl ?_
    refine j_dup C dX1_carry_7 rfl ?_
    refine j_get C X dX1_carry_8 ho0 rfl rfl 9 (by decide) (fin := false) rfl rfl in_X0 (mU u_130) ?_
    refine j_iload_n C dX1_carry_11 2 rfl ?_
    refine j_iadd C dX1_carry_12 ?_
    obtain ⟨σ4, e5, h⟩ := lm_e h
    refine j_put C X dX1_carry_13 ho0 (ty0 := tyX0) rfl rfl 9 (by decide) rfl rfl (Nat.le_of_ble_eq_true rfl) tyX0_ok nmX0 (ty := .int) rfl rfl rfl in_X0 (mU u_130) e5 ?_
    refine j_goto C dX1_carry_16 29 (by decide) ?_
    exact j_return C dX1_carry_29 (e_v h hg) (by decide) (by decide)
def sp_X1_way (n : Nat) (σ : Mem) (o0 : Nat) (o1 : Nat) (o2 : Nat) : Option (Int32 × Mem) := if (σ.1 o0 7) ≤ 0 then some ((0 : Int32), σ) else if ¬ (σ.1 o0 7) = 0 then some (((((if 0 ≤ ((σ.1 o1 0) - (σ.1 o2 0)) then ((σ.1 o1 0) - (σ.1 o2 0)) else 0 - ((σ.1 o1 0) - (σ.1 o2 0))) + (σ.1 o0 7)) - (1 : Int32)) / (σ.1 o0 7)), σ) else none
abbrev rm_X1_way : Room := ({ frames := 10, cells := 0, slots := 0, locals := 200 } : Room)
abbrev wu_X1_way : List Cond := (Cond.code yX1_way cX1_way 4 (some .int)) :: wsU
theorem hy_X1_way : hyOk yX1_way 2 := by decide +kernel
set_option maxRecDepth 20000 in
set_option maxHeartbeats 4000000 in
theorem c_X1_way (n : Nat) (G : Gt) (σ : Mem) (o0 : Nat) (o1 : Nat) (o2 : Nat) (ho0 : Ok o0 1) (ho1 : Ok o1 0) (ho2 : Ok o2 0) (r : Int32) (σ' : Mem) (h : sp_X1_way n σ o0 o1 o2 = some (r, σ')) : MM yX1_way wu_X1_way rm_X1_way [.ref (G.2.2 (o0)), .ref (G.2.2 (o1)), .ref (G.2.2 (o2))] G σ (.inl (some (.int r))) σ' := by
  refine mm_of (cc := cX1_way) (maxL := 4) (ret := (some .int)) (by decide +kernel) rfl (Nat.le_of_ble_eq_true rfl) (fun x C X hg => ?_)
  have C : Cx x cX1_way 4 RX1 (some .int) [] wu_X1_way rm_X1_way G.1 (tysF G) := C
  unfold sp_X1_way at h
  show J x [(0, .ref (G.2.2 (o0))), (1, .ref (G.2.2 (o1))), (2, .ref (G.2.2 (o2)))] [] σ 0 0 0
  refine j_aload_n C dX1_way_0 1 rfl ?_
  refine j_get C X dX1_way_1 ho1 rfl rfl 0 (by decide) (fin := false) rfl rfl in_X0 (mU u_131) ?_
  refine j_aload_n C dX1_way_4 2 rfl ?_
  refine j_get C X dX1_way_5 ho2 rfl rfl 0 (by decide) (fin := false) rfl rfl in_X0 (mU u_131) ?_
  refine j_isub C dX1_way_8 ?_
  refine j_mabs C dX1_way_9 (mU u_132) (mU u_133) (mU u_13) (mU u_134) (by decide) (Nat.le_of_ble_eq_true rfl) (Nat.le_of_ble_eq_true rfl) (Nat.le_of_ble_eq_true rfl) ?_
  refine j_istore_n C dX1_way_12 (by decide) [(3, .int ((if 0 ≤ ((σ.1 o1 0) - (σ.1 o2 0)) then ((σ.1 o1 0) - (σ.1 o2 0)) else 0 - ((σ.1 o1 0) - (σ.1 o2 0))))), (0, .ref (G.2.2 (o0))), (1, .ref (G.2.2 (o1))), (2, .ref (G.2.2 (o2)))] rfl ?_
  refine j_aload_n C dX1_way_13 1 rfl ?_
  refine j_get C X dX1_way_14 ho0 rfl rfl 7 (by decide) (fin := false) rfl rfl in_X1 (mU u_67) ?_
  refine j_if_le C dX1_way_17 36 (by decide) (fun c1 => ?_) (fun c1 => ?_)
  · have h := (if_pos c1).symm.trans h
    refine j_iconst C dX1_way_36 ((0 : Int32)) (by decide) ?_
    exact j_ireturn C dX1_way_37 (e_i h hg) (by decide) (by decide)
  · have h := (if_neg c1).symm.trans h
    refine j_iload_n C dX1_way_20 0 rfl ?_
    refine j_aload_n C dX1_way_21 1 rfl ?_
    refine j_get C X dX1_way_22 ho0 rfl rfl 7 (by decide) (fin := false) rfl rfl in_X1 (mU u_67) ?_
    refine j_iadd C dX1_way_25 ?_
    refine j_iconst C dX1_way_26 ((1 : Int32)) (by decide) ?_
    refine j_isub C dX1_way_27 ?_
    refine j_aload_n C dX1_way_28 1 rfl ?_
    refine j_get C X dX1_way_29 ho0 rfl rfl 7 (by decide) (fin := false) rfl rfl in_X1 (mU u_67) ?_
    obtain ⟨g2, h⟩ := sg h
    refine j_idiv C dX1_way_32 g2 ?_
    refine j_goto C dX1_way_33 37 (by decide) ?_
    exact j_ireturn C dX1_way_37 (e_i h hg) (by decide) (by decide)
def lp_X1_beginTrip_38 (n : Nat) (o0 : Nat) (a1 : Int32) (a2 : Int32) (a3 : Int32) (a4 : Int32) (σ : Mem) (l1 : Int32) (l2 : Int32) (l3 : Int32) (l4 : Int32) (p5 : Nat) (t0 : Nat) : Option (Unit × Mem) := ((sp_X1_place n σ o0 ((σ.1 o0 12))).bind fun q => match q with | (r7, σ8) => if Ok r7 0 then ((sp_X1_way n σ8 o0 r7 p5).bind fun q => match q with | (r11, σ12) => ((sp_X1_way n σ12 o0 p5 t0).bind fun q => match q with | (r14, σ15) => ((sp_X1_carry n σ15 p5 l1 (-l3)).bind fun q => match q with | (_, σ18) => ((sp_X3_set n σ18 ((rf o0 3)) l1 l2 l3 ((((1 : Int32) + r11) + r14)) l4).bind fun q => match q with | (_, σ21) => some ((), σ21))))) else none)
def lp_X1_beginTrip_18 (n : Nat) (o0 : Nat) (a1 : Int32) (a2 : Int32) (a3 : Int32) (a4 : Int32) (σ : Mem) (l1 : Int32) (l2 : Int32) (l3 : Int32) (l4 : Int32) (t0 : Nat) : Option (Unit × Mem) := if l1 = (100 : Int32) then ((sp_X1_place n σ o0 l2).bind fun q => match q with | (r23, σ24) => if Ok r23 0 then lp_X1_beginTrip_38 n o0 a1 a2 a3 a4 σ24 l1 l2 l3 l4 t0 r23 else none) else lp_X1_beginTrip_38 n o0 a1 a2 a3 a4 σ l1 l2 l3 l4 t0 ((rf o0 0))
def sp_X1_beginTrip (n : Nat) (σ : Mem) (o0 : Nat) (a1 : Int32) (a2 : Int32) (a3 : Int32) (a4 : Int32) : Option (Unit × Mem) := if a1 = (100 : Int32) then lp_X1_beginTrip_18 n o0 a1 a2 a3 a4 σ a1 a2 a3 a4 ((rf o0 0)) else ((sp_X1_place n σ o0 a2).bind fun q => match q with | (r2, σ3) => if Ok r2 0 then lp_X1_beginTrip_18 n o0 a1 a2 a3 a4 σ3 a1 a2 a3 a4 r2 else none)
abbrev rm_X1_beginTrip : Room := ({ frames := 11, cells := 0, slots := 0, locals := 225 } : Room)
abbrev wu_X1_beginTrip : List Cond := (Cond.code yX1_beginTrip cX1_beginTrip 8 none) :: wsU
theorem hy_X1_beginTrip : hyOk yX1_beginTrip 4 := by decide +kernel
set_option maxRecDepth 20000 in
set_option maxHeartbeats 4000000 in
theorem c_X1_beginTrip (n : Nat) (G : Gt) (σ : Mem) (o0 : Nat) (a1 : Int32) (a2 : Int32) (a3 : Int32) (a4 : Int32) (ho0 : Ok o0 1) (r : Unit) (σ' : Mem) (h : sp_X1_beginTrip n σ o0 a1 a2 a3 a4 = some (r, σ')) : MM yX1_beginTrip wu_X1_beginTrip rm_X1_beginTrip [.ref (G.2.2 (o0)), .int (a1), .int (a2), .int (a3), .int (a4)] G σ (.inl none) σ' := by
  refine mm_of (cc := cX1_beginTrip) (maxL := 8) (ret := none) (by decide +kernel) rfl (Nat.le_of_ble_eq_true rfl) (fun x C X hg => ?_)
  have C : Cx x cX1_beginTrip 8 RX1 none [] wu_X1_beginTrip rm_X1_beginTrip G.1 (tysF G) := C
  have JP38 : ∀ (σ : Mem) (l1 : Int32) (l2 : Int32) (l3 : Int32) (l4 : Int32) (p5 : Nat) (t0 : Nat) (hp5 : Ok p5 0) (ht0 : Ok t0 0), lp_X1_beginTrip_38 n o0 a1 a2 a3 a4 σ l1 l2 l3 l4 p5 t0 = some (r, σ') → J x [(0, .ref (G.2.2 (o0))), (1, .int (l1)), (2, .int (l2)), (3, .int (l3)), (4, .int (l4)), (5, .ref (G.2.2 (p5)))] [.ref (G.2.2 (t0))] σ 38 0 0 := by
    intro σ l1 l2 l3 l4 p5 t0 hp5 ht0 h
    unfold lp_X1_beginTrip_38 at h
    refine j_astore C dX1_beginTrip_38 (by decide) [(6, .ref (G.2.2 (t0))), (0, .ref (G.2.2 (o0))), (1, .int (l1)), (2, .int (l2)), (3, .int (l3)), (4, .int (l4)), (5, .ref (G.2.2 (p5)))] rfl ?_
    refine j_iconst C dX1_beginTrip_40 ((1 : Int32)) (by decide) ?_
    refine j_aload_n C dX1_beginTrip_41 1 rfl ?_
    refine j_aload_n C dX1_beginTrip_42 1 rfl ?_
    refine j_aload_n C dX1_beginTrip_43 1 rfl ?_
    refine j_get C X dX1_beginTrip_44 ho0 rfl rfl 12 (by decide) (fin := false) rfl rfl in_X1 (mU u_72) ?_
    obtain ⟨⟨r7, σ8⟩, h9, h⟩ := ob h
    try dsimp only at h
    obtain ⟨k10, h⟩ := sg h
    refine j_callV C X (c_X1_place n G σ o0 ((σ.1 o0 12)) ho0 _ _ h9) dX1_beginTrip_47 (gV u_97 u_100 u_101 u_98 u_99) rfl hy_X1_place rfl ho0 rfl (ci := 5) rfl rfl rfl (by decide) (Nat.le_of_ble_eq_true rfl) (by decide) ?_
    refine j_aload C dX1_beginTrip_50 6 rfl ?_
    obtain ⟨⟨r11, σ12⟩, h13, h⟩ := ob h
    try dsimp only at h
    refine j_callV C X (c_X1_way n G σ8 o0 r7 p5 ho0 k10 hp5 _ _ h13) dX1_beginTrip_52 (gV u_135 u_137 u_138 u_98 u_136) rfl hy_X1_way rfl ho0 rfl (ci := 5) rfl rfl rfl (by decide) (Nat.le_of_ble_eq_true rfl) (by decide) ?_
    refine j_iadd C dX1_beginTrip_55 ?_
    refine j_aload_n C dX1_beginTrip_56 1 rfl ?_
    refine j_aload C dX1_beginTrip_57 6 rfl ?_
    refine j_aload C dX1_beginTrip_59 0 rfl ?_
    obtain ⟨⟨r14, σ15⟩, h16, h⟩ := ob h
    try dsimp only at h
    refine j_callV C X (c_X1_way n G σ12 o0 p5 t0 ho0 hp5 ht0 _ _ h16) dX1_beginTrip_61 (gV u_135 u_137 u_138 u_98 u_136) rfl hy_X1_way rfl ho0 rfl (ci := 5) rfl rfl rfl (by decide) (Nat.le_of_ble_eq_true rfl) (by decide) ?_
    refine j_iadd C dX1_beginTrip_64 ?_
    refine j_istore C dX1_beginTrip_65 (by decide) [(7, .int ((((1 : Int32) + r11) + r14))), (6, .ref (G.2.2 (t0))), (0, .ref (G.2.2 (o0))), (1, .int (l1)), (2, .int (l2)), (3, .int (l3)), (4, .int (l4)), (5, .ref (G.2.2 (p5)))] rfl ?_
    refine j_aload C dX1_beginTrip_67 7 rfl ?_
    refine j_iload_n C dX1_beginTrip_69 3 rfl ?_
    refine j_iload_n C dX1_beginTrip_70 5 rfl ?_
    refine j_ineg C dX1_beginTrip_71 ?_
    obtain ⟨⟨r17, σ18⟩, h19, h⟩ := ob h
    try dsimp only at h
    refine j_callS C X (c_X1_carry n G σ15 p5 l1 (-l3) hp5 _ _ h19) dX1_beginTrip_72 (gS u_139 u_141 u_98 u_140) rfl hy_X1_carry rfl rfl (by decide) (Nat.le_of_ble_eq_true rfl) (by decide) ?_
    refine j_aload_n C dX1_beginTrip_75 2 rfl ?_
    refine j_get C X dX1_beginTrip_76 ho0 rfl rfl 3 (by decide) (fin := true) rfl rfl in_X1 (mU u_59) ?_
    refine j_iload_n C dX1_beginTrip_79 3 rfl ?_
    refine j_iload_n C dX1_beginTrip_80 4 rfl ?_
    refine j_iload_n C dX1_beginTrip_81 5 rfl ?_
    refine j_iload C dX1_beginTrip_82 0 rfl ?_
    refine j_iload C dX1_beginTrip_84 6 rfl ?_
    obtain ⟨⟨r20, σ21⟩, h22, h⟩ := ob h
    try dsimp only at h
    refine j_callV C X (c_X3_set n G σ18 ((rf o0 3)) l1 l2 l3 ((((1 : Int32) + r11) + r14)) l4 (sh_1_3 ho0) _ _ h22) dX1_beginTrip_86 (gV u_142 u_27 u_28 u_25 u_26) rfl hy_X3_set rfl (sh_1_3 ho0) rfl (ci := 7) rfl rfl rfl (by decide) (Nat.le_of_ble_eq_true rfl) (by decide) ?_
    exact j_return C dX1_beginTrip_89 (e_v h hg) (by decide) (by decide)
  have JP18 : ∀ (σ : Mem) (l1 : Int32) (l2 : Int32) (l3 : Int32) (l4 : Int32) (t0 : Nat) (ht0 : Ok t0 0), lp_X1_beginTrip_18 n o0 a1 a2 a3 a4 σ l1 l2 l3 l4 t0 = some (r, σ') → J x [(0, .ref (G.2.2 (o0))), (1, .int (l1)), (2, .int (l2)), (3, .int (l3)), (4, .int (l4))] [.ref (G.2.2 (t0))] σ 18 0 0 := by
    intro σ l1 l2 l3 l4 t0 ht0 h
    unfold lp_X1_beginTrip_18 at h
    refine j_astore C dX1_beginTrip_18 (by decide) [(5, .ref (G.2.2 (t0))), (0, .ref (G.2.2 (o0))), (1, .int (l1)), (2, .int (l2)), (3, .int (l3)), (4, .int (l4))] rfl ?_
    refine j_iload_n C dX1_beginTrip_20 2 rfl ?_
    refine j_bipush C dX1_beginTrip_21 ((100 : Int32)) (by decide) ?_
    refine j_icmp_ne C dX1_beginTrip_23 34 (by decide) (fun c6 => ?_) (fun c6 => ?_)
    · have h := (if_neg c6).symm.trans h
      refine j_aload_n C dX1_beginTrip_34 1 rfl ?_
      refine j_get C X dX1_beginTrip_35 ho0 rfl rfl 0 (by decide) (fin := true) rfl rfl in_X1 (mU u_81) ?_
      refine j_sub [1, 2, 3, 4, 5, 0] [(0, .ref (G.2.2 (o0))), (1, .int (l1)), (2, .int (l2)), (3, .int (l3)), (4, .int (l4)), (5, .ref (G.2.2 (t0)))] rfl ?_
      exact JP38 σ l1 l2 l3 l4 t0 ((rf o0 0)) ht0 (sh_1_0 ho0) h
    · have h := (if_pos c6).symm.trans h
      refine j_aload_n C dX1_beginTrip_26 1 rfl ?_
      refine j_iload_n C dX1_beginTrip_27 3 rfl ?_
      obtain ⟨⟨r23, σ24⟩, h25, h⟩ := ob h
      try dsimp only at h
      obtain ⟨k26, h⟩ := sg h
      refine j_callV C X (c_X1_place n G σ o0 l2 ho0 _ _ h25) dX1_beginTrip_28 (gV u_97 u_100 u_101 u_98 u_99) rfl hy_X1_place rfl ho0 rfl (ci := 5) rfl rfl rfl (by decide) (Nat.le_of_ble_eq_true rfl) (by decide) ?_
      refine j_goto C dX1_beginTrip_31 38 (by decide) ?_
      refine j_sub [1, 2, 3, 4, 5, 0] [(0, .ref (G.2.2 (o0))), (1, .int (l1)), (2, .int (l2)), (3, .int (l3)), (4, .int (l4)), (5, .ref (G.2.2 (t0)))] rfl ?_
      exact JP38 σ24 l1 l2 l3 l4 t0 r23 ht0 k26 h
  unfold sp_X1_beginTrip at h
  show J x [(0, .ref (G.2.2 (o0))), (1, .int (a1)), (2, .int (a2)), (3, .int (a3)), (4, .int (a4))] [] σ 0 0 0
  refine j_iload_n C dX1_beginTrip_0 1 rfl ?_
  refine j_bipush C dX1_beginTrip_1 ((100 : Int32)) (by decide) ?_
  refine j_icmp_ne C dX1_beginTrip_3 13 (by decide) (fun c1 => ?_) (fun c1 => ?_)
  · have h := (if_neg c1).symm.trans h
    refine j_aload_n C dX1_beginTrip_13 0 rfl ?_
    refine j_iload_n C dX1_beginTrip_14 2 rfl ?_
    obtain ⟨⟨r2, σ3⟩, h4, h⟩ := ob h
    try dsimp only at h
    obtain ⟨k5, h⟩ := sg h
    refine j_callV C X (c_X1_place n G σ o0 a2 ho0 _ _ h4) dX1_beginTrip_15 (gV u_97 u_100 u_101 u_98 u_99) rfl hy_X1_place rfl ho0 rfl (ci := 5) rfl rfl rfl (by decide) (Nat.le_of_ble_eq_true rfl) (by decide) ?_
    refine j_sub [0, 1, 2, 3, 4] [(0, .ref (G.2.2 (o0))), (1, .int (a1)), (2, .int (a2)), (3, .int (a3)), (4, .int (a4))] rfl ?_
    exact JP18 σ3 a1 a2 a3 a4 r2 k5 h
  · have h := (if_pos c1).symm.trans h
    refine j_aload_n C dX1_beginTrip_6 0 rfl ?_
    refine j_get C X dX1_beginTrip_7 ho0 rfl rfl 0 (by decide) (fin := true) rfl rfl in_X1 (mU u_81) ?_
    refine j_goto C dX1_beginTrip_10 18 (by decide) ?_
    refine j_sub [0, 1, 2, 3, 4] [(0, .ref (G.2.2 (o0))), (1, .int (a1)), (2, .int (a2)), (3, .int (a3)), (4, .int (a4))] rfl ?_
    exact JP18 σ a1 a2 a3 a4 ((rf o0 0)) (sh_1_0 ho0) h
def lp_X1_startFlight_4 (n : Nat) (o0 : Nat) : Nat → Mem → Int32 → Int32 → Option (Int32 × Mem)
  | 0, _, _, _ => none
  | k + 1, σ, l1, l2 => if (σ.1 o0 4) < l2 then if l1 = 0 then some ((0 : Int32), σ) else ((sp_X1_place n σ o0 l1).bind fun q => match q with | (r3, σ4) => if Ok r3 0 then ((sp_X1_beginTrip n σ4 o0 ((102 : Int32)) l1 ((if (12 : Int32) < (σ4.1 r3 8) then (12 : Int32) else (σ4.1 r3 8))) ((-1 : Int32))).bind fun q => match q with | (_, σ8) => some ((1 : Int32), σ8)) else none) else ((sp_X1_place n σ o0 l2).bind fun q => match q with | (r10, σ11) => if Ok r10 0 then if (σ11.1 r10 8) ≤ 0 then lp_X1_startFlight_4 n o0 k σ11 l1 ((l2 + (1 : Int32))) else ((sp_X1_hasAlarm n σ11 o0 r10).bind fun q => match q with | (r16, σ17) => if r16 = 0 then lp_X1_startFlight_4 n o0 k σ17 l1 ((l2 + (1 : Int32))) else if l1 = 0 then lp_X1_startFlight_4 n o0 k σ17 l2 ((l2 + (1 : Int32))) else ((sp_X0_share n σ17 r10).bind fun q => match q with | (r23, σ24) => ((sp_X1_place n σ24 o0 l1).bind fun q => match q with | (r26, σ27) => if Ok r26 0 then ((sp_X0_share n σ27 r26).bind fun q => match q with | (r30, σ31) => if r23 ≤ r30 then lp_X1_startFlight_4 n o0 k σ31 l1 ((l2 + (1 : Int32))) else lp_X1_startFlight_4 n o0 k σ31 l2 ((l2 + (1 : Int32)))) else none))) else none)
theorem lp_X1_startFlight_4_s (n : Nat) (o0 : Nat) (k : Nat) (σ : Mem) (l1 : Int32) (l2 : Int32) : lp_X1_startFlight_4 n o0 (k + 1) σ l1 l2 = (if (σ.1 o0 4) < l2 then if l1 = 0 then some ((0 : Int32), σ) else ((sp_X1_place n σ o0 l1).bind fun q => match q with | (r3, σ4) => if Ok r3 0 then ((sp_X1_beginTrip n σ4 o0 ((102 : Int32)) l1 ((if (12 : Int32) < (σ4.1 r3 8) then (12 : Int32) else (σ4.1 r3 8))) ((-1 : Int32))).bind fun q => match q with | (_, σ8) => some ((1 : Int32), σ8)) else none) else ((sp_X1_place n σ o0 l2).bind fun q => match q with | (r10, σ11) => if Ok r10 0 then if (σ11.1 r10 8) ≤ 0 then lp_X1_startFlight_4 n o0 k σ11 l1 ((l2 + (1 : Int32))) else ((sp_X1_hasAlarm n σ11 o0 r10).bind fun q => match q with | (r16, σ17) => if r16 = 0 then lp_X1_startFlight_4 n o0 k σ17 l1 ((l2 + (1 : Int32))) else if l1 = 0 then lp_X1_startFlight_4 n o0 k σ17 l2 ((l2 + (1 : Int32))) else ((sp_X0_share n σ17 r10).bind fun q => match q with | (r23, σ24) => ((sp_X1_place n σ24 o0 l1).bind fun q => match q with | (r26, σ27) => if Ok r26 0 then ((sp_X0_share n σ27 r26).bind fun q => match q with | (r30, σ31) => if r23 ≤ r30 then lp_X1_startFlight_4 n o0 k σ31 l1 ((l2 + (1 : Int32))) else lp_X1_startFlight_4 n o0 k σ31 l2 ((l2 + (1 : Int32)))) else none))) else none)) := rfl
def sp_X1_startFlight (n : Nat) (σ : Mem) (o0 : Nat) : Option (Int32 × Mem) := lp_X1_startFlight_4 n o0 n σ ((0 : Int32)) ((1 : Int32))
abbrev rm_X1_startFlight : Room := ({ frames := 12, cells := 0, slots := 0, locals := 252 } : Room)
abbrev wu_X1_startFlight : List Cond := (Cond.code yX1_startFlight cX1_startFlight 5 (some .boolean)) :: wsU
theorem hy_X1_startFlight : hyOk yX1_startFlight 0 := by decide +kernel
set_option maxRecDepth 20000 in
set_option maxHeartbeats 4000000 in
theorem c_X1_startFlight (n : Nat) (G : Gt) (σ : Mem) (o0 : Nat) (ho0 : Ok o0 1) (r : Int32) (σ' : Mem) (h : sp_X1_startFlight n σ o0 = some (r, σ')) : MM yX1_startFlight wu_X1_startFlight rm_X1_startFlight [.ref (G.2.2 (o0))] G σ (.inl (some (.int r))) σ' := by
  refine mm_of (cc := cX1_startFlight) (maxL := 5) (ret := (some .boolean)) (by decide +kernel) rfl (Nat.le_of_ble_eq_true rfl) (fun x C X hg => ?_)
  have C : Cx x cX1_startFlight 5 RX1 (some .boolean) [] wu_X1_startFlight rm_X1_startFlight G.1 (tysF G) := C
  have LP4 : ∀ (k : Nat) (σ : Mem) (l1 : Int32) (l2 : Int32), lp_X1_startFlight_4 n o0 k σ l1 l2 = some (r, σ') → J x [(0, .ref (G.2.2 (o0))), (1, .int (l1)), (2, .int (l2))] [] σ 4 0 0 := by
    intro k
    induction k with
    | zero => intro σ l1 l2  h; cases h
    | succ k ih =>
    intro σ l1 l2  h
    rw [lp_X1_startFlight_4_s] at h
    refine j_iload_n C dX1_startFlight_4 2 rfl ?_
    refine j_aload_n C dX1_startFlight_5 0 rfl ?_
    refine j_get C X dX1_startFlight_6 ho0 rfl rfl 4 (by decide) (fin := false) rfl rfl in_X1 (mU u_64) ?_
    refine j_icmp_gt C dX1_startFlight_9 72 (by decide) (fun c1 => ?_) (fun c1 => ?_)
    · have h := (if_pos c1).symm.trans h
      refine j_iload_n C dX1_startFlight_72 1 rfl ?_
      refine j_if_ne C dX1_startFlight_73 78 (by decide) (fun c2 => ?_) (fun c2 => ?_)
      · have h := (if_neg c2).symm.trans h
        refine j_aload_n C dX1_startFlight_78 0 rfl ?_
        refine j_bipush C dX1_startFlight_79 ((102 : Int32)) (by decide) ?_
        refine j_iload_n C dX1_startFlight_81 1 rfl ?_
        refine j_aload_n C dX1_startFlight_82 0 rfl ?_
        refine j_iload_n C dX1_startFlight_83 1 rfl ?_
        obtain ⟨⟨r3, σ4⟩, h5, h⟩ := ob h
        try dsimp only at h
        obtain ⟨k6, h⟩ := sg h
        refine j_callV C X (c_X1_place n G σ o0 l1 ho0 _ _ h5) dX1_startFlight_84 (gV u_97 u_100 u_101 u_98 u_99) rfl hy_X1_place rfl ho0 rfl (ci := 5) rfl rfl rfl (by decide) (Nat.le_of_ble_eq_true rfl) (by decide) ?_
        refine j_get C X dX1_startFlight_87 k6 rfl rfl 8 (by decide) (fin := false) rfl rfl in_X0 (mU u_102) ?_
        refine j_bipush C dX1_startFlight_90 ((12 : Int32)) (by decide) ?_
        refine j_mmin C dX1_startFlight_92 (mU u_143) (mU u_12) (mU u_13) (mU u_14) (by decide) (Nat.le_of_ble_eq_true rfl) (Nat.le_of_ble_eq_true rfl) (Nat.le_of_ble_eq_true rfl) ?_
        refine j_iconst C dX1_startFlight_95 ((-1 : Int32)) (by decide) ?_
        obtain ⟨⟨r7, σ8⟩, h9, h⟩ := ob h
        try dsimp only at h
        refine j_callV C X (c_X1_beginTrip n G σ4 o0 ((102 : Int32)) l1 ((if (12 : Int32) < (σ4.1 r3 8) then (12 : Int32) else (σ4.1 r3 8))) ((-1 : Int32)) ho0 _ _ h9) dX1_startFlight_96 (gV u_144 u_146 u_147 u_98 u_145) rfl hy_X1_beginTrip rfl ho0 rfl (ci := 5) rfl rfl rfl (by decide) (Nat.le_of_ble_eq_true rfl) (by decide) ?_
        refine j_iconst C dX1_startFlight_99 ((1 : Int32)) (by decide) ?_
        exact j_zreturn C (by decide) dX1_startFlight_100 (e_i h hg) (by decide) (by decide)
      · have h := (if_pos c2).symm.trans h
        refine j_iconst C dX1_startFlight_76 ((0 : Int32)) (by decide) ?_
        exact j_zreturn C (by decide) dX1_startFlight_77 (e_i h hg) (by decide) (by decide)
    · have h := (if_neg c1).symm.trans h
      refine j_aload_n C dX1_startFlight_12 0 rfl ?_
      refine j_iload_n C dX1_startFlight_13 2 rfl ?_
      obtain ⟨⟨r10, σ11⟩, h12, h⟩ := ob h
      try dsimp only at h
      obtain ⟨k13, h⟩ := sg h
      refine j_callV C X (c_X1_place n G σ o0 l2 ho0 _ _ h12) dX1_startFlight_14 (gV u_97 u_100 u_101 u_98 u_99) rfl hy_X1_place rfl ho0 rfl (ci := 5) rfl rfl rfl (by decide) (Nat.le_of_ble_eq_true rfl) (by decide) ?_
      refine j_astore_n C dX1_startFlight_17 (by decide) [(3, .ref (G.2.2 (r10))), (0, .ref (G.2.2 (o0))), (1, .int (l1)), (2, .int (l2))] rfl ?_
      refine j_aload_n C dX1_startFlight_18 0 rfl ?_
      refine j_get C X dX1_startFlight_19 k13 rfl rfl 8 (by decide) (fin := false) rfl rfl in_X0 (mU u_102) ?_
      refine j_if_le C dX1_startFlight_22 37 (by decide) (fun c14 => ?_) (fun c14 => ?_)
      · have h := (if_pos c14).symm.trans h
        refine j_iconst C dX1_startFlight_37 ((0 : Int32)) (by decide) ?_
        refine j_istore C dX1_startFlight_38 (by decide) [(4, .int ((0 : Int32))), (3, .ref (G.2.2 (r10))), (0, .ref (G.2.2 (o0))), (1, .int (l1)), (2, .int (l2))] rfl ?_
        refine j_iload C dX1_startFlight_40 0 rfl ?_
        refine j_if_eq C dX1_startFlight_42 66 (by decide) (fun c15 => ?_) (fun c15 => absurd c15 (by decide))
        refine j_iinc C dX1_startFlight_66 4 rfl ((1 : Int32)) (by decide) (by decide) [(2, .int ((l2 + (1 : Int32)))), (4, .int ((0 : Int32))), (3, .ref (G.2.2 (r10))), (0, .ref (G.2.2 (o0))), (1, .int (l1))] rfl ?_
        refine j_goto C dX1_startFlight_69 4 (by decide) ?_
        refine j_sub [3, 4, 0] [(0, .ref (G.2.2 (o0))), (1, .int (l1)), (2, .int ((l2 + (1 : Int32))))] rfl ?_
        exact ih σ11 l1 ((l2 + (1 : Int32)))  h
      · have h := (if_neg c14).symm.trans h
        refine j_aload_n C dX1_startFlight_25 1 rfl ?_
        refine j_aload_n C dX1_startFlight_26 0 rfl ?_
        obtain ⟨⟨r16, σ17⟩, h18, h⟩ := ob h
        try dsimp only at h
        refine j_callV C X (c_X1_hasAlarm n G σ11 o0 r10 ho0 k13 _ _ h18) dX1_startFlight_27 (gV u_148 u_150 u_151 u_98 u_149) rfl hy_X1_hasAlarm rfl ho0 rfl (ci := 5) rfl rfl rfl (by decide) (Nat.le_of_ble_eq_true rfl) (by decide) ?_
        refine j_if_eq C dX1_startFlight_30 37 (by decide) (fun c19 => ?_) (fun c19 => ?_)
        · have h := (if_pos c19).symm.trans h
          refine j_iconst C dX1_startFlight_37 ((0 : Int32)) (by decide) ?_
          refine j_istore C dX1_startFlight_38 (by decide) [(4, .int ((0 : Int32))), (3, .ref (G.2.2 (r10))), (0, .ref (G.2.2 (o0))), (1, .int (l1)), (2, .int (l2))] rfl ?_
          refine j_iload C dX1_startFlight_40 0 rfl ?_
          refine j_if_eq C dX1_startFlight_42 66 (by decide) (fun c20 => ?_) (fun c20 => absurd c20 (by decide))
          refine j_iinc C dX1_startFlight_66 4 rfl ((1 : Int32)) (by decide) (by decide) [(2, .int ((l2 + (1 : Int32)))), (4, .int ((0 : Int32))), (3, .ref (G.2.2 (r10))), (0, .ref (G.2.2 (o0))), (1, .int (l1))] rfl ?_
          refine j_goto C dX1_startFlight_69 4 (by decide) ?_
          refine j_sub [3, 4, 0] [(0, .ref (G.2.2 (o0))), (1, .int (l1)), (2, .int ((l2 + (1 : Int32))))] rfl ?_
          exact ih σ17 l1 ((l2 + (1 : Int32)))  h
        · have h := (if_neg c19).symm.trans h
          refine j_iconst C dX1_startFlight_33 ((1 : Int32)) (by decide) ?_
          refine j_goto C dX1_startFlight_34 38 (by decide) ?_
          refine j_istore C dX1_startFlight_38 (by decide) [(4, .int ((1 : Int32))), (3, .ref (G.2.2 (r10))), (0, .ref (G.2.2 (o0))), (1, .int (l1)), (2, .int (l2))] rfl ?_
          refine j_iload C dX1_startFlight_40 0 rfl ?_
          refine j_if_eq C dX1_startFlight_42 66 (by decide) (fun c21 => absurd c21 (by decide)) (fun c21 => ?_)
          refine j_iload_n C dX1_startFlight_45 3 rfl ?_
          refine j_if_eq C dX1_startFlight_46 64 (by decide) (fun c22 => ?_) (fun c22 => ?_)
          · have h := (if_pos c22).symm.trans h
            refine j_iload_n C dX1_startFlight_64 4 rfl ?_
            refine j_istore_n C dX1_startFlight_65 (by decide) [(1, .int (l2)), (4, .int ((1 : Int32))), (3, .ref (G.2.2 (r10))), (0, .ref (G.2.2 (o0))), (2, .int (l2))] rfl ?_
            refine j_iinc C dX1_startFlight_66 4 rfl ((1 : Int32)) (by decide) (by decide) [(2, .int ((l2 + (1 : Int32)))), (1, .int (l2)), (4, .int ((1 : Int32))), (3, .ref (G.2.2 (r10))), (0, .ref (G.2.2 (o0)))] rfl ?_
            refine j_goto C dX1_startFlight_69 4 (by decide) ?_
            refine j_sub [4, 1, 0] [(0, .ref (G.2.2 (o0))), (1, .int (l2)), (2, .int ((l2 + (1 : Int32))))] rfl ?_
            exact ih σ17 l2 ((l2 + (1 : Int32)))  h
          · have h := (if_neg c22).symm.trans h
            refine j_aload_n C dX1_startFlight_49 1 rfl ?_
            obtain ⟨⟨r23, σ24⟩, h25, h⟩ := ob h
            try dsimp only at h
            refine j_callV C X (c_X0_share n G σ17 r10 k13 _ _ h25) dX1_startFlight_50 (gV u_82 u_84 u_85 u_77 u_83) rfl hy_X0_share rfl k13 rfl (ci := 4) rfl rfl rfl (by decide) (Nat.le_of_ble_eq_true rfl) (by decide) ?_
            refine j_aload_n C dX1_startFlight_53 2 rfl ?_
            refine j_iload_n C dX1_startFlight_54 3 rfl ?_
            obtain ⟨⟨r26, σ27⟩, h28, h⟩ := ob h
            try dsimp only at h
            obtain ⟨k29, h⟩ := sg h
            refine j_callV C X (c_X1_place n G σ24 o0 l1 ho0 _ _ h28) dX1_startFlight_55 (gV u_97 u_100 u_101 u_98 u_99) rfl hy_X1_place rfl ho0 rfl (ci := 5) rfl rfl rfl (by decide) (Nat.le_of_ble_eq_true rfl) (by decide) ?_
            obtain ⟨⟨r30, σ31⟩, h32, h⟩ := ob h
            try dsimp only at h
            refine j_callV C X (c_X0_share n G σ27 r26 k29 _ _ h32) dX1_startFlight_58 (gV u_82 u_84 u_85 u_77 u_83) rfl hy_X0_share rfl k29 rfl (ci := 4) rfl rfl rfl (by decide) (Nat.le_of_ble_eq_true rfl) (by decide) ?_
            refine j_icmp_le C dX1_startFlight_61 66 (by decide) (fun c33 => ?_) (fun c33 => ?_)
            · have h := (if_pos c33).symm.trans h
              refine j_iinc C dX1_startFlight_66 4 rfl ((1 : Int32)) (by decide) (by decide) [(2, .int ((l2 + (1 : Int32)))), (4, .int ((1 : Int32))), (3, .ref (G.2.2 (r10))), (0, .ref (G.2.2 (o0))), (1, .int (l1))] rfl ?_
              refine j_goto C dX1_startFlight_69 4 (by decide) ?_
              refine j_sub [3, 4, 0] [(0, .ref (G.2.2 (o0))), (1, .int (l1)), (2, .int ((l2 + (1 : Int32))))] rfl ?_
              exact ih σ31 l1 ((l2 + (1 : Int32)))  h
            · have h := (if_neg c33).symm.trans h
              refine j_iload_n C dX1_startFlight_64 4 rfl ?_
              refine j_istore_n C dX1_startFlight_65 (by decide) [(1, .int (l2)), (4, .int ((1 : Int32))), (3, .ref (G.2.2 (r10))), (0, .ref (G.2.2 (o0))), (2, .int (l2))] rfl ?_
              refine j_iinc C dX1_startFlight_66 4 rfl ((1 : Int32)) (by decide) (by decide) [(2, .int ((l2 + (1 : Int32)))), (1, .int (l2)), (4, .int ((1 : Int32))), (3, .ref (G.2.2 (r10))), (0, .ref (G.2.2 (o0)))] rfl ?_
              refine j_goto C dX1_startFlight_69 4 (by decide) ?_
              refine j_sub [4, 1, 0] [(0, .ref (G.2.2 (o0))), (1, .int (l2)), (2, .int ((l2 + (1 : Int32))))] rfl ?_
              exact ih σ31 l2 ((l2 + (1 : Int32)))  h
  unfold sp_X1_startFlight at h
  show J x [(0, .ref (G.2.2 (o0)))] [] σ 0 0 0
  refine j_iconst C dX1_startFlight_0 ((0 : Int32)) (by decide) ?_
  refine j_istore_n C dX1_startFlight_1 (by decide) [(1, .int ((0 : Int32))), (0, .ref (G.2.2 (o0)))] rfl ?_
  refine j_iconst C dX1_startFlight_2 ((1 : Int32)) (by decide) ?_
  refine j_istore_n C dX1_startFlight_3 (by decide) [(2, .int ((1 : Int32))), (1, .int ((0 : Int32))), (0, .ref (G.2.2 (o0)))] rfl ?_
  refine j_sub [2, 1, 0] [(0, .ref (G.2.2 (o0))), (1, .int ((0 : Int32))), (2, .int ((1 : Int32)))] rfl ?_
  exact LP4 n σ ((0 : Int32)) ((1 : Int32))  h
def sp_X1_loadOf (n : Nat) (σ : Mem) (o0 : Nat) (o1 : Nat) : Option (Int32 × Mem) := ((sp_X1_place n σ o0 ((σ.1 o1 2))).bind fun q => match q with | (r1, σ2) => if Ok r1 0 then if (σ2.1 o1 1) = (111 : Int32) then some ((if (σ2.1 o1 3) < (σ2.1 r1 9) then (σ2.1 o1 3) else (σ2.1 r1 9)), σ2) else if (σ2.1 o1 1) = (117 : Int32) then some ((if (σ2.1 o1 3) < (σ2.1 r1 8) then (σ2.1 o1 3) else (σ2.1 r1 8)), σ2) else ((sp_X1_hasAlarm n σ2 o0 r1).bind fun q => match q with | (r7, σ8) => if r7 = 0 then ((sp_X1_isShut n σ8 o0 r1).bind fun q => match q with | (r11, σ12) => if r11 = 0 then some ((if (σ12.1 o1 3) < (σ12.1 (rf o0 0) 8) then (σ12.1 o1 3) else (σ12.1 (rf o0 0) 8)), σ12) else some ((0 : Int32), σ12)) else some ((0 : Int32), σ8)) else none)
abbrev rm_X1_loadOf : Room := ({ frames := 12, cells := 0, slots := 0, locals := 241 } : Room)
abbrev wu_X1_loadOf : List Cond := (Cond.code yX1_loadOf cX1_loadOf 3 (some .int)) :: wsU
theorem hy_X1_loadOf : hyOk yX1_loadOf 1 := by decide +kernel
set_option maxRecDepth 20000 in
set_option maxHeartbeats 4000000 in
theorem c_X1_loadOf (n : Nat) (G : Gt) (σ : Mem) (o0 : Nat) (o1 : Nat) (ho0 : Ok o0 1) (ho1 : Ok o1 2) (r : Int32) (σ' : Mem) (h : sp_X1_loadOf n σ o0 o1 = some (r, σ')) : MM yX1_loadOf wu_X1_loadOf rm_X1_loadOf [.ref (G.2.2 (o0)), .ref (G.2.2 (o1))] G σ (.inl (some (.int r))) σ' := by
  refine mm_of (cc := cX1_loadOf) (maxL := 3) (ret := (some .int)) (by decide +kernel) rfl (Nat.le_of_ble_eq_true rfl) (fun x C X hg => ?_)
  have C : Cx x cX1_loadOf 3 RX1 (some .int) [] wu_X1_loadOf rm_X1_loadOf G.1 (tysF G) := C
  unfold sp_X1_loadOf at h
  show J x [(0, .ref (G.2.2 (o0))), (1, .ref (G.2.2 (o1)))] [] σ 0 0 0
  refine j_aload_n C dX1_loadOf_0 0 rfl ?_
  refine j_aload_n C dX1_loadOf_1 1 rfl ?_
  refine j_get C X dX1_loadOf_2 ho1 rfl rfl 2 (by decide) (fin := false) rfl rfl in_X2 (mU u_152) ?_
  obtain ⟨⟨r1, σ2⟩, h3, h⟩ := ob h
  try dsimp only at h
  obtain ⟨k4, h⟩ := sg h
  refine j_callV C X (c_X1_place n G σ o0 ((σ.1 o1 2)) ho0 _ _ h3) dX1_loadOf_5 (gV u_97 u_100 u_101 u_98 u_99) rfl hy_X1_place rfl ho0 rfl (ci := 5) rfl rfl rfl (by decide) (Nat.le_of_ble_eq_true rfl) (by decide) ?_
  refine j_astore_n C dX1_loadOf_8 (by decide) [(2, .ref (G.2.2 (r1))), (0, .ref (G.2.2 (o0))), (1, .ref (G.2.2 (o1)))] rfl ?_
  refine j_aload_n C dX1_loadOf_9 2 rfl ?_
  refine j_get C X dX1_loadOf_10 ho1 rfl rfl 1 (by decide) (fin := false) rfl rfl in_X2 (mU u_153) ?_
  refine j_bipush C dX1_loadOf_13 ((111 : Int32)) (by decide) ?_
  refine j_icmp_ne C dX1_loadOf_15 30 (by decide) (fun c5 => ?_) (fun c5 => ?_)
  · have h := (if_neg c5).symm.trans h
    refine j_aload_n C dX1_loadOf_30 2 rfl ?_
    refine j_get C X dX1_loadOf_31 ho1 rfl rfl 1 (by decide) (fin := false) rfl rfl in_X2 (mU u_153) ?_
    refine j_bipush C dX1_loadOf_34 ((117 : Int32)) (by decide) ?_
    refine j_icmp_ne C dX1_loadOf_36 51 (by decide) (fun c6 => ?_) (fun c6 => ?_)
    · have h := (if_neg c6).symm.trans h
      refine j_aload_n C dX1_loadOf_51 1 rfl ?_
      refine j_aload_n C dX1_loadOf_52 0 rfl ?_
      obtain ⟨⟨r7, σ8⟩, h9, h⟩ := ob h
      try dsimp only at h
      refine j_callV C X (c_X1_hasAlarm n G σ2 o0 r1 ho0 k4 _ _ h9) dX1_loadOf_53 (gV u_148 u_150 u_151 u_98 u_149) rfl hy_X1_hasAlarm rfl ho0 rfl (ci := 5) rfl rfl rfl (by decide) (Nat.le_of_ble_eq_true rfl) (by decide) ?_
      refine j_if_ne C dX1_loadOf_56 67 (by decide) (fun c10 => ?_) (fun c10 => ?_)
      · have h := (if_neg c10).symm.trans h
        refine j_iconst C dX1_loadOf_67 ((0 : Int32)) (by decide) ?_
        exact j_ireturn C dX1_loadOf_68 (e_i h hg) (by decide) (by decide)
      · have h := (if_pos c10).symm.trans h
        refine j_aload_n C dX1_loadOf_59 1 rfl ?_
        refine j_aload_n C dX1_loadOf_60 0 rfl ?_
        obtain ⟨⟨r11, σ12⟩, h13, h⟩ := ob h
        try dsimp only at h
        refine j_callV C X (c_X1_isShut n G σ8 o0 r1 ho0 k4 _ _ h13) dX1_loadOf_61 (gV u_154 u_156 u_157 u_98 u_155) rfl hy_X1_isShut rfl ho0 rfl (ci := 5) rfl rfl rfl (by decide) (Nat.le_of_ble_eq_true rfl) (by decide) ?_
        refine j_if_eq C dX1_loadOf_64 69 (by decide) (fun c14 => ?_) (fun c14 => ?_)
        · have h := (if_pos c14).symm.trans h
          refine j_aload_n C dX1_loadOf_69 1 rfl ?_
          refine j_get C X dX1_loadOf_70 ho0 rfl rfl 0 (by decide) (fin := true) rfl rfl in_X1 (mU u_81) ?_
          refine j_get C X dX1_loadOf_73 (sh_1_0 ho0) rfl rfl 8 (by decide) (fin := false) rfl rfl in_X0 (mU u_102) ?_
          refine j_aload_n C dX1_loadOf_76 2 rfl ?_
          refine j_get C X dX1_loadOf_77 ho1 rfl rfl 3 (by decide) (fin := false) rfl rfl in_X2 (mU u_158) ?_
          refine j_mmin C dX1_loadOf_80 (mU u_143) (mU u_12) (mU u_13) (mU u_14) (by decide) (Nat.le_of_ble_eq_true rfl) (Nat.le_of_ble_eq_true rfl) (Nat.le_of_ble_eq_true rfl) ?_
          exact j_ireturn C dX1_loadOf_83 (e_i h hg) (by decide) (by decide)
        · have h := (if_neg c14).symm.trans h
          refine j_iconst C dX1_loadOf_67 ((0 : Int32)) (by decide) ?_
          exact j_ireturn C dX1_loadOf_68 (e_i h hg) (by decide) (by decide)
    · have h := (if_pos c6).symm.trans h
      refine j_aload_n C dX1_loadOf_39 0 rfl ?_
      refine j_get C X dX1_loadOf_40 k4 rfl rfl 8 (by decide) (fin := false) rfl rfl in_X0 (mU u_102) ?_
      refine j_aload_n C dX1_loadOf_43 2 rfl ?_
      refine j_get C X dX1_loadOf_44 ho1 rfl rfl 3 (by decide) (fin := false) rfl rfl in_X2 (mU u_158) ?_
      refine j_mmin C dX1_loadOf_47 (mU u_143) (mU u_12) (mU u_13) (mU u_14) (by decide) (Nat.le_of_ble_eq_true rfl) (Nat.le_of_ble_eq_true rfl) (Nat.le_of_ble_eq_true rfl) ?_
      exact j_ireturn C dX1_loadOf_50 (e_i h hg) (by decide) (by decide)
  · have h := (if_pos c5).symm.trans h
    refine j_aload_n C dX1_loadOf_18 0 rfl ?_
    refine j_get C X dX1_loadOf_19 k4 rfl rfl 9 (by decide) (fin := false) rfl rfl in_X0 (mU u_130) ?_
    refine j_aload_n C dX1_loadOf_22 2 rfl ?_
    refine j_get C X dX1_loadOf_23 ho1 rfl rfl 3 (by decide) (fin := false) rfl rfl in_X2 (mU u_158) ?_
    refine j_mmin C dX1_loadOf_26 (mU u_143) (mU u_12) (mU u_13) (mU u_14) (by decide) (Nat.le_of_ble_eq_true rfl) (Nat.le_of_ble_eq_true rfl) (Nat.le_of_ble_eq_true rfl) ?_
    exact j_ireturn C dX1_loadOf_29 (e_i h hg) (by decide) (by decide)
def lp_X1_startRequest_2 (n : Nat) (o0 : Nat) (a1 : Int32) : Nat → Mem → Int32 → Int32 → Option (Int32 × Mem)
  | 0, _, _, _ => none
  | k + 1, σ, l1, l2 => if (8 : Int32) ≤ l2 then some ((0 : Int32), σ) else ((sp_X4_oldest n σ ((rf o0 2)) l1).bind fun q => match q with | (none, σ3) => some ((0 : Int32), σ3) | (some r2, σ3) => if Ok r2 2 then ((sp_X4_remove n σ3 ((rf o0 2)) ((σ3.1 r2 0))).bind fun q => match q with | (_, σ7) => ((sp_X1_loadOf n σ7 o0 r2).bind fun q => match q with | (r9, σ10) => if r9 ≤ 0 then (lm (wi σ10 o0 14 ((σ10.1 o0 14) + (1 : Int32))) fun σ13 => lp_X1_startRequest_2 n o0 a1 k σ13 l1 ((l2 + (1 : Int32)))) else ((sp_X1_beginTrip n σ10 o0 ((σ10.1 r2 1)) ((σ10.1 r2 2)) r9 ((σ10.1 r2 0))).bind fun q => match q with | (_, σ16) => some ((1 : Int32), σ16)))) else none)
theorem lp_X1_startRequest_2_s (n : Nat) (o0 : Nat) (a1 : Int32) (k : Nat) (σ : Mem) (l1 : Int32) (l2 : Int32) : lp_X1_startRequest_2 n o0 a1 (k + 1) σ l1 l2 = (if (8 : Int32) ≤ l2 then some ((0 : Int32), σ) else ((sp_X4_oldest n σ ((rf o0 2)) l1).bind fun q => match q with | (none, σ3) => some ((0 : Int32), σ3) | (some r2, σ3) => if Ok r2 2 then ((sp_X4_remove n σ3 ((rf o0 2)) ((σ3.1 r2 0))).bind fun q => match q with | (_, σ7) => ((sp_X1_loadOf n σ7 o0 r2).bind fun q => match q with | (r9, σ10) => if r9 ≤ 0 then (lm (wi σ10 o0 14 ((σ10.1 o0 14) + (1 : Int32))) fun σ13 => lp_X1_startRequest_2 n o0 a1 k σ13 l1 ((l2 + (1 : Int32)))) else ((sp_X1_beginTrip n σ10 o0 ((σ10.1 r2 1)) ((σ10.1 r2 2)) r9 ((σ10.1 r2 0))).bind fun q => match q with | (_, σ16) => some ((1 : Int32), σ16)))) else none)) := rfl
def sp_X1_startRequest (n : Nat) (σ : Mem) (o0 : Nat) (a1 : Int32) : Option (Int32 × Mem) := lp_X1_startRequest_2 n o0 a1 n σ a1 ((0 : Int32))
abbrev rm_X1_startRequest : Room := ({ frames := 13, cells := 0, slots := 0, locals := 267 } : Room)
abbrev wu_X1_startRequest : List Cond := (Cond.code yX1_startRequest cX1_startRequest 5 (some .boolean)) :: wsU
theorem hy_X1_startRequest : hyOk yX1_startRequest 1 := by decide +kernel
set_option maxRecDepth 20000 in
set_option maxHeartbeats 4000000 in
theorem c_X1_startRequest (n : Nat) (G : Gt) (σ : Mem) (o0 : Nat) (a1 : Int32) (ho0 : Ok o0 1) (r : Int32) (σ' : Mem) (h : sp_X1_startRequest n σ o0 a1 = some (r, σ')) : MM yX1_startRequest wu_X1_startRequest rm_X1_startRequest [.ref (G.2.2 (o0)), .int (a1)] G σ (.inl (some (.int r))) σ' := by
  refine mm_of (cc := cX1_startRequest) (maxL := 5) (ret := (some .boolean)) (by decide +kernel) rfl (Nat.le_of_ble_eq_true rfl) (fun x C X hg => ?_)
  have C : Cx x cX1_startRequest 5 RX1 (some .boolean) [] wu_X1_startRequest rm_X1_startRequest G.1 (tysF G) := C
  have LP2 : ∀ (k : Nat) (σ : Mem) (l1 : Int32) (l2 : Int32), lp_X1_startRequest_2 n o0 a1 k σ l1 l2 = some (r, σ') → J x [(0, .ref (G.2.2 (o0))), (1, .int (l1)), (2, .int (l2))] [] σ 2 0 0 := by
    intro k
    induction k with
    | zero => intro σ l1 l2  h; cases h
    | succ k ih =>
    intro σ l1 l2  h
    rw [lp_X1_startRequest_2_s] at h
    refine j_iload_n C dX1_startRequest_2 2 rfl ?_
    refine j_bipush C dX1_startRequest_3 ((8 : Int32)) (by decide) ?_
    refine j_icmp_ge C dX1_startRequest_5 82 (by decide) (fun c1 => ?_) (fun c1 => ?_)
    · have h := (if_pos c1).symm.trans h
      refine j_iconst C dX1_startRequest_82 ((0 : Int32)) (by decide) ?_
      exact j_zreturn C (by decide) dX1_startRequest_83 (e_i h hg) (by decide) (by decide)
    · have h := (if_neg c1).symm.trans h
      refine j_aload_n C dX1_startRequest_8 0 rfl ?_
      refine j_get C X dX1_startRequest_9 ho0 rfl rfl 2 (by decide) (fin := true) rfl rfl in_X1 (mU u_54) ?_
      refine j_iload_n C dX1_startRequest_12 1 rfl ?_
      obtain ⟨⟨r2, σ3⟩, h4, h⟩ := ob h
      try dsimp only at h
      rcases r2 with _ | r2 <;> (try dsimp only at h)
      · refine j_callV C X (c_X4_oldest n G σ ((rf o0 2)) l1 (sh_1_2 ho0) _ _ h4) dX1_startRequest_13 (gV u_159 u_161 u_162 u_45 u_160) rfl hy_X4_oldest rfl (sh_1_2 ho0) rfl (ci := 8) rfl rfl rfl (by decide) (Nat.le_of_ble_eq_true rfl) (by decide) ?_
        refine j_astore_nN C dX1_startRequest_16 (by decide) [(3, .null), (0, .ref (G.2.2 (o0))), (1, .int (l1)), (2, .int (l2))] rfl ?_
        refine j_aload_nN C dX1_startRequest_17 0 rfl ?_
        refine j_ifnonnullN C dX1_startRequest_18 ?_
        refine j_iconst C dX1_startRequest_21 ((0 : Int32)) (by decide) ?_
        exact j_zreturn C (by decide) dX1_startRequest_22 (e_i h hg) (by decide) (by decide)
      · obtain ⟨k5, h⟩ := sg h
        refine j_callV C X (c_X4_oldest n G σ ((rf o0 2)) l1 (sh_1_2 ho0) _ _ h4) dX1_startRequest_13 (gV u_159 u_161 u_162 u_45 u_160) rfl hy_X4_oldest rfl (sh_1_2 ho0) rfl (ci := 8) rfl rfl rfl (by decide) (Nat.le_of_ble_eq_true rfl) (by decide) ?_
        refine j_astore_n C dX1_startRequest_16 (by decide) [(3, .ref (G.2.2 (r2))), (0, .ref (G.2.2 (o0))), (1, .int (l1)), (2, .int (l2))] rfl ?_
        refine j_aload_n C dX1_startRequest_17 0 rfl ?_
        refine j_ifnonnull C dX1_startRequest_18 23 (by decide) ?_
        refine j_aload_n C dX1_startRequest_23 1 rfl ?_
        refine j_get C X dX1_startRequest_24 ho0 rfl rfl 2 (by decide) (fin := true) rfl rfl in_X1 (mU u_54) ?_
        refine j_aload_n C dX1_startRequest_27 0 rfl ?_
        refine j_get C X dX1_startRequest_28 k5 rfl rfl 0 (by decide) (fin := false) rfl rfl in_X2 (mU u_163) ?_
        obtain ⟨⟨r6, σ7⟩, h8, h⟩ := ob h
        try dsimp only at h
        refine j_callV C X (c_X4_remove n G σ3 ((rf o0 2)) ((σ3.1 r2 0)) (sh_1_2 ho0) _ _ h8) dX1_startRequest_31 (gV u_164 u_166 u_167 u_45 u_165) rfl hy_X4_remove rfl (sh_1_2 ho0) rfl (ci := 8) rfl rfl rfl (by decide) (Nat.le_of_ble_eq_true rfl) (by decide) ?_
        refine j_aload_n C dX1_startRequest_34 1 rfl ?_
        refine j_aload_n C dX1_startRequest_35 0 rfl ?_
        obtain ⟨⟨r9, σ10⟩, h11, h⟩ := ob h
        try dsimp only at h
        refine j_callV C X (c_X1_loadOf n G σ7 o0 r2 ho0 k5 _ _ h11) dX1_startRequest_36 (gV u_168 u_170 u_171 u_98 u_169) rfl hy_X1_loadOf rfl ho0 rfl (ci := 5) rfl rfl rfl (by decide) (Nat.le_of_ble_eq_true rfl) (by decide) ?_
        refine j_istore C dX1_startRequest_39 (by decide) [(4, .int (r9)), (3, .ref (G.2.2 (r2))), (0, .ref (G.2.2 (o0))), (1, .int (l1)), (2, .int (l2))] rfl ?_
        refine j_iload C dX1_startRequest_41 0 rfl ?_
        refine j_if_le C dX1_startRequest_43 66 (by decide) (fun c12 => ?_) (fun c12 => ?_)
        · have h := (if_pos c12).symm.trans h
          refine j_aload_n C dX1_startRequest_66 2 rfl ?_
          refine j_dup C dX1_startRequest_67 rfl ?_
          refine j_get C X dX1_startRequest_68 ho0 rfl rfl 14 (by decide) (fin := false) rfl rfl in_X1 (mU u_74) ?_
          refine j_iconst C dX1_startRequest_71 ((1 : Int32)) (by decide) ?_
          refine j_iadd C dX1_startRequest_72 ?_
          obtain ⟨σ13, e14, h⟩ := lm_e h
          refine j_put C X dX1_startRequest_73 ho0 (ty0 := tyX1) rfl rfl 14 (by decide) rfl rfl (Nat.le_of_ble_eq_true rfl) tyX1_ok nmX1 (ty := .int) rfl rfl rfl in_X1 (mU u_74) e14 ?_
          refine j_iinc C dX1_startRequest_76 4 rfl ((1 : Int32)) (by decide) (by decide) [(2, .int ((l2 + (1 : Int32)))), (4, .int (r9)), (3, .ref (G.2.2 (r2))), (0, .ref (G.2.2 (o0))), (1, .int (l1))] rfl ?_
          refine j_goto C dX1_startRequest_79 2 (by decide) ?_
          refine j_sub [3, 4, 0] [(0, .ref (G.2.2 (o0))), (1, .int (l1)), (2, .int ((l2 + (1 : Int32))))] rfl ?_
          exact ih σ13 l1 ((l2 + (1 : Int32)))  h
        · have h := (if_neg c12).symm.trans h
          refine j_aload_n C dX1_startRequest_46 2 rfl ?_
          refine j_aload_n C dX1_startRequest_47 1 rfl ?_
          refine j_get C X dX1_startRequest_48 k5 rfl rfl 1 (by decide) (fin := false) rfl rfl in_X2 (mU u_153) ?_
          refine j_aload_n C dX1_startRequest_51 1 rfl ?_
          refine j_get C X dX1_startRequest_52 k5 rfl rfl 2 (by decide) (fin := false) rfl rfl in_X2 (mU u_152) ?_
          refine j_iload C dX1_startRequest_55 0 rfl ?_
          refine j_aload_n C dX1_startRequest_57 1 rfl ?_
          refine j_get C X dX1_startRequest_58 k5 rfl rfl 0 (by decide) (fin := false) rfl rfl in_X2 (mU u_163) ?_
          obtain ⟨⟨r15, σ16⟩, h17, h⟩ := ob h
          try dsimp only at h
          refine j_callV C X (c_X1_beginTrip n G σ10 o0 ((σ10.1 r2 1)) ((σ10.1 r2 2)) r9 ((σ10.1 r2 0)) ho0 _ _ h17) dX1_startRequest_61 (gV u_144 u_146 u_147 u_98 u_145) rfl hy_X1_beginTrip rfl ho0 rfl (ci := 5) rfl rfl rfl (by decide) (Nat.le_of_ble_eq_true rfl) (by decide) ?_
          refine j_iconst C dX1_startRequest_64 ((1 : Int32)) (by decide) ?_
          exact j_zreturn C (by decide) dX1_startRequest_65 (e_i h hg) (by decide) (by decide)
  unfold sp_X1_startRequest at h
  show J x [(0, .ref (G.2.2 (o0))), (1, .int (a1))] [] σ 0 0 0
  refine j_iconst C dX1_startRequest_0 ((0 : Int32)) (by decide) ?_
  refine j_istore_n C dX1_startRequest_1 (by decide) [(2, .int ((0 : Int32))), (0, .ref (G.2.2 (o0))), (1, .int (a1))] rfl ?_
  refine j_sub [1, 2, 0] [(0, .ref (G.2.2 (o0))), (1, .int (a1)), (2, .int ((0 : Int32)))] rfl ?_
  exact LP2 n σ a1 ((0 : Int32))  h
def sp_X1_endTrip (n : Nat) (σ : Mem) (o0 : Nat) : Option (Unit × Mem) := if (σ.1 (rf o0 3) 0) = (100 : Int32) then (lm (wi σ o0 12 (σ.1 (rf o0 3) 1)) fun σ18 => ((sp_X1_place n σ18 o0 ((σ18.1 o0 12))).bind fun q => match q with | (r20, σ21) => if Ok r20 0 then ((sp_X1_carry n σ21 r20 ((σ21.1 (rf o0 3) 0)) ((σ21.1 (rf o0 3) 2))).bind fun q => match q with | (_, σ25) => (lm (wi σ25 o0 15 (σ25.1 (rf o0 3) 4)) fun σ27 => (lm (wi σ27 o0 13 ((σ27.1 o0 13) + (1 : Int32))) fun σ29 => ((sp_X3_clear n σ29 ((rf o0 3))).bind fun q => match q with | (_, σ32) => some ((), σ32))))) else none)) else (lm (wi σ o0 12 (0 : Int32)) fun σ2 => ((sp_X1_place n σ2 o0 ((σ2.1 o0 12))).bind fun q => match q with | (r4, σ5) => if Ok r4 0 then ((sp_X1_carry n σ5 r4 ((σ5.1 (rf o0 3) 0)) ((σ5.1 (rf o0 3) 2))).bind fun q => match q with | (_, σ9) => (lm (wi σ9 o0 15 (σ9.1 (rf o0 3) 4)) fun σ11 => (lm (wi σ11 o0 13 ((σ11.1 o0 13) + (1 : Int32))) fun σ13 => ((sp_X3_clear n σ13 ((rf o0 3))).bind fun q => match q with | (_, σ16) => some ((), σ16))))) else none))
abbrev rm_X1_endTrip : Room := ({ frames := 12, cells := 0, slots := 0, locals := 245 } : Room)
abbrev wu_X1_endTrip : List Cond := (Cond.code yX1_endTrip cX1_endTrip 1 none) :: wsU
theorem hy_X1_endTrip : hyOk yX1_endTrip 0 := by decide +kernel
set_option maxRecDepth 20000 in
set_option maxHeartbeats 4000000 in
theorem c_X1_endTrip (n : Nat) (G : Gt) (σ : Mem) (o0 : Nat) (ho0 : Ok o0 1) (r : Unit) (σ' : Mem) (h : sp_X1_endTrip n σ o0 = some (r, σ')) : MM yX1_endTrip wu_X1_endTrip rm_X1_endTrip [.ref (G.2.2 (o0))] G σ (.inl none) σ' := by
  refine mm_of (cc := cX1_endTrip) (maxL := 1) (ret := none) (by decide +kernel) rfl (Nat.le_of_ble_eq_true rfl) (fun x C X hg => ?_)
  have C : Cx x cX1_endTrip 1 RX1 none [] wu_X1_endTrip rm_X1_endTrip G.1 (tysF G) := C
  unfold sp_X1_endTrip at h
  show J x [(0, .ref (G.2.2 (o0)))] [] σ 0 0 0
  refine j_aload_n C dX1_endTrip_0 0 rfl ?_
  refine j_aload_n C dX1_endTrip_1 0 rfl ?_
  refine j_get C X dX1_endTrip_2 ho0 rfl rfl 3 (by decide) (fin := true) rfl rfl in_X1 (mU u_59) ?_
  refine j_get C X dX1_endTrip_5 (sh_1_3 ho0) rfl rfl 0 (by decide) (fin := false) rfl rfl in_X3 (mU u_95) ?_
  refine j_bipush C dX1_endTrip_8 ((100 : Int32)) (by decide) ?_
  refine j_icmp_ne C dX1_endTrip_10 23 (by decide) (fun c1 => ?_) (fun c1 => ?_)
  · have h := (if_neg c1).symm.trans h
    refine j_iconst C dX1_endTrip_23 ((0 : Int32)) (by decide) ?_
    obtain ⟨σ2, e3, h⟩ := lm_e h
    refine j_put C X dX1_endTrip_24 ho0 (ty0 := tyX1) rfl rfl 12 (by decide) rfl rfl (Nat.le_of_ble_eq_true rfl) tyX1_ok nmX1 (ty := .int) rfl rfl rfl in_X1 (mU u_72) e3 ?_
    refine j_aload_n C dX1_endTrip_27 0 rfl ?_
    refine j_aload_n C dX1_endTrip_28 0 rfl ?_
    refine j_get C X dX1_endTrip_29 ho0 rfl rfl 12 (by decide) (fin := false) rfl rfl in_X1 (mU u_72) ?_
    obtain ⟨⟨r4, σ5⟩, h6, h⟩ := ob h
    try dsimp only at h
    obtain ⟨k7, h⟩ := sg h
    refine j_callV C X (c_X1_place n G σ2 o0 ((σ2.1 o0 12)) ho0 _ _ h6) dX1_endTrip_32 (gV u_97 u_100 u_101 u_98 u_99) rfl hy_X1_place rfl ho0 rfl (ci := 5) rfl rfl rfl (by decide) (Nat.le_of_ble_eq_true rfl) (by decide) ?_
    refine j_aload_n C dX1_endTrip_35 0 rfl ?_
    refine j_get C X dX1_endTrip_36 ho0 rfl rfl 3 (by decide) (fin := true) rfl rfl in_X1 (mU u_59) ?_
    refine j_get C X dX1_endTrip_39 (sh_1_3 ho0) rfl rfl 0 (by decide) (fin := false) rfl rfl in_X3 (mU u_95) ?_
    refine j_aload_n C dX1_endTrip_42 0 rfl ?_
    refine j_get C X dX1_endTrip_43 ho0 rfl rfl 3 (by decide) (fin := true) rfl rfl in_X1 (mU u_59) ?_
    refine j_get C X dX1_endTrip_46 (sh_1_3 ho0) rfl rfl 2 (by decide) (fin := false) rfl rfl in_X3 (mU u_96) ?_
    obtain ⟨⟨r8, σ9⟩, h10, h⟩ := ob h
    try dsimp only at h
    refine j_callS C X (c_X1_carry n G σ5 r4 ((σ5.1 (rf o0 3) 0)) ((σ5.1 (rf o0 3) 2)) k7 _ _ h10) dX1_endTrip_49 (gS u_139 u_141 u_98 u_140) rfl hy_X1_carry rfl rfl (by decide) (Nat.le_of_ble_eq_true rfl) (by decide) ?_
    refine j_aload_n C dX1_endTrip_52 0 rfl ?_
    refine j_aload_n C dX1_endTrip_53 0 rfl ?_
    refine j_get C X dX1_endTrip_54 ho0 rfl rfl 3 (by decide) (fin := true) rfl rfl in_X1 (mU u_59) ?_
    refine j_get C X dX1_endTrip_57 (sh_1_3 ho0) rfl rfl 4 (by decide) (fin := false) rfl rfl in_X3 (mU u_172) ?_
    obtain ⟨σ11, e12, h⟩ := lm_e h
    refine j_put C X dX1_endTrip_60 ho0 (ty0 := tyX1) rfl rfl 15 (by decide) rfl rfl (Nat.le_of_ble_eq_true rfl) tyX1_ok nmX1 (ty := .int) rfl rfl rfl in_X1 (mU u_75) e12 ?_
    refine j_aload_n C dX1_endTrip_63 0 rfl ?_
    refine j_dup C dX1_endTrip_64 rfl ?_
    refine j_get C X dX1_endTrip_65 ho0 rfl rfl 13 (by decide) (fin := false) rfl rfl in_X1 (mU u_73) ?_
    refine j_iconst C dX1_endTrip_68 ((1 : Int32)) (by decide) ?_
    refine j_iadd C dX1_endTrip_69 ?_
    obtain ⟨σ13, e14, h⟩ := lm_e h
    refine j_put C X dX1_endTrip_70 ho0 (ty0 := tyX1) rfl rfl 13 (by decide) rfl rfl (Nat.le_of_ble_eq_true rfl) tyX1_ok nmX1 (ty := .int) rfl rfl rfl in_X1 (mU u_73) e14 ?_
    refine j_aload_n C dX1_endTrip_73 0 rfl ?_
    refine j_get C X dX1_endTrip_74 ho0 rfl rfl 3 (by decide) (fin := true) rfl rfl in_X1 (mU u_59) ?_
    obtain ⟨⟨r15, σ16⟩, h17, h⟩ := ob h
    try dsimp only at h
    refine j_callV C X (c_X3_clear n G σ13 ((rf o0 3)) (sh_1_3 ho0) _ _ h17) dX1_endTrip_77 (gV u_173 u_175 u_176 u_25 u_174) rfl hy_X3_clear rfl (sh_1_3 ho0) rfl (ci := 7) rfl rfl rfl (by decide) (Nat.le_of_ble_eq_true rfl) (by decide) ?_
    exact j_return C dX1_endTrip_80 (e_v h hg) (by decide) (by decide)
  · have h := (if_pos c1).symm.trans h
    refine j_aload_n C dX1_endTrip_13 0 rfl ?_
    refine j_get C X dX1_endTrip_14 ho0 rfl rfl 3 (by decide) (fin := true) rfl rfl in_X1 (mU u_59) ?_
    refine j_get C X dX1_endTrip_17 (sh_1_3 ho0) rfl rfl 1 (by decide) (fin := false) rfl rfl in_X3 (mU u_177) ?_
    refine j_goto C dX1_endTrip_20 24 (by decide) ?_
    obtain ⟨σ18, e19, h⟩ := lm_e h
    refine j_put C X dX1_endTrip_24 ho0 (ty0 := tyX1) rfl rfl 12 (by decide) rfl rfl (Nat.le_of_ble_eq_true rfl) tyX1_ok nmX1 (ty := .int) rfl rfl rfl in_X1 (mU u_72) e19 ?_
    refine j_aload_n C dX1_endTrip_27 0 rfl ?_
    refine j_aload_n C dX1_endTrip_28 0 rfl ?_
    refine j_get C X dX1_endTrip_29 ho0 rfl rfl 12 (by decide) (fin := false) rfl rfl in_X1 (mU u_72) ?_
    obtain ⟨⟨r20, σ21⟩, h22, h⟩ := ob h
    try dsimp only at h
    obtain ⟨k23, h⟩ := sg h
    refine j_callV C X (c_X1_place n G σ18 o0 ((σ18.1 o0 12)) ho0 _ _ h22) dX1_endTrip_32 (gV u_97 u_100 u_101 u_98 u_99) rfl hy_X1_place rfl ho0 rfl (ci := 5) rfl rfl rfl (by decide) (Nat.le_of_ble_eq_true rfl) (by decide) ?_
    refine j_aload_n C dX1_endTrip_35 0 rfl ?_
    refine j_get C X dX1_endTrip_36 ho0 rfl rfl 3 (by decide) (fin := true) rfl rfl in_X1 (mU u_59) ?_
    refine j_get C X dX1_endTrip_39 (sh_1_3 ho0) rfl rfl 0 (by decide) (fin := false) rfl rfl in_X3 (mU u_95) ?_
    refine j_aload_n C dX1_endTrip_42 0 rfl ?_
    refine j_get C X dX1_endTrip_43 ho0 rfl rfl 3 (by decide) (fin := true) rfl rfl in_X1 (mU u_59) ?_
    refine j_get C X dX1_endTrip_46 (sh_1_3 ho0) rfl rfl 2 (by decide) (fin := false) rfl rfl in_X3 (mU u_96) ?_
    obtain ⟨⟨r24, σ25⟩, h26, h⟩ := ob h
    try dsimp only at h
    refine j_callS C X (c_X1_carry n G σ21 r20 ((σ21.1 (rf o0 3) 0)) ((σ21.1 (rf o0 3) 2)) k23 _ _ h26) dX1_endTrip_49 (gS u_139 u_141 u_98 u_140) rfl hy_X1_carry rfl rfl (by decide) (Nat.le_of_ble_eq_true rfl) (by decide) ?_
    refine j_aload_n C dX1_endTrip_52 0 rfl ?_
    refine j_aload_n C dX1_endTrip_53 0 rfl ?_
    refine j_get C X dX1_endTrip_54 ho0 rfl rfl 3 (by decide) (fin := true) rfl rfl in_X1 (mU u_59) ?_
    refine j_get C X dX1_endTrip_57 (sh_1_3 ho0) rfl rfl 4 (by decide) (fin := false) rfl rfl in_X3 (mU u_172) ?_
    obtain ⟨σ27, e28, h⟩ := lm_e h
    refine j_put C X dX1_endTrip_60 ho0 (ty0 := tyX1) rfl rfl 15 (by decide) rfl rfl (Nat.le_of_ble_eq_true rfl) tyX1_ok nmX1 (ty := .int) rfl rfl rfl in_X1 (mU u_75) e28 ?_
    refine j_aload_n C dX1_endTrip_63 0 rfl ?_
    refine j_dup C dX1_endTrip_64 rfl ?_
    refine j_get C X dX1_endTrip_65 ho0 rfl rfl 13 (by decide) (fin := false) rfl rfl in_X1 (mU u_73) ?_
    refine j_iconst C dX1_endTrip_68 ((1 : Int32)) (by decide) ?_
    refine j_iadd C dX1_endTrip_69 ?_
    obtain ⟨σ29, e30, h⟩ := lm_e h
    refine j_put C X dX1_endTrip_70 ho0 (ty0 := tyX1) rfl rfl 13 (by decide) rfl rfl (Nat.le_of_ble_eq_true rfl) tyX1_ok nmX1 (ty := .int) rfl rfl rfl in_X1 (mU u_73) e30 ?_
    refine j_aload_n C dX1_endTrip_73 0 rfl ?_
    refine j_get C X dX1_endTrip_74 ho0 rfl rfl 3 (by decide) (fin := true) rfl rfl in_X1 (mU u_59) ?_
    obtain ⟨⟨r31, σ32⟩, h33, h⟩ := ob h
    try dsimp only at h
    refine j_callV C X (c_X3_clear n G σ29 ((rf o0 3)) (sh_1_3 ho0) _ _ h33) dX1_endTrip_77 (gV u_173 u_175 u_176 u_25 u_174) rfl hy_X3_clear rfl (sh_1_3 ho0) rfl (ci := 7) rfl rfl rfl (by decide) (Nat.le_of_ble_eq_true rfl) (by decide) ?_
    exact j_return C dX1_endTrip_80 (e_v h hg) (by decide) (by decide)
def lp_X1_passMinute_93 (n : Nat) (o0 : Nat) (σ : Mem) (l1 : Int32) : Option (Unit × Mem) := (lm (wi σ o0 8 ((σ.1 o0 8) + (1 : Int32))) fun σ10 => some ((), σ10))
def lp_X1_passMinute_56 (n : Nat) (o0 : Nat) (σ : Mem) (l1 : Int32) : Option (Unit × Mem) := ((sp_X3_isOn n σ ((rf o0 3))).bind fun q => match q with | (r6, σ7) => if r6 = 0 then lp_X1_passMinute_93 n o0 σ7 l1 else (lm (wi σ7 (rf o0 3) 3 ((σ7.1 (rf o0 3) 3) - (1 : Int32))) fun σ12 => if 0 < (σ12.1 (rf o0 3) 3) then lp_X1_passMinute_93 n o0 σ12 l1 else ((sp_X1_endTrip n σ12 o0).bind fun q => match q with | (_, σ16) => lp_X1_passMinute_93 n o0 σ16 l1)))
def lp_X1_passMinute_2 (n : Nat) (o0 : Nat) : Nat → Mem → Int32 → Option (Unit × Mem)
  | 0, _, _ => none
  | k + 1, σ, l1 => if (σ.1 o0 4) < l1 then ((sp_X3_isOn n σ ((rf o0 3))).bind fun q => match q with | (r2, σ3) => if r2 = 0 then ((sp_X1_startFlight n σ3 o0).bind fun q => match q with | (r18, σ19) => if r18 = 0 then ((sp_X1_startRequest n σ19 o0 ((0 : Int32))).bind fun q => match q with | (r22, σ23) => if r22 = 0 then ((sp_X1_startRequest n σ23 o0 ((1 : Int32))).bind fun q => match q with | (r26, σ27) => lp_X1_passMinute_56 n o0 σ27 l1) else lp_X1_passMinute_56 n o0 σ23 l1) else lp_X1_passMinute_56 n o0 σ19 l1) else lp_X1_passMinute_56 n o0 σ3 l1) else ((sp_X1_place n σ o0 l1).bind fun q => match q with | (r29, σ30) => if Ok r29 0 then ((sp_X1_moveGas n σ30 o0 r29).bind fun q => match q with | (_, σ34) => lp_X1_passMinute_2 n o0 k σ34 ((l1 + (1 : Int32)))) else none)
theorem lp_X1_passMinute_2_s (n : Nat) (o0 : Nat) (k : Nat) (σ : Mem) (l1 : Int32) : lp_X1_passMinute_2 n o0 (k + 1) σ l1 = (if (σ.1 o0 4) < l1 then ((sp_X3_isOn n σ ((rf o0 3))).bind fun q => match q with | (r2, σ3) => if r2 = 0 then ((sp_X1_startFlight n σ3 o0).bind fun q => match q with | (r18, σ19) => if r18 = 0 then ((sp_X1_startRequest n σ19 o0 ((0 : Int32))).bind fun q => match q with | (r22, σ23) => if r22 = 0 then ((sp_X1_startRequest n σ23 o0 ((1 : Int32))).bind fun q => match q with | (r26, σ27) => lp_X1_passMinute_56 n o0 σ27 l1) else lp_X1_passMinute_56 n o0 σ23 l1) else lp_X1_passMinute_56 n o0 σ19 l1) else lp_X1_passMinute_56 n o0 σ3 l1) else ((sp_X1_place n σ o0 l1).bind fun q => match q with | (r29, σ30) => if Ok r29 0 then ((sp_X1_moveGas n σ30 o0 r29).bind fun q => match q with | (_, σ34) => lp_X1_passMinute_2 n o0 k σ34 ((l1 + (1 : Int32)))) else none)) := rfl
def sp_X1_passMinute (n : Nat) (σ : Mem) (o0 : Nat) : Option (Unit × Mem) := lp_X1_passMinute_2 n o0 n σ ((1 : Int32))
abbrev rm_X1_passMinute : Room := ({ frames := 14, cells := 0, slots := 0, locals := 291 } : Room)
abbrev wu_X1_passMinute : List Cond := (Cond.code yX1_passMinute cX1_passMinute 2 none) :: wsU
theorem hy_X1_passMinute : hyOk yX1_passMinute 0 := by decide +kernel
set_option maxRecDepth 20000 in
set_option maxHeartbeats 4000000 in
theorem c_X1_passMinute (n : Nat) (G : Gt) (σ : Mem) (o0 : Nat) (ho0 : Ok o0 1) (r : Unit) (σ' : Mem) (h : sp_X1_passMinute n σ o0 = some (r, σ')) : MM yX1_passMinute wu_X1_passMinute rm_X1_passMinute [.ref (G.2.2 (o0))] G σ (.inl none) σ' := by
  refine mm_of (cc := cX1_passMinute) (maxL := 2) (ret := none) (by decide +kernel) rfl (Nat.le_of_ble_eq_true rfl) (fun x C X hg => ?_)
  have C : Cx x cX1_passMinute 2 RX1 none [] wu_X1_passMinute rm_X1_passMinute G.1 (tysF G) := C
  have JP93 : ∀ (σ : Mem) (l1 : Int32), lp_X1_passMinute_93 n o0 σ l1 = some (r, σ') → J x [(0, .ref (G.2.2 (o0))), (1, .int (l1))] [] σ 93 0 0 := by
    intro σ l1  h
    unfold lp_X1_passMinute_93 at h
    refine j_aload_n C dX1_passMinute_93 0 rfl ?_
    refine j_dup C dX1_passMinute_94 rfl ?_
    refine j_get C X dX1_passMinute_95 ho0 rfl rfl 8 (by decide) (fin := false) rfl rfl in_X1 (mU u_68) ?_
    refine j_iconst C dX1_passMinute_98 ((1 : Int32)) (by decide) ?_
    refine j_iadd C dX1_passMinute_99 ?_
    obtain ⟨σ10, e11, h⟩ := lm_e h
    refine j_put C X dX1_passMinute_100 ho0 (ty0 := tyX1) rfl rfl 8 (by decide) rfl rfl (Nat.le_of_ble_eq_true rfl) tyX1_ok nmX1 (ty := .int) rfl rfl rfl in_X1 (mU u_68) e11 ?_
    exact j_return C dX1_passMinute_103 (e_v h hg) (by decide) (by decide)
  have JP56 : ∀ (σ : Mem) (l1 : Int32), lp_X1_passMinute_56 n o0 σ l1 = some (r, σ') → J x [(0, .ref (G.2.2 (o0))), (1, .int (l1))] [] σ 56 0 0 := by
    intro σ l1  h
    unfold lp_X1_passMinute_56 at h
    refine j_aload_n C dX1_passMinute_56 0 rfl ?_
    refine j_get C X dX1_passMinute_57 ho0 rfl rfl 3 (by decide) (fin := true) rfl rfl in_X1 (mU u_59) ?_
    obtain ⟨⟨r6, σ7⟩, h8, h⟩ := ob h
    try dsimp only at h
    refine j_callV C X (c_X3_isOn n G σ ((rf o0 3)) (sh_1_3 ho0) _ _ h8) dX1_passMinute_60 (gV u_178 u_31 u_32 u_25 u_30) rfl hy_X3_isOn rfl (sh_1_3 ho0) rfl (ci := 7) rfl rfl rfl (by decide) (Nat.le_of_ble_eq_true rfl) (by decide) ?_
    refine j_if_eq C dX1_passMinute_63 93 (by decide) (fun c9 => ?_) (fun c9 => ?_)
    · have h := (if_pos c9).symm.trans h
      refine j_sub [0, 1] [(0, .ref (G.2.2 (o0))), (1, .int (l1))] rfl ?_
      exact JP93 σ7 l1  h
    · have h := (if_neg c9).symm.trans h
      refine j_aload_n C dX1_passMinute_66 0 rfl ?_
      refine j_get C X dX1_passMinute_67 ho0 rfl rfl 3 (by decide) (fin := true) rfl rfl in_X1 (mU u_59) ?_
      refine j_dup C dX1_passMinute_70 rfl ?_
      refine j_get C X dX1_passMinute_71 (sh_1_3 ho0) rfl rfl 3 (by decide) (fin := false) rfl rfl in_X3 (mU u_179) ?_
      refine j_iconst C dX1_passMinute_74 ((1 : Int32)) (by decide) ?_
      refine j_isub C dX1_passMinute_75 ?_
      obtain ⟨σ12, e13, h⟩ := lm_e h
      refine j_put C X dX1_passMinute_76 (sh_1_3 ho0) (ty0 := tyX3) rfl rfl 3 (by decide) rfl rfl (Nat.le_of_ble_eq_true rfl) tyX3_ok nmX3 (ty := .int) rfl rfl rfl in_X3 (mU u_179) e13 ?_
      refine j_aload_n C dX1_passMinute_79 0 rfl ?_
      refine j_get C X dX1_passMinute_80 ho0 rfl rfl 3 (by decide) (fin := true) rfl rfl in_X1 (mU u_59) ?_
      refine j_get C X dX1_passMinute_83 (sh_1_3 ho0) rfl rfl 3 (by decide) (fin := false) rfl rfl in_X3 (mU u_179) ?_
      refine j_if_gt C dX1_passMinute_86 93 (by decide) (fun c14 => ?_) (fun c14 => ?_)
      · have h := (if_pos c14).symm.trans h
        refine j_sub [0, 1] [(0, .ref (G.2.2 (o0))), (1, .int (l1))] rfl ?_
        exact JP93 σ12 l1  h
      · have h := (if_neg c14).symm.trans h
        refine j_aload_n C dX1_passMinute_89 0 rfl ?_
        obtain ⟨⟨r15, σ16⟩, h17, h⟩ := ob h
        try dsimp only at h
        refine j_callV C X (c_X1_endTrip n G σ12 o0 ho0 _ _ h17) dX1_passMinute_90 (gV u_180 u_182 u_183 u_98 u_181) rfl hy_X1_endTrip rfl ho0 rfl (ci := 5) rfl rfl rfl (by decide) (Nat.le_of_ble_eq_true rfl) (by decide) ?_
        refine j_sub [0, 1] [(0, .ref (G.2.2 (o0))), (1, .int (l1))] rfl ?_
        exact JP93 σ16 l1  h
  have LP2 : ∀ (k : Nat) (σ : Mem) (l1 : Int32), lp_X1_passMinute_2 n o0 k σ l1 = some (r, σ') → J x [(0, .ref (G.2.2 (o0))), (1, .int (l1))] [] σ 2 0 0 := by
    intro k
    induction k with
    | zero => intro σ l1  h; cases h
    | succ k ih =>
    intro σ l1  h
    rw [lp_X1_passMinute_2_s] at h
    refine j_iload_n C dX1_passMinute_2 1 rfl ?_
    refine j_aload_n C dX1_passMinute_3 0 rfl ?_
    refine j_get C X dX1_passMinute_4 ho0 rfl rfl 4 (by decide) (fin := false) rfl rfl in_X1 (mU u_64) ?_
    refine j_icmp_gt C dX1_passMinute_7 25 (by decide) (fun c1 => ?_) (fun c1 => ?_)
    · have h := (if_pos c1).symm.trans h
      refine j_aload_n C dX1_passMinute_25 0 rfl ?_
      refine j_get C X dX1_passMinute_26 ho0 rfl rfl 3 (by decide) (fin := true) rfl rfl in_X1 (mU u_59) ?_
      obtain ⟨⟨r2, σ3⟩, h4, h⟩ := ob h
      try dsimp only at h
      refine j_callV C X (c_X3_isOn n G σ ((rf o0 3)) (sh_1_3 ho0) _ _ h4) dX1_passMinute_29 (gV u_178 u_31 u_32 u_25 u_30) rfl hy_X3_isOn rfl (sh_1_3 ho0) rfl (ci := 7) rfl rfl rfl (by decide) (Nat.le_of_ble_eq_true rfl) (by decide) ?_
      refine j_if_ne C dX1_passMinute_32 56 (by decide) (fun c5 => ?_) (fun c5 => ?_)
      · have h := (if_neg c5).symm.trans h
        refine j_sub [0, 1] [(0, .ref (G.2.2 (o0))), (1, .int (l1))] rfl ?_
        exact JP56 σ3 l1  h
      · have h := (if_pos c5).symm.trans h
        refine j_aload_n C dX1_passMinute_35 0 rfl ?_
        obtain ⟨⟨r18, σ19⟩, h20, h⟩ := ob h
        try dsimp only at h
        refine j_callV C X (c_X1_startFlight n G σ3 o0 ho0 _ _ h20) dX1_passMinute_36 (gV u_184 u_186 u_187 u_98 u_185) rfl hy_X1_startFlight rfl ho0 rfl (ci := 5) rfl rfl rfl (by decide) (Nat.le_of_ble_eq_true rfl) (by decide) ?_
        refine j_if_ne C dX1_passMinute_39 56 (by decide) (fun c21 => ?_) (fun c21 => ?_)
        · have h := (if_neg c21).symm.trans h
          refine j_sub [0, 1] [(0, .ref (G.2.2 (o0))), (1, .int (l1))] rfl ?_
          exact JP56 σ19 l1  h
        · have h := (if_pos c21).symm.trans h
          refine j_aload_n C dX1_passMinute_42 0 rfl ?_
          refine j_iconst C dX1_passMinute_43 ((0 : Int32)) (by decide) ?_
          obtain ⟨⟨r22, σ23⟩, h24, h⟩ := ob h
          try dsimp only at h
          refine j_callV C X (c_X1_startRequest n G σ19 o0 ((0 : Int32)) ho0 _ _ h24) dX1_passMinute_44 (gV u_188 u_190 u_191 u_98 u_189) rfl hy_X1_startRequest rfl ho0 rfl (ci := 5) rfl rfl rfl (by decide) (Nat.le_of_ble_eq_true rfl) (by decide) ?_
          refine j_if_ne C dX1_passMinute_47 56 (by decide) (fun c25 => ?_) (fun c25 => ?_)
          · have h := (if_neg c25).symm.trans h
            refine j_sub [0, 1] [(0, .ref (G.2.2 (o0))), (1, .int (l1))] rfl ?_
            exact JP56 σ23 l1  h
          · have h := (if_pos c25).symm.trans h
            refine j_aload_n C dX1_passMinute_50 0 rfl ?_
            refine j_iconst C dX1_passMinute_51 ((1 : Int32)) (by decide) ?_
            obtain ⟨⟨r26, σ27⟩, h28, h⟩ := ob h
            try dsimp only at h
            refine j_callV C X (c_X1_startRequest n G σ23 o0 ((1 : Int32)) ho0 _ _ h28) dX1_passMinute_52 (gV u_188 u_190 u_191 u_98 u_189) rfl hy_X1_startRequest rfl ho0 rfl (ci := 5) rfl rfl rfl (by decide) (Nat.le_of_ble_eq_true rfl) (by decide) ?_
            refine j_pop C dX1_passMinute_55 rfl ?_
            refine j_sub [0, 1] [(0, .ref (G.2.2 (o0))), (1, .int (l1))] rfl ?_
            exact JP56 σ27 l1  h
    · have h := (if_neg c1).symm.trans h
      refine j_aload_n C dX1_passMinute_10 0 rfl ?_
      refine j_aload_n C dX1_passMinute_11 0 rfl ?_
      refine j_iload_n C dX1_passMinute_12 1 rfl ?_
      obtain ⟨⟨r29, σ30⟩, h31, h⟩ := ob h
      try dsimp only at h
      obtain ⟨k32, h⟩ := sg h
      refine j_callV C X (c_X1_place n G σ o0 l1 ho0 _ _ h31) dX1_passMinute_13 (gV u_97 u_100 u_101 u_98 u_99) rfl hy_X1_place rfl ho0 rfl (ci := 5) rfl rfl rfl (by decide) (Nat.le_of_ble_eq_true rfl) (by decide) ?_
      obtain ⟨⟨r33, σ34⟩, h35, h⟩ := ob h
      try dsimp only at h
      refine j_callV C X (c_X1_moveGas n G σ30 o0 r29 ho0 k32 _ _ h35) dX1_passMinute_16 (gV u_192 u_194 u_195 u_98 u_193) rfl hy_X1_moveGas rfl ho0 rfl (ci := 5) rfl rfl rfl (by decide) (Nat.le_of_ble_eq_true rfl) (by decide) ?_
      refine j_iinc C dX1_passMinute_19 1 rfl ((1 : Int32)) (by decide) (by decide) [(1, .int ((l1 + (1 : Int32)))), (0, .ref (G.2.2 (o0)))] rfl ?_
      refine j_goto C dX1_passMinute_22 2 (by decide) ?_
      refine j_sub [1, 0] [(0, .ref (G.2.2 (o0))), (1, .int ((l1 + (1 : Int32))))] rfl ?_
      exact ih σ34 ((l1 + (1 : Int32)))  h
  unfold sp_X1_passMinute at h
  show J x [(0, .ref (G.2.2 (o0)))] [] σ 0 0 0
  refine j_iconst C dX1_passMinute_0 ((1 : Int32)) (by decide) ?_
  refine j_istore_n C dX1_passMinute_1 (by decide) [(1, .int ((1 : Int32))), (0, .ref (G.2.2 (o0)))] rfl ?_
  refine j_sub [1, 0] [(0, .ref (G.2.2 (o0))), (1, .int ((1 : Int32)))] rfl ?_
  exact LP2 n σ ((1 : Int32))  h
def lp_X1_passToAlarm_2 (n : Nat) (o0 : Nat) (o1 : Nat) : Nat → Mem → Int32 → Option (Int32 × Mem)
  | 0, _, _ => none
  | k + 1, σ, l2 => if (500 : Int32) < l2 then some ((-1 : Int32), σ) else ((sp_X1_hasAlarm n σ o0 o1).bind fun q => match q with | (r2, σ3) => if r2 = 0 then ((sp_X1_moveGas n σ3 o0 o1).bind fun q => match q with | (_, σ7) => lp_X1_passToAlarm_2 n o0 o1 k σ7 ((l2 + (1 : Int32)))) else some (l2, σ3))
theorem lp_X1_passToAlarm_2_s (n : Nat) (o0 : Nat) (o1 : Nat) (k : Nat) (σ : Mem) (l2 : Int32) : lp_X1_passToAlarm_2 n o0 o1 (k + 1) σ l2 = (if (500 : Int32) < l2 then some ((-1 : Int32), σ) else ((sp_X1_hasAlarm n σ o0 o1).bind fun q => match q with | (r2, σ3) => if r2 = 0 then ((sp_X1_moveGas n σ3 o0 o1).bind fun q => match q with | (_, σ7) => lp_X1_passToAlarm_2 n o0 o1 k σ7 ((l2 + (1 : Int32)))) else some (l2, σ3))) := rfl
def sp_X1_passToAlarm (n : Nat) (σ : Mem) (o0 : Nat) (o1 : Nat) : Option (Int32 × Mem) := lp_X1_passToAlarm_2 n o0 o1 n σ ((0 : Int32))
abbrev rm_X1_passToAlarm : Room := ({ frames := 12, cells := 0, slots := 0, locals := 244 } : Room)
abbrev wu_X1_passToAlarm : List Cond := (Cond.code yX1_passToAlarm cX1_passToAlarm 3 (some .int)) :: wsU
theorem hy_X1_passToAlarm : hyOk yX1_passToAlarm 1 := by decide +kernel
set_option maxRecDepth 20000 in
set_option maxHeartbeats 4000000 in
theorem c_X1_passToAlarm (n : Nat) (G : Gt) (σ : Mem) (o0 : Nat) (o1 : Nat) (ho0 : Ok o0 1) (ho1 : Ok o1 0) (r : Int32) (σ' : Mem) (h : sp_X1_passToAlarm n σ o0 o1 = some (r, σ')) : MM yX1_passToAlarm wu_X1_passToAlarm rm_X1_passToAlarm [.ref (G.2.2 (o0)), .ref (G.2.2 (o1))] G σ (.inl (some (.int r))) σ' := by
  refine mm_of (cc := cX1_passToAlarm) (maxL := 3) (ret := (some .int)) (by decide +kernel) rfl (Nat.le_of_ble_eq_true rfl) (fun x C X hg => ?_)
  have C : Cx x cX1_passToAlarm 3 RX1 (some .int) [] wu_X1_passToAlarm rm_X1_passToAlarm G.1 (tysF G) := C
  have LP2 : ∀ (k : Nat) (σ : Mem) (l2 : Int32), lp_X1_passToAlarm_2 n o0 o1 k σ l2 = some (r, σ') → J x [(0, .ref (G.2.2 (o0))), (1, .ref (G.2.2 (o1))), (2, .int (l2))] [] σ 2 0 0 := by
    intro k
    induction k with
    | zero => intro σ l2  h; cases h
    | succ k ih =>
    intro σ l2  h
    rw [lp_X1_passToAlarm_2_s] at h
    refine j_iload_n C dX1_passToAlarm_2 2 rfl ?_
    refine j_sipush C dX1_passToAlarm_3 ((500 : Int32)) (by decide) ?_
    refine j_icmp_gt C dX1_passToAlarm_6 30 (by decide) (fun c1 => ?_) (fun c1 => ?_)
    · have h := (if_pos c1).symm.trans h
      refine j_iconst C dX1_passToAlarm_30 ((-1 : Int32)) (by decide) ?_
      exact j_ireturn C dX1_passToAlarm_31 (e_i h hg) (by decide) (by decide)
    · have h := (if_neg c1).symm.trans h
      refine j_aload_n C dX1_passToAlarm_9 0 rfl ?_
      refine j_aload_n C dX1_passToAlarm_10 1 rfl ?_
      obtain ⟨⟨r2, σ3⟩, h4, h⟩ := ob h
      try dsimp only at h
      refine j_callV C X (c_X1_hasAlarm n G σ o0 o1 ho0 ho1 _ _ h4) dX1_passToAlarm_11 (gV u_148 u_150 u_151 u_98 u_149) rfl hy_X1_hasAlarm rfl ho0 rfl (ci := 5) rfl rfl rfl (by decide) (Nat.le_of_ble_eq_true rfl) (by decide) ?_
      refine j_if_eq C dX1_passToAlarm_14 19 (by decide) (fun c5 => ?_) (fun c5 => ?_)
      · have h := (if_pos c5).symm.trans h
        refine j_aload_n C dX1_passToAlarm_19 0 rfl ?_
        refine j_aload_n C dX1_passToAlarm_20 1 rfl ?_
        obtain ⟨⟨r6, σ7⟩, h8, h⟩ := ob h
        try dsimp only at h
        refine j_callV C X (c_X1_moveGas n G σ3 o0 o1 ho0 ho1 _ _ h8) dX1_passToAlarm_21 (gV u_192 u_194 u_195 u_98 u_193) rfl hy_X1_moveGas rfl ho0 rfl (ci := 5) rfl rfl rfl (by decide) (Nat.le_of_ble_eq_true rfl) (by decide) ?_
        refine j_iinc C dX1_passToAlarm_24 2 rfl ((1 : Int32)) (by decide) (by decide) [(2, .int ((l2 + (1 : Int32)))), (0, .ref (G.2.2 (o0))), (1, .ref (G.2.2 (o1)))] rfl ?_
        refine j_goto C dX1_passToAlarm_27 2 (by decide) ?_
        refine j_sub [1, 2, 0] [(0, .ref (G.2.2 (o0))), (1, .ref (G.2.2 (o1))), (2, .int ((l2 + (1 : Int32))))] rfl ?_
        exact ih σ7 ((l2 + (1 : Int32)))  h
      · have h := (if_neg c5).symm.trans h
        refine j_iload_n C dX1_passToAlarm_17 2 rfl ?_
        exact j_ireturn C dX1_passToAlarm_18 (e_i h hg) (by decide) (by decide)
  unfold sp_X1_passToAlarm at h
  show J x [(0, .ref (G.2.2 (o0))), (1, .ref (G.2.2 (o1)))] [] σ 0 0 0
  refine j_iconst C dX1_passToAlarm_0 ((0 : Int32)) (by decide) ?_
  refine j_istore_n C dX1_passToAlarm_1 (by decide) [(2, .int ((0 : Int32))), (0, .ref (G.2.2 (o0))), (1, .ref (G.2.2 (o1)))] rfl ?_
  refine j_sub [1, 2, 0] [(0, .ref (G.2.2 (o0))), (1, .ref (G.2.2 (o1))), (2, .int ((0 : Int32)))] rfl ?_
  exact LP2 n σ ((0 : Int32))  h
def lp_X1_passToEndOf_2 (n : Nat) (o0 : Nat) (a1 : Int32) : Nat → Mem → Int32 → Int32 → Option (Int32 × Mem)
  | 0, _, _, _ => none
  | k + 1, σ, l1, l2 => if (500 : Int32) < l2 then some ((-1 : Int32), σ) else ((sp_X1_isPending n σ o0 l1).bind fun q => match q with | (r2, σ3) => if r2 = 0 then some ((-1 : Int32), σ3) else ((sp_X1_passMinute n σ3 o0).bind fun q => match q with | (_, σ7) => if (σ7.1 o0 15) = l1 then some (l2, σ7) else lp_X1_passToEndOf_2 n o0 a1 k σ7 l1 ((l2 + (1 : Int32)))))
theorem lp_X1_passToEndOf_2_s (n : Nat) (o0 : Nat) (a1 : Int32) (k : Nat) (σ : Mem) (l1 : Int32) (l2 : Int32) : lp_X1_passToEndOf_2 n o0 a1 (k + 1) σ l1 l2 = (if (500 : Int32) < l2 then some ((-1 : Int32), σ) else ((sp_X1_isPending n σ o0 l1).bind fun q => match q with | (r2, σ3) => if r2 = 0 then some ((-1 : Int32), σ3) else ((sp_X1_passMinute n σ3 o0).bind fun q => match q with | (_, σ7) => if (σ7.1 o0 15) = l1 then some (l2, σ7) else lp_X1_passToEndOf_2 n o0 a1 k σ7 l1 ((l2 + (1 : Int32)))))) := rfl
def sp_X1_passToEndOf (n : Nat) (σ : Mem) (o0 : Nat) (a1 : Int32) : Option (Int32 × Mem) := lp_X1_passToEndOf_2 n o0 a1 n σ a1 ((1 : Int32))
abbrev rm_X1_passToEndOf : Room := ({ frames := 15, cells := 0, slots := 0, locals := 312 } : Room)
abbrev wu_X1_passToEndOf : List Cond := (Cond.code yX1_passToEndOf cX1_passToEndOf 3 (some .int)) :: wsU
theorem hy_X1_passToEndOf : hyOk yX1_passToEndOf 1 := by decide +kernel
set_option maxRecDepth 20000 in
set_option maxHeartbeats 4000000 in
theorem c_X1_passToEndOf (n : Nat) (G : Gt) (σ : Mem) (o0 : Nat) (a1 : Int32) (ho0 : Ok o0 1) (r : Int32) (σ' : Mem) (h : sp_X1_passToEndOf n σ o0 a1 = some (r, σ')) : MM yX1_passToEndOf wu_X1_passToEndOf rm_X1_passToEndOf [.ref (G.2.2 (o0)), .int (a1)] G σ (.inl (some (.int r))) σ' := by
  refine mm_of (cc := cX1_passToEndOf) (maxL := 3) (ret := (some .int)) (by decide +kernel) rfl (Nat.le_of_ble_eq_true rfl) (fun x C X hg => ?_)
  have C : Cx x cX1_passToEndOf 3 RX1 (some .int) [] wu_X1_passToEndOf rm_X1_passToEndOf G.1 (tysF G) := C
  have LP2 : ∀ (k : Nat) (σ : Mem) (l1 : Int32) (l2 : Int32), lp_X1_passToEndOf_2 n o0 a1 k σ l1 l2 = some (r, σ') → J x [(0, .ref (G.2.2 (o0))), (1, .int (l1)), (2, .int (l2))] [] σ 2 0 0 := by
    intro k
    induction k with
    | zero => intro σ l1 l2  h; cases h
    | succ k ih =>
    intro σ l1 l2  h
    rw [lp_X1_passToEndOf_2_s] at h
    refine j_iload_n C dX1_passToEndOf_2 2 rfl ?_
    refine j_sipush C dX1_passToEndOf_3 ((500 : Int32)) (by decide) ?_
    refine j_icmp_gt C dX1_passToEndOf_6 37 (by decide) (fun c1 => ?_) (fun c1 => ?_)
    · have h := (if_pos c1).symm.trans h
      refine j_iconst C dX1_passToEndOf_37 ((-1 : Int32)) (by decide) ?_
      exact j_ireturn C dX1_passToEndOf_38 (e_i h hg) (by decide) (by decide)
    · have h := (if_neg c1).symm.trans h
      refine j_aload_n C dX1_passToEndOf_9 0 rfl ?_
      refine j_iload_n C dX1_passToEndOf_10 1 rfl ?_
      obtain ⟨⟨r2, σ3⟩, h4, h⟩ := ob h
      try dsimp only at h
      refine j_callV C X (c_X1_isPending n G σ o0 l1 ho0 _ _ h4) dX1_passToEndOf_11 (gV u_196 u_198 u_199 u_98 u_197) rfl hy_X1_isPending rfl ho0 rfl (ci := 5) rfl rfl rfl (by decide) (Nat.le_of_ble_eq_true rfl) (by decide) ?_
      refine j_if_eq C dX1_passToEndOf_14 37 (by decide) (fun c5 => ?_) (fun c5 => ?_)
      · have h := (if_pos c5).symm.trans h
        refine j_iconst C dX1_passToEndOf_37 ((-1 : Int32)) (by decide) ?_
        exact j_ireturn C dX1_passToEndOf_38 (e_i h hg) (by decide) (by decide)
      · have h := (if_neg c5).symm.trans h
        refine j_aload_n C dX1_passToEndOf_17 0 rfl ?_
        obtain ⟨⟨r6, σ7⟩, h8, h⟩ := ob h
        try dsimp only at h
        refine j_callV C X (c_X1_passMinute n G σ3 o0 ho0 _ _ h8) dX1_passToEndOf_18 (gV u_200 u_202 u_203 u_98 u_201) rfl hy_X1_passMinute rfl ho0 rfl (ci := 5) rfl rfl rfl (by decide) (Nat.le_of_ble_eq_true rfl) (by decide) ?_
        refine j_aload_n C dX1_passToEndOf_21 0 rfl ?_
        refine j_get C X dX1_passToEndOf_22 ho0 rfl rfl 15 (by decide) (fin := false) rfl rfl in_X1 (mU u_75) ?_
        refine j_iload_n C dX1_passToEndOf_25 1 rfl ?_
        refine j_icmp_ne C dX1_passToEndOf_26 31 (by decide) (fun c9 => ?_) (fun c9 => ?_)
        · have h := (if_neg c9).symm.trans h
          refine j_iinc C dX1_passToEndOf_31 2 rfl ((1 : Int32)) (by decide) (by decide) [(2, .int ((l2 + (1 : Int32)))), (0, .ref (G.2.2 (o0))), (1, .int (l1))] rfl ?_
          refine j_goto C dX1_passToEndOf_34 2 (by decide) ?_
          refine j_sub [1, 2, 0] [(0, .ref (G.2.2 (o0))), (1, .int (l1)), (2, .int ((l2 + (1 : Int32))))] rfl ?_
          exact ih σ7 l1 ((l2 + (1 : Int32)))  h
        · have h := (if_pos c9).symm.trans h
          refine j_iload_n C dX1_passToEndOf_29 2 rfl ?_
          exact j_ireturn C dX1_passToEndOf_30 (e_i h hg) (by decide) (by decide)
  unfold sp_X1_passToEndOf at h
  show J x [(0, .ref (G.2.2 (o0))), (1, .int (a1))] [] σ 0 0 0
  refine j_iconst C dX1_passToEndOf_0 ((1 : Int32)) (by decide) ?_
  refine j_istore_n C dX1_passToEndOf_1 (by decide) [(2, .int ((1 : Int32))), (0, .ref (G.2.2 (o0))), (1, .int (a1))] rfl ?_
  refine j_sub [1, 2, 0] [(0, .ref (G.2.2 (o0))), (1, .int (a1)), (2, .int ((1 : Int32)))] rfl ?_
  exact LP2 n σ a1 ((1 : Int32))  h
