set_option maxRecDepth 40000 in
set_option maxHeartbeats 16000000 in
theorem law_walk (n : Nat) {K : Nat → Nat} {x : Xt Tx} {G : Gt} {cB : ClassId} {tab : List ExceptionTableEntry} {T : Tx} {b L : Nat} {xs : Nat → Int32} (C : Cx x code 17 RL (some .boolean) tab wsL room_1 G.1 (tys9 G cB)) (CV : Cv K x code 17 RL (some .boolean) tab wsL room_1 G.1 (tys9 G cB)) (S9 : CA K x code 17 RL (some .boolean) tab wsL room_1 G.1 (tys9 G cB) b L xs) (X : Wt x G.1) (σ : Mem) (r : Int64) (σ' : Mem) (h : sl_law n xs L σ = some (r, σ')) (HE : ∀ kc ns : Nat, kc + 2000 ≤ 612008 → ns + 12000 ≤ 3672048 → J x [(1, .ref (G.2.2 (40))), (5, .long (r))] [] (wsF G σ' ++ T) 1190 kc ns) (kc ns : Nat) (hk : kc + 33907 ≤ 612008) (hn : ns + 203442 ≤ 3672048) : J x [(1, .ref (G.2.2 (40))), (0, .ref b)] [] (wsF G σ ++ T) 8 kc ns := by
  have JP1187 : ∀ (σ : Mem) (l5 : Int64) (s0 : Int32) (s1 : Int32) (kc : Nat) (ns : Nat), kc + 2000 ≤ 612008 → ns + 12000 ≤ 3672048 → lp_L_law_1187 n xs L σ l5 s0 s1 = some (r, σ') → J x [(1, .ref (G.2.2 (40))), (5, .long (l5))] [.int (s0), .int (s1)] (wsF G σ ++ T) 1187 kc ns := by
    intro σ l5 s0 s1 kc ns hk hn h
    unfold lp_L_law_1187 at h
    refine j_icmp_ne C dL_law_1187 1200 (by decide) (fun c129 => ?_) (fun c129 => ?_)
    · have h := (if_neg c129).symm.trans h
      refine j_iconst C dL_law_1200 ((0 : Int32)) (by decide) ?_
      cases h
    · have h := (if_pos c129).symm.trans h
      refine j_sub [0, 1] [(1, .ref (G.2.2 (40))), (5, .long (l5))] rfl ?_
      obtain ⟨e1_, e2_⟩ := Prod.mk.inj (Option.some.inj h)
      rw [e1_, e2_]
      exact HE _ _ (show kc + 2000 ≤ 612008 by omega) (show ns + 12000 ≤ 3672048 by omega)
  have JP1177 : ∀ (σ : Mem) (l5 : Int64) (l7 : Int32) (s0 : Int32) (kc : Nat) (ns : Nat), kc + 2000 ≤ 612008 → ns + 12000 ≤ 3672048 → lp_L_law_1177 n xs L σ l5 l7 s0 = some (r, σ') → J x [(1, .ref (G.2.2 (40))), (5, .long (l5)), (7, .int (l7))] [.int (s0)] (wsF G σ ++ T) 1177 kc ns := by
    intro σ l5 l7 s0 kc ns hk hn h
    unfold lp_L_law_1177 at h
    refine j_iload C dL_law_1177 2 rfl ?_
    refine j_if_ne C dL_law_1179 1186 (by decide) (fun c128 => ?_) (fun c128 => ?_)
    · have h := (if_neg c128).symm.trans h
      refine j_iconst C dL_law_1186 ((0 : Int32)) (by decide) ?_
      refine j_sub [0, 1] [(1, .ref (G.2.2 (40))), (5, .long (l5))] rfl ?_
      exact JP1187 σ l5 ((0 : Int32)) s0 (kc) (ns) (by omega) (by omega) h
    · have h := (if_pos c128).symm.trans h
      refine j_iconst C dL_law_1182 ((1 : Int32)) (by decide) ?_
      refine j_goto C dL_law_1183 1187 (by decide) ?_
      refine j_sub [0, 1] [(1, .ref (G.2.2 (40))), (5, .long (l5))] rfl ?_
      exact JP1187 σ l5 ((1 : Int32)) s0 (kc) (ns) (by omega) (by omega) h
  have JP1093 : ∀ (σ : Mem) (l3 : Int32) (l5 : Int64) (l7 : Int32) (kc : Nat) (ns : Nat), kc + 2008 ≤ 612008 → ns + 12048 ≤ 3672048 → lp_L_law_1093 n xs L σ l3 l5 l7 = some (r, σ') → J x [(1, .ref (G.2.2 (40))), (3, .int (l3)), (5, .long (l5)), (7, .int (l7))] [] (wsF G σ ++ T) 1093 kc ns := by
    intro σ l3 l5 l7 kc ns hk hn h
    unfold lp_L_law_1093 at h
    refine j_aload_n C dL_law_1093 0 rfl ?_
    refine j_bipush C dL_law_1094 ((111 : Int32)) (by decide) ?_
    refine j_iload C dL_law_1096 3 rfl ?_
    refine j_iconst C dL_law_1098 ((1 : Int32)) (by decide) ?_
    refine j_iadd C dL_law_1099 ?_
    refine j_iconst C dL_law_1100 ((0 : Int32)) (by decide) ?_
    obtain ⟨⟨r101, σ102⟩, h103, h⟩ := ob h
    try dsimp only at h
    refine jm_callSX CV X (N1 := 3) (N2 := 18) (c_L_request n G σ 40 ((111 : Int32)) ((l7 + (1 : Int32))) ((0 : Int32)) ok40 _ _ h103) dL_law_1101 (gSm9 v_269 v_271 v_232 v_270) rfl hy_L_request rfl rfl ⟨Nat.le_of_ble_eq_true rfl, Nat.le_of_ble_eq_true rfl⟩ (Nat.le_of_ble_eq_true rfl) (Nat.le_of_ble_eq_true rfl) (Nat.le_of_ble_eq_true rfl) (show kc + 3 ≤ 612008 ∧ ns + 18 ≤ 7258737 by omega) ?_
    refine j_sipush C dL_law_1104 ((-1001 : Int32)) (by decide) ?_
    refine j_icmp_ne C dL_law_1107 1200 (by decide) (fun c104 => ?_) (fun c104 => ?_)
    · have h := (if_neg c104).symm.trans h
      refine j_iconst C dL_law_1200 ((0 : Int32)) (by decide) ?_
      cases h
    · have h := (if_pos c104).symm.trans h
      refine j_aload_n C dL_law_1110 0 rfl ?_
      refine j_iload_n C dL_law_1111 1 rfl ?_
      refine j_iconst C dL_law_1112 ((0 : Int32)) (by decide) ?_
      obtain ⟨⟨r105, σ106⟩, h107, h⟩ := ob h
      try dsimp only at h
      refine jm_callSX CV X (N1 := 1) (N2 := 6) (c_L_asked n G σ102 40 l3 ((0 : Int32)) ok40 _ _ h107) dL_law_1113 (gSm9 v_272 v_274 v_232 v_273) rfl hy_L_asked rfl rfl ⟨Nat.le_of_ble_eq_true rfl, Nat.le_of_ble_eq_true rfl⟩ (Nat.le_of_ble_eq_true rfl) (Nat.le_of_ble_eq_true rfl) (Nat.le_of_ble_eq_true rfl) (show kc + 3 + 1 ≤ 612008 ∧ ns + 18 + 6 ≤ 7258737 by omega) ?_
      refine j_sipush C dL_law_1116 ((-1001 : Int32)) (by decide) ?_
      refine j_icmp_ne C dL_law_1119 1200 (by decide) (fun c108 => ?_) (fun c108 => ?_)
      · have h := (if_neg c108).symm.trans h
        refine j_iconst C dL_law_1200 ((0 : Int32)) (by decide) ?_
        cases h
      · have h := (if_pos c108).symm.trans h
        refine j_aload_n C dL_law_1122 0 rfl ?_
        refine j_iconst C dL_law_1123 ((-1 : Int32)) (by decide) ?_
        refine j_iconst C dL_law_1124 ((2 : Int32)) (by decide) ?_
        obtain ⟨⟨r109, σ110⟩, h111, h⟩ := ob h
        try dsimp only at h
        refine jm_callSX CV X (N1 := 1) (N2 := 6) (c_L_asked n G σ106 40 ((-1 : Int32)) ((2 : Int32)) ok40 _ _ h111) dL_law_1125 (gSm9 v_272 v_274 v_232 v_273) rfl hy_L_asked rfl rfl ⟨Nat.le_of_ble_eq_true rfl, Nat.le_of_ble_eq_true rfl⟩ (Nat.le_of_ble_eq_true rfl) (Nat.le_of_ble_eq_true rfl) (Nat.le_of_ble_eq_true rfl) (show kc + 3 + 1 + 1 ≤ 612008 ∧ ns + 18 + 6 + 6 ≤ 7258737 by omega) ?_
        refine j_sipush C dL_law_1128 ((-1001 : Int32)) (by decide) ?_
        refine j_icmp_ne C dL_law_1131 1200 (by decide) (fun c112 => ?_) (fun c112 => ?_)
        · have h := (if_neg c112).symm.trans h
          refine j_iconst C dL_law_1200 ((0 : Int32)) (by decide) ?_
          cases h
        · have h := (if_pos c112).symm.trans h
          refine j_aload_n C dL_law_1134 0 rfl ?_
          refine j_iconst C dL_law_1135 ((-1 : Int32)) (by decide) ?_
          refine j_iconst C dL_law_1136 ((1 : Int32)) (by decide) ?_
          obtain ⟨⟨r113, σ114⟩, h115, h⟩ := ob h
          try dsimp only at h
          refine jm_callSX CV X (N1 := 1) (N2 := 6) (c_L_asked n G σ110 40 ((-1 : Int32)) ((1 : Int32)) ok40 _ _ h115) dL_law_1137 (gSm9 v_272 v_274 v_232 v_273) rfl hy_L_asked rfl rfl ⟨Nat.le_of_ble_eq_true rfl, Nat.le_of_ble_eq_true rfl⟩ (Nat.le_of_ble_eq_true rfl) (Nat.le_of_ble_eq_true rfl) (Nat.le_of_ble_eq_true rfl) (show kc + 3 + 1 + 1 + 1 ≤ 612008 ∧ ns + 18 + 6 + 6 + 6 ≤ 7258737 by omega) ?_
          refine j_sipush C dL_law_1140 ((-1001 : Int32)) (by decide) ?_
          refine j_icmp_ne C dL_law_1143 1200 (by decide) (fun c116 => ?_) (fun c116 => ?_)
          · have h := (if_neg c116).symm.trans h
            refine j_iconst C dL_law_1200 ((0 : Int32)) (by decide) ?_
            cases h
          · have h := (if_pos c116).symm.trans h
            refine j_aload_n C dL_law_1146 0 rfl ?_
            refine j_aload_n C dL_law_1147 0 rfl ?_
            obtain ⟨⟨r117, σ118⟩, h119, h⟩ := ob h
            try dsimp only at h
            refine jm_callV CV X (N1 := 0) (N2 := 0) (c_X5_waitingCount n G σ114 40 ok40 _ _ h119) dL_law_1148 (gVm9 v_275 v_277 v_278 v_170 v_276) rfl hy_X5_waitingCount rfl ok40 rfl (ci := 9) rfl rfl rfl ⟨Nat.le_of_ble_eq_true rfl, Nat.le_of_ble_eq_true rfl⟩ (Nat.le_of_ble_eq_true rfl) (Nat.le_of_ble_eq_true rfl) (Nat.le_of_ble_eq_true rfl) (show kc + 3 + 1 + 1 + 1 + 0 ≤ 612008 ∧ ns + 18 + 6 + 6 + 6 + 0 ≤ 7258737 by omega) ?_
            refine j_iconst C dL_law_1151 ((1 : Int32)) (by decide) ?_
            obtain ⟨⟨r120, σ121⟩, h122, h⟩ := ob h
            try dsimp only at h
            refine jm_callSX CV X (N1 := 1) (N2 := 6) (c_L_asked n G σ118 40 r117 ((1 : Int32)) ok40 _ _ h122) dL_law_1152 (gSm9 v_272 v_274 v_232 v_273) rfl hy_L_asked rfl rfl ⟨Nat.le_of_ble_eq_true rfl, Nat.le_of_ble_eq_true rfl⟩ (Nat.le_of_ble_eq_true rfl) (Nat.le_of_ble_eq_true rfl) (Nat.le_of_ble_eq_true rfl) (show kc + 3 + 1 + 1 + 1 + 0 + 1 ≤ 612008 ∧ ns + 18 + 6 + 6 + 6 + 0 + 6 ≤ 7258737 by omega) ?_
            refine j_sipush C dL_law_1155 ((-1001 : Int32)) (by decide) ?_
            refine j_icmp_ne C dL_law_1158 1200 (by decide) (fun c123 => ?_) (fun c123 => ?_)
            · have h := (if_neg c123).symm.trans h
              refine j_iconst C dL_law_1200 ((0 : Int32)) (by decide) ?_
              cases h
            · have h := (if_pos c123).symm.trans h
              refine j_aload_n C dL_law_1161 0 rfl ?_
              obtain ⟨⟨r124, σ125⟩, h126, h⟩ := ob h
              try dsimp only at h
              refine jm_callSX CV X (N1 := 1) (N2 := 6) (c_L_mean n G σ121 40 ok40 _ _ h126) dL_law_1162 (gSm9 v_279 v_281 v_232 v_280) rfl hy_L_mean rfl rfl ⟨Nat.le_of_ble_eq_true rfl, Nat.le_of_ble_eq_true rfl⟩ (Nat.le_of_ble_eq_true rfl) (Nat.le_of_ble_eq_true rfl) (Nat.le_of_ble_eq_true rfl) (show kc + 3 + 1 + 1 + 1 + 0 + 1 + 1 ≤ 612008 ∧ ns + 18 + 6 + 6 + 6 + 0 + 6 + 6 ≤ 7258737 by omega) ?_
              refine j_ldc2d C dL_law_1165 (mT v_282) dqm1 ?_
              refine j_dcmp C dL_law_1168 ?_
              refine j_if_ne C dL_law_1169 1176 (by decide) (fun c127 => ?_) (fun c127 => ?_)
              · have h := (if_neg c127).symm.trans h
                refine j_iconst C dL_law_1176 ((0 : Int32)) (by decide) ?_
                refine j_sub [0, 2, 3] [(1, .ref (G.2.2 (40))), (5, .long (l5)), (7, .int (l7))] rfl ?_
                exact JP1177 σ125 l5 l7 ((0 : Int32)) (kc + 3 + 1 + 1 + 1 + 0 + 1 + 1) (ns + 18 + 6 + 6 + 6 + 0 + 6 + 6) (by omega) (by omega) h
              · have h := (if_pos c127).symm.trans h
                refine j_iconst C dL_law_1172 ((1 : Int32)) (by decide) ?_
                refine j_goto C dL_law_1173 1177 (by decide) ?_
                refine j_sub [0, 2, 3] [(1, .ref (G.2.2 (40))), (5, .long (l5)), (7, .int (l7))] rfl ?_
                exact JP1177 σ125 l5 l7 ((1 : Int32)) (kc + 3 + 1 + 1 + 1 + 0 + 1 + 1) (ns + 18 + 6 + 6 + 6 + 0 + 6 + 6) (by omega) (by omega) h
  have JP1074 : ∀ (σ : Mem) (l3 : Int32) (l5 : Int64) (l7 : Int32) (kc : Nat) (ns : Nat), kc + 2011 ≤ 612008 → ns + 12066 ≤ 3672048 → lp_L_law_1074 n xs L σ l3 l5 l7 = some (r, σ') → J x [(1, .ref (G.2.2 (40))), (3, .int (l3)), (5, .long (l5)), (7, .int (l7))] [] (wsF G σ ++ T) 1074 kc ns := by
    intro σ l3 l5 l7 kc ns hk hn h
    unfold lp_L_law_1074 at h
    refine j_iload C dL_law_1074 3 rfl ?_
    refine j_if_le C dL_law_1076 1093 (by decide) (fun c100 => ?_) (fun c100 => ?_)
    · have h := (if_pos c100).symm.trans h
      refine j_sub [0, 1, 2, 3] [(1, .ref (G.2.2 (40))), (3, .int (l3)), (5, .long (l5)), (7, .int (l7))] rfl ?_
      exact JP1093 σ l3 l5 l7 (kc) (ns) (by omega) (by omega) h
    · have h := (if_neg c100).symm.trans h
      refine j_aload_n C dL_law_1079 0 rfl ?_
      refine j_bipush C dL_law_1080 ((117 : Int32)) (by decide) ?_
      refine j_iconst C dL_law_1082 ((1 : Int32)) (by decide) ?_
      refine j_iconst C dL_law_1083 ((0 : Int32)) (by decide) ?_
      obtain ⟨⟨r130, σ131⟩, h132, h⟩ := ob h
      try dsimp only at h
      refine jm_callSX CV X (N1 := 3) (N2 := 18) (c_L_request n G σ 40 ((117 : Int32)) ((1 : Int32)) ((0 : Int32)) ok40 _ _ h132) dL_law_1084 (gSm9 v_269 v_271 v_232 v_270) rfl hy_L_request rfl rfl ⟨Nat.le_of_ble_eq_true rfl, Nat.le_of_ble_eq_true rfl⟩ (Nat.le_of_ble_eq_true rfl) (Nat.le_of_ble_eq_true rfl) (Nat.le_of_ble_eq_true rfl) (show kc + 3 ≤ 612008 ∧ ns + 18 ≤ 7258737 by omega) ?_
      refine j_sipush C dL_law_1087 ((-1002 : Int32)) (by decide) ?_
      refine j_icmp_ne C dL_law_1090 1200 (by decide) (fun c133 => ?_) (fun c133 => ?_)
      · have h := (if_neg c133).symm.trans h
        refine j_iconst C dL_law_1200 ((0 : Int32)) (by decide) ?_
        cases h
      · have h := (if_pos c133).symm.trans h
        refine j_sub [0, 1, 2, 3] [(1, .ref (G.2.2 (40))), (3, .int (l3)), (5, .long (l5)), (7, .int (l7))] rfl ?_
        exact JP1093 σ131 l3 l5 l7 (kc + 3) (ns + 18) (by omega) (by omega) h
  have JP1040 : ∀ (σ : Mem) (l3 : Int32) (l5 : Int64) (l7 : Int32) (kc : Nat) (ns : Nat), kc + 2017 ≤ 612008 → ns + 12102 ≤ 3672048 → lp_L_law_1040 n xs L σ l3 l5 l7 = some (r, σ') → J x [(1, .ref (G.2.2 (40))), (3, .int (l3)), (5, .long (l5)), (7, .int (l7))] [] (wsF G σ ++ T) 1040 kc ns := by
    intro σ l3 l5 l7 kc ns hk hn h
    unfold lp_L_law_1040 at h
    refine j_aload_n C dL_law_1040 0 rfl ?_
    refine j_bipush C dL_law_1041 ((100 : Int32)) (by decide) ?_
    refine j_iconst C dL_law_1043 ((0 : Int32)) (by decide) ?_
    refine j_iconst C dL_law_1044 ((0 : Int32)) (by decide) ?_
    obtain ⟨⟨r95, σ96⟩, h97, h⟩ := ob h
    try dsimp only at h
    refine jm_callSX CV X (N1 := 3) (N2 := 18) (c_L_request n G σ 40 ((100 : Int32)) ((0 : Int32)) ((0 : Int32)) ok40 _ _ h97) dL_law_1045 (gSm9 v_269 v_271 v_232 v_270) rfl hy_L_request rfl rfl ⟨Nat.le_of_ble_eq_true rfl, Nat.le_of_ble_eq_true rfl⟩ (Nat.le_of_ble_eq_true rfl) (Nat.le_of_ble_eq_true rfl) (Nat.le_of_ble_eq_true rfl) (show kc + 3 ≤ 612008 ∧ ns + 18 ≤ 7258737 by omega) ?_
    refine j_sipush C dL_law_1048 ((-1001 : Int32)) (by decide) ?_
    refine j_icmp_ne C dL_law_1051 1200 (by decide) (fun c98 => ?_) (fun c98 => ?_)
    · have h := (if_neg c98).symm.trans h
      refine j_iconst C dL_law_1200 ((0 : Int32)) (by decide) ?_
      cases h
    · have h := (if_pos c98).symm.trans h
      refine j_iload C dL_law_1054 3 rfl ?_
      refine j_if_le C dL_law_1056 1074 (by decide) (fun c99 => ?_) (fun c99 => ?_)
      · have h := (if_pos c99).symm.trans h
        refine j_sub [0, 1, 2, 3] [(1, .ref (G.2.2 (40))), (3, .int (l3)), (5, .long (l5)), (7, .int (l7))] rfl ?_
        exact JP1074 σ96 l3 l5 l7 (kc + 3) (ns + 18) (by omega) (by omega) h
      · have h := (if_neg c99).symm.trans h
        refine j_aload_n C dL_law_1059 0 rfl ?_
        refine j_bipush C dL_law_1060 ((100 : Int32)) (by decide) ?_
        refine j_iconst C dL_law_1062 ((1 : Int32)) (by decide) ?_
        refine j_bipush C dL_law_1063 ((13 : Int32)) (by decide) ?_
        obtain ⟨⟨r134, σ135⟩, h136, h⟩ := ob h
        try dsimp only at h
        refine jm_callSX CV X (N1 := 3) (N2 := 18) (c_L_request n G σ96 40 ((100 : Int32)) ((1 : Int32)) ((13 : Int32)) ok40 _ _ h136) dL_law_1065 (gSm9 v_269 v_271 v_232 v_270) rfl hy_L_request rfl rfl ⟨Nat.le_of_ble_eq_true rfl, Nat.le_of_ble_eq_true rfl⟩ (Nat.le_of_ble_eq_true rfl) (Nat.le_of_ble_eq_true rfl) (Nat.le_of_ble_eq_true rfl) (show kc + 3 + 3 ≤ 612008 ∧ ns + 18 + 18 ≤ 7258737 by omega) ?_
        refine j_sipush C dL_law_1068 ((-1002 : Int32)) (by decide) ?_
        refine j_icmp_ne C dL_law_1071 1200 (by decide) (fun c137 => ?_) (fun c137 => ?_)
        · have h := (if_neg c137).symm.trans h
          refine j_iconst C dL_law_1200 ((0 : Int32)) (by decide) ?_
          cases h
        · have h := (if_pos c137).symm.trans h
          refine j_sub [0, 1, 2, 3] [(1, .ref (G.2.2 (40))), (3, .int (l3)), (5, .long (l5)), (7, .int (l7))] rfl ?_
          exact JP1074 σ135 l3 l5 l7 (kc + 3 + 3) (ns + 18 + 18) (by omega) (by omega) h
  have JP1022 : ∀ (σ : Mem) (l3 : Int32) (l5 : Int64) (l7 : Int32) (kc : Nat) (ns : Nat), kc + 2020 ≤ 612008 → ns + 12120 ≤ 3672048 → lp_L_law_1022 n xs L σ l3 l5 l7 = some (r, σ') → J x [(1, .ref (G.2.2 (40))), (3, .int (l3)), (5, .long (l5)), (7, .int (l7))] [] (wsF G σ ++ T) 1022 kc ns := by
    intro σ l3 l5 l7 kc ns hk hn h
    unfold lp_L_law_1022 at h
    refine j_iload C dL_law_1022 3 rfl ?_
    refine j_if_le C dL_law_1024 1040 (by decide) (fun c94 => ?_) (fun c94 => ?_)
    · have h := (if_pos c94).symm.trans h
      refine j_sub [0, 1, 2, 3] [(1, .ref (G.2.2 (40))), (3, .int (l3)), (5, .long (l5)), (7, .int (l7))] rfl ?_
      exact JP1040 σ l3 l5 l7 (kc) (ns) (by omega) (by omega) h
    · have h := (if_neg c94).symm.trans h
      refine j_aload_n C dL_law_1027 0 rfl ?_
      refine j_iconst C dL_law_1028 ((1 : Int32)) (by decide) ?_
      refine j_bipush C dL_law_1029 ((21 : Int32)) (by decide) ?_
      obtain ⟨⟨r138, σ139⟩, h140, h⟩ := ob h
      try dsimp only at h
      refine jm_callSX CV X (N1 := 3) (N2 := 18) (c_L_blast n G σ 40 ((1 : Int32)) ((21 : Int32)) ok40 _ _ h140) dL_law_1031 (gSm9 v_266 v_268 v_232 v_267) rfl hy_L_blast rfl rfl ⟨Nat.le_of_ble_eq_true rfl, Nat.le_of_ble_eq_true rfl⟩ (Nat.le_of_ble_eq_true rfl) (Nat.le_of_ble_eq_true rfl) (Nat.le_of_ble_eq_true rfl) (show kc + 3 ≤ 612008 ∧ ns + 18 ≤ 7258737 by omega) ?_
      refine j_sipush C dL_law_1034 ((-1002 : Int32)) (by decide) ?_
      refine j_icmp_ne C dL_law_1037 1200 (by decide) (fun c141 => ?_) (fun c141 => ?_)
      · have h := (if_neg c141).symm.trans h
        refine j_iconst C dL_law_1200 ((0 : Int32)) (by decide) ?_
        cases h
      · have h := (if_pos c141).symm.trans h
        refine j_sub [0, 1, 2, 3] [(1, .ref (G.2.2 (40))), (3, .int (l3)), (5, .long (l5)), (7, .int (l7))] rfl ?_
        exact JP1040 σ139 l3 l5 l7 (kc + 3) (ns + 18) (by omega) (by omega) h
  have JP987 : ∀ (B : Nat) (hB : B ≤ 612008) (K9 : Mem → Int32 → Int64 → Int32 → Int32 → Option (Int64 × Mem)) (hK : ∀ (σ : Mem) (l3 : Int32) (l5 : Int64) (l7 : Int32) (l8 : Int32) (kc : Nat) (ns : Nat), kc ≤ B → ns ≤ 6 * B → K9 σ l3 l5 l7 l8 = some (r, σ') → J x [(1, .ref (G.2.2 (40))), (3, .int (l3)), (5, .long (l5)), (7, .int (l7)), (8, .int (l8))] [] (wsF G σ ++ T) 917 kc ns) (σ : Mem) (l3 : Int32) (l5 : Int64) (l7 : Int32) (l8 : Int32) (kc : Nat) (ns : Nat), kc + 0 ≤ B → ns + 0 ≤ 6 * B → lp_L_law_987 n xs L K9 σ l3 l5 l7 l8 = some (r, σ') → J x [(1, .ref (G.2.2 (40))), (3, .int (l3)), (5, .long (l5)), (7, .int (l7)), (8, .int (l8))] [] (wsF G σ ++ T) 987 kc ns := by
    intro B hB K9 hK σ l3 l5 l7 l8 kc ns hk hn h
    unfold lp_L_law_987 at h
    refine j_iinc C dL_law_987 4 rfl ((1 : Int32)) (by decide) (by decide) [(8, .int ((l8 + (1 : Int32)))), (1, .ref (G.2.2 (40))), (3, .int (l3)), (5, .long (l5)), (7, .int (l7))] rfl ?_
    refine j_goto C dL_law_990 917 (by decide) ?_
    refine j_sub [1, 2, 3, 4, 0] [(1, .ref (G.2.2 (40))), (3, .int (l3)), (5, .long (l5)), (7, .int (l7)), (8, .int ((l8 + (1 : Int32))))] rfl ?_
    exact hK σ l3 l5 l7 ((l8 + (1 : Int32))) (kc) (ns) (by omega) (by omega) h
  have LP917 : ∀ (k : Nat) (σ : Mem) (l3 : Int32) (l5 : Int64) (l7 : Int32) (l8 : Int32) (kc : Nat) (ns : Nat), kc + 6 * k + 2026 ≤ 612008 → ns + 36 * k + 12156 ≤ 3672048 → lp_L_law_917 n xs L k σ l3 l5 l7 l8 = some (r, σ') → J x [(1, .ref (G.2.2 (40))), (3, .int (l3)), (5, .long (l5)), (7, .int (l7)), (8, .int (l8))] [] (wsF G σ ++ T) 917 kc ns := by
    intro k
    induction k with
    | zero => intro σ l3 l5 l7 l8 kc ns hk hn h; cases h
    | succ k ih =>
    intro σ l3 l5 l7 l8 kc ns hk hn h
    rw [lp_L_law_917_s] at h
    refine j_iload C dL_law_917 4 rfl ?_
    refine j_bipush C dL_law_919 ((10 : Int32)) (by decide) ?_
    refine j_icmp_ge C dL_law_921 993 (by decide) (fun c88 => ?_) (fun c88 => ?_)
    · have h := (if_pos c88).symm.trans h
      refine j_aload_n C dL_law_993 0 rfl ?_
      refine j_iconst C dL_law_994 ((0 : Int32)) (by decide) ?_
      refine j_iconst C dL_law_995 ((0 : Int32)) (by decide) ?_
      obtain ⟨⟨r89, σ90⟩, h91, h⟩ := ob h
      try dsimp only at h
      refine jm_callSX CV X (N1 := 3) (N2 := 18) (c_L_blast n G σ 40 ((0 : Int32)) ((0 : Int32)) ok40 _ _ h91) dL_law_996 (gSm9 v_266 v_268 v_232 v_267) rfl hy_L_blast rfl rfl ⟨Nat.le_of_ble_eq_true rfl, Nat.le_of_ble_eq_true rfl⟩ (Nat.le_of_ble_eq_true rfl) (Nat.le_of_ble_eq_true rfl) (Nat.le_of_ble_eq_true rfl) (show kc + 3 ≤ 612008 ∧ ns + 18 ≤ 7258737 by omega) ?_
      refine j_sipush C dL_law_999 ((-1001 : Int32)) (by decide) ?_
      refine j_icmp_ne C dL_law_1002 1200 (by decide) (fun c92 => ?_) (fun c92 => ?_)
      · have h := (if_neg c92).symm.trans h
        refine j_iconst C dL_law_1200 ((0 : Int32)) (by decide) ?_
        cases h
      · have h := (if_pos c92).symm.trans h
        refine j_iload C dL_law_1005 3 rfl ?_
        refine j_if_le C dL_law_1007 1022 (by decide) (fun c93 => ?_) (fun c93 => ?_)
        · have h := (if_pos c93).symm.trans h
          refine j_sub [0, 1, 2, 3] [(1, .ref (G.2.2 (40))), (3, .int (l3)), (5, .long (l5)), (7, .int (l7))] rfl ?_
          exact JP1022 σ90 l3 l5 l7 (kc + 3) (ns + 18) (by omega) (by omega) h
        · have h := (if_neg c93).symm.trans h
          refine j_aload_n C dL_law_1010 0 rfl ?_
          refine j_iconst C dL_law_1011 ((1 : Int32)) (by decide) ?_
          refine j_iconst C dL_law_1012 ((0 : Int32)) (by decide) ?_
          obtain ⟨⟨r142, σ143⟩, h144, h⟩ := ob h
          try dsimp only at h
          refine jm_callSX CV X (N1 := 3) (N2 := 18) (c_L_blast n G σ90 40 ((1 : Int32)) ((0 : Int32)) ok40 _ _ h144) dL_law_1013 (gSm9 v_266 v_268 v_232 v_267) rfl hy_L_blast rfl rfl ⟨Nat.le_of_ble_eq_true rfl, Nat.le_of_ble_eq_true rfl⟩ (Nat.le_of_ble_eq_true rfl) (Nat.le_of_ble_eq_true rfl) (Nat.le_of_ble_eq_true rfl) (show kc + 3 + 3 ≤ 612008 ∧ ns + 18 + 18 ≤ 7258737 by omega) ?_
          refine j_sipush C dL_law_1016 ((-1002 : Int32)) (by decide) ?_
          refine j_icmp_ne C dL_law_1019 1200 (by decide) (fun c145 => ?_) (fun c145 => ?_)
          · have h := (if_neg c145).symm.trans h
            refine j_iconst C dL_law_1200 ((0 : Int32)) (by decide) ?_
            cases h
          · have h := (if_pos c145).symm.trans h
            refine j_sub [0, 1, 2, 3] [(1, .ref (G.2.2 (40))), (3, .int (l3)), (5, .long (l5)), (7, .int (l7))] rfl ?_
            exact JP1022 σ143 l3 l5 l7 (kc + 3 + 3) (ns + 18 + 18) (by omega) (by omega) h
    · have h := (if_neg c88).symm.trans h
      refine j_aload_n C dL_law_924 0 rfl ?_
      refine j_iload C dL_law_925 3 rfl ?_
      refine j_iconst C dL_law_927 ((1 : Int32)) (by decide) ?_
      refine j_iadd C dL_law_928 ?_
      refine j_iload C dL_law_929 4 rfl ?_
      obtain ⟨⟨r146, σ147⟩, h148, h⟩ := ob h
      try dsimp only at h
      refine jm_callSX CV X (N1 := 2) (N2 := 12) (c_L_of n G σ 40 ((l7 + (1 : Int32))) l8 ok40 _ _ h148) dL_law_931 (gSm9 v_283 v_285 v_232 v_284) rfl hy_L_of rfl rfl ⟨Nat.le_of_ble_eq_true rfl, Nat.le_of_ble_eq_true rfl⟩ (Nat.le_of_ble_eq_true rfl) (Nat.le_of_ble_eq_true rfl) (Nat.le_of_ble_eq_true rfl) (show kc + 2 ≤ 612008 ∧ ns + 12 ≤ 7258737 by omega) ?_
      refine j_sipush C dL_law_934 ((-1001 : Int32)) (by decide) ?_
      refine j_icmp_ne C dL_law_937 985 (by decide) (fun c149 => ?_) (fun c149 => ?_)
      · have h := (if_neg c149).symm.trans h
        refine j_iconst C dL_law_985 ((0 : Int32)) (by decide) ?_
        cases h
      · have h := (if_pos c149).symm.trans h
        refine j_aload_n C dL_law_940 0 rfl ?_
        refine j_iconst C dL_law_941 ((-1 : Int32)) (by decide) ?_
        refine j_iload C dL_law_942 4 rfl ?_
        obtain ⟨⟨r150, σ151⟩, h152, h⟩ := ob h
        try dsimp only at h
        refine jm_callSX CV X (N1 := 2) (N2 := 12) (c_L_of n G σ147 40 ((-1 : Int32)) l8 ok40 _ _ h152) dL_law_944 (gSm9 v_283 v_285 v_232 v_284) rfl hy_L_of rfl rfl ⟨Nat.le_of_ble_eq_true rfl, Nat.le_of_ble_eq_true rfl⟩ (Nat.le_of_ble_eq_true rfl) (Nat.le_of_ble_eq_true rfl) (Nat.le_of_ble_eq_true rfl) (show kc + 2 + 2 ≤ 612008 ∧ ns + 12 + 12 ≤ 7258737 by omega) ?_
        refine j_sipush C dL_law_947 ((-1001 : Int32)) (by decide) ?_
        refine j_icmp_ne C dL_law_950 985 (by decide) (fun c153 => ?_) (fun c153 => ?_)
        · have h := (if_neg c153).symm.trans h
          refine j_iconst C dL_law_985 ((0 : Int32)) (by decide) ?_
          cases h
        · have h := (if_pos c153).symm.trans h
          refine j_iload C dL_law_953 4 rfl ?_
          refine j_if_eq C dL_law_955 987 (by decide) (fun c154 => ?_) (fun c154 => ?_)
          · have h := (if_pos c154).symm.trans h
            refine j_sub [0, 1, 2, 3, 4] [(1, .ref (G.2.2 (40))), (3, .int (l3)), (5, .long (l5)), (7, .int (l7)), (8, .int (l8))] rfl ?_
            exact JP987 (612008 - 2026 - 6 * k) (by omega) (fun σ l3 l5 l7 l8 => lp_L_law_917 n xs L k σ l3 l5 l7 l8) (fun σ l3 l5 l7 l8 kc9 ns9 h1 h2 h3 => ih σ l3 l5 l7 l8 kc9 ns9 (by omega) (by omega) h3) σ151 l3 l5 l7 l8 (kc + 2 + 2) (ns + 12 + 12) (by omega) (by omega) h
          · have h := (if_neg c154).symm.trans h
            refine j_iload C dL_law_958 4 rfl ?_
            refine j_bipush C dL_law_960 ((7 : Int32)) (by decide) ?_
            refine j_icmp_eq C dL_law_962 987 (by decide) (fun c155 => ?_) (fun c155 => ?_)
            · have h := (if_pos c155).symm.trans h
              refine j_sub [0, 1, 2, 3, 4] [(1, .ref (G.2.2 (40))), (3, .int (l3)), (5, .long (l5)), (7, .int (l7)), (8, .int (l8))] rfl ?_
              exact JP987 (612008 - 2026 - 6 * k) (by omega) (fun σ l3 l5 l7 l8 => lp_L_law_917 n xs L k σ l3 l5 l7 l8) (fun σ l3 l5 l7 l8 kc9 ns9 h1 h2 h3 => ih σ l3 l5 l7 l8 kc9 ns9 (by omega) (by omega) h3) σ151 l3 l5 l7 l8 (kc + 2 + 2) (ns + 12 + 12) (by omega) (by omega) h
            · have h := (if_neg c155).symm.trans h
              refine j_iload C dL_law_965 4 rfl ?_
              refine j_bipush C dL_law_967 ((8 : Int32)) (by decide) ?_
              refine j_icmp_eq C dL_law_969 987 (by decide) (fun c156 => ?_) (fun c156 => ?_)
              · have h := (if_pos c156).symm.trans h
                refine j_sub [0, 1, 2, 3, 4] [(1, .ref (G.2.2 (40))), (3, .int (l3)), (5, .long (l5)), (7, .int (l7)), (8, .int (l8))] rfl ?_
                exact JP987 (612008 - 2026 - 6 * k) (by omega) (fun σ l3 l5 l7 l8 => lp_L_law_917 n xs L k σ l3 l5 l7 l8) (fun σ l3 l5 l7 l8 kc9 ns9 h1 h2 h3 => ih σ l3 l5 l7 l8 kc9 ns9 (by omega) (by omega) h3) σ151 l3 l5 l7 l8 (kc + 2 + 2) (ns + 12 + 12) (by omega) (by omega) h
              · have h := (if_neg c156).symm.trans h
                refine j_aload_n C dL_law_972 0 rfl ?_
                refine j_iconst C dL_law_973 ((0 : Int32)) (by decide) ?_
                refine j_iload C dL_law_974 4 rfl ?_
                obtain ⟨⟨r157, σ158⟩, h159, h⟩ := ob h
                try dsimp only at h
                refine jm_callSX CV X (N1 := 2) (N2 := 12) (c_L_of n G σ151 40 ((0 : Int32)) l8 ok40 _ _ h159) dL_law_976 (gSm9 v_283 v_285 v_232 v_284) rfl hy_L_of rfl rfl ⟨Nat.le_of_ble_eq_true rfl, Nat.le_of_ble_eq_true rfl⟩ (Nat.le_of_ble_eq_true rfl) (Nat.le_of_ble_eq_true rfl) (Nat.le_of_ble_eq_true rfl) (show kc + 2 + 2 + 2 ≤ 612008 ∧ ns + 12 + 12 + 12 ≤ 7258737 by omega) ?_
                refine j_sipush C dL_law_979 ((-1001 : Int32)) (by decide) ?_
                refine j_icmp_eq C dL_law_982 987 (by decide) (fun c160 => ?_) (fun c160 => ?_)
                · have h := (if_pos c160).symm.trans h
                  refine j_sub [0, 1, 2, 3, 4] [(1, .ref (G.2.2 (40))), (3, .int (l3)), (5, .long (l5)), (7, .int (l7)), (8, .int (l8))] rfl ?_
                  exact JP987 (612008 - 2026 - 6 * k) (by omega) (fun σ l3 l5 l7 l8 => lp_L_law_917 n xs L k σ l3 l5 l7 l8) (fun σ l3 l5 l7 l8 kc9 ns9 h1 h2 h3 => ih σ l3 l5 l7 l8 kc9 ns9 (by omega) (by omega) h3) σ158 l3 l5 l7 l8 (kc + 2 + 2 + 2) (ns + 12 + 12 + 12) (by omega) (by omega) h
                · have h := (if_neg c160).symm.trans h
                  refine j_iconst C dL_law_985 ((0 : Int32)) (by decide) ?_
                  cases h
  have JP914 : ∀ (σ : Mem) (l3 : Int32) (l5 : Int64) (l7 : Int32) (kc : Nat) (ns : Nat), kc + 2098 ≤ 612008 → ns + 12588 ≤ 3672048 → lp_L_law_914 n xs L σ l3 l5 l7 = some (r, σ') → J x [(1, .ref (G.2.2 (40))), (3, .int (l3)), (5, .long (l5)), (7, .int (l7))] [] (wsF G σ ++ T) 914 kc ns := by
    intro σ l3 l5 l7 kc ns hk hn h
    unfold lp_L_law_914 at h
    refine j_iconst C dL_law_914 ((0 : Int32)) (by decide) ?_
    refine j_istore C dL_law_915 (by decide) [(8, .int ((0 : Int32))), (1, .ref (G.2.2 (40))), (3, .int (l3)), (5, .long (l5)), (7, .int (l7))] rfl ?_
    refine j_sub [1, 2, 3, 4, 0] [(1, .ref (G.2.2 (40))), (3, .int (l3)), (5, .long (l5)), (7, .int (l7)), (8, .int ((0 : Int32)))] rfl ?_
    exact LP917 12 σ l3 l5 l7 ((0 : Int32)) (kc) (ns) (by omega) (by omega) h
  have JP754 : ∀ (σ : Mem) (l3 : Int32) (l5 : Int64) (l7 : Int32) (kc : Nat) (ns : Nat), kc + 2114 ≤ 612008 → ns + 12684 ≤ 3672048 → lp_L_law_754 n xs L σ l3 l5 l7 = some (r, σ') → J x [(1, .ref (G.2.2 (40))), (3, .int (l3)), (5, .long (l5)), (7, .int (l7))] [] (wsF G σ ++ T) 754 kc ns := by
    intro σ l3 l5 l7 kc ns hk hn h
    unfold lp_L_law_754 at h
    refine j_aload_n C dL_law_754 0 rfl ?_
    refine j_bipush C dL_law_755 ((102 : Int32)) (by decide) ?_
    refine j_sipush C dL_law_757 ((1001 : Int32)) (by decide) ?_
    obtain ⟨⟨r40, σ41⟩, h42, h⟩ := ob h
    try dsimp only at h
    refine jm_callSX CV X (N1 := 1) (N2 := 6) (c_L_sets n G σ 40 ((102 : Int32)) ((1001 : Int32)) ok40 _ _ h42) dL_law_760 (gSm9 v_254 v_256 v_232 v_255) rfl hy_L_sets rfl rfl ⟨Nat.le_of_ble_eq_true rfl, Nat.le_of_ble_eq_true rfl⟩ (Nat.le_of_ble_eq_true rfl) (Nat.le_of_ble_eq_true rfl) (Nat.le_of_ble_eq_true rfl) (show kc + 1 ≤ 612008 ∧ ns + 6 ≤ 7258737 by omega) ?_
    refine j_sipush C dL_law_763 ((-1001 : Int32)) (by decide) ?_
    refine j_icmp_ne C dL_law_766 912 (by decide) (fun c43 => ?_) (fun c43 => ?_)
    · have h := (if_neg c43).symm.trans h
      refine j_iconst C dL_law_912 ((0 : Int32)) (by decide) ?_
      cases h
    · have h := (if_pos c43).symm.trans h
      refine j_aload_n C dL_law_769 0 rfl ?_
      refine j_bipush C dL_law_770 ((102 : Int32)) (by decide) ?_
      refine j_iconst C dL_law_772 ((-1 : Int32)) (by decide) ?_
      obtain ⟨⟨r44, σ45⟩, h46, h⟩ := ob h
      try dsimp only at h
      refine jm_callSX CV X (N1 := 1) (N2 := 6) (c_L_sets n G σ41 40 ((102 : Int32)) ((-1 : Int32)) ok40 _ _ h46) dL_law_773 (gSm9 v_254 v_256 v_232 v_255) rfl hy_L_sets rfl rfl ⟨Nat.le_of_ble_eq_true rfl, Nat.le_of_ble_eq_true rfl⟩ (Nat.le_of_ble_eq_true rfl) (Nat.le_of_ble_eq_true rfl) (Nat.le_of_ble_eq_true rfl) (show kc + 1 + 1 ≤ 612008 ∧ ns + 6 + 6 ≤ 7258737 by omega) ?_
      refine j_sipush C dL_law_776 ((-1001 : Int32)) (by decide) ?_
      refine j_icmp_ne C dL_law_779 912 (by decide) (fun c47 => ?_) (fun c47 => ?_)
      · have h := (if_neg c47).symm.trans h
        refine j_iconst C dL_law_912 ((0 : Int32)) (by decide) ?_
        cases h
      · have h := (if_pos c47).symm.trans h
        refine j_aload_n C dL_law_782 0 rfl ?_
        refine j_bipush C dL_law_783 ((108 : Int32)) (by decide) ?_
        refine j_iconst C dL_law_785 ((0 : Int32)) (by decide) ?_
        obtain ⟨⟨r48, σ49⟩, h50, h⟩ := ob h
        try dsimp only at h
        refine jm_callSX CV X (N1 := 1) (N2 := 6) (c_L_sets n G σ45 40 ((108 : Int32)) ((0 : Int32)) ok40 _ _ h50) dL_law_786 (gSm9 v_254 v_256 v_232 v_255) rfl hy_L_sets rfl rfl ⟨Nat.le_of_ble_eq_true rfl, Nat.le_of_ble_eq_true rfl⟩ (Nat.le_of_ble_eq_true rfl) (Nat.le_of_ble_eq_true rfl) (Nat.le_of_ble_eq_true rfl) (show kc + 1 + 1 + 1 ≤ 612008 ∧ ns + 6 + 6 + 6 ≤ 7258737 by omega) ?_
        refine j_sipush C dL_law_789 ((-1001 : Int32)) (by decide) ?_
        refine j_icmp_ne C dL_law_792 912 (by decide) (fun c51 => ?_) (fun c51 => ?_)
        · have h := (if_neg c51).symm.trans h
          refine j_iconst C dL_law_912 ((0 : Int32)) (by decide) ?_
          cases h
        · have h := (if_pos c51).symm.trans h
          refine j_aload_n C dL_law_795 0 rfl ?_
          refine j_bipush C dL_law_796 ((108 : Int32)) (by decide) ?_
          refine j_sipush C dL_law_798 ((1001 : Int32)) (by decide) ?_
          obtain ⟨⟨r52, σ53⟩, h54, h⟩ := ob h
          try dsimp only at h
          refine jm_callSX CV X (N1 := 1) (N2 := 6) (c_L_sets n G σ49 40 ((108 : Int32)) ((1001 : Int32)) ok40 _ _ h54) dL_law_801 (gSm9 v_254 v_256 v_232 v_255) rfl hy_L_sets rfl rfl ⟨Nat.le_of_ble_eq_true rfl, Nat.le_of_ble_eq_true rfl⟩ (Nat.le_of_ble_eq_true rfl) (Nat.le_of_ble_eq_true rfl) (Nat.le_of_ble_eq_true rfl) (show kc + 1 + 1 + 1 + 1 ≤ 612008 ∧ ns + 6 + 6 + 6 + 6 ≤ 7258737 by omega) ?_
          refine j_sipush C dL_law_804 ((-1001 : Int32)) (by decide) ?_
          refine j_icmp_ne C dL_law_807 912 (by decide) (fun c55 => ?_) (fun c55 => ?_)
          · have h := (if_neg c55).symm.trans h
            refine j_iconst C dL_law_912 ((0 : Int32)) (by decide) ?_
            cases h
          · have h := (if_pos c55).symm.trans h
            refine j_aload_n C dL_law_810 0 rfl ?_
            refine j_bipush C dL_law_811 ((115 : Int32)) (by decide) ?_
            refine j_bipush C dL_law_813 ((9 : Int32)) (by decide) ?_
            obtain ⟨⟨r56, σ57⟩, h58, h⟩ := ob h
            try dsimp only at h
            refine jm_callSX CV X (N1 := 1) (N2 := 6) (c_L_sets n G σ53 40 ((115 : Int32)) ((9 : Int32)) ok40 _ _ h58) dL_law_815 (gSm9 v_254 v_256 v_232 v_255) rfl hy_L_sets rfl rfl ⟨Nat.le_of_ble_eq_true rfl, Nat.le_of_ble_eq_true rfl⟩ (Nat.le_of_ble_eq_true rfl) (Nat.le_of_ble_eq_true rfl) (Nat.le_of_ble_eq_true rfl) (show kc + 1 + 1 + 1 + 1 + 1 ≤ 612008 ∧ ns + 6 + 6 + 6 + 6 + 6 ≤ 7258737 by omega) ?_
            refine j_sipush C dL_law_818 ((-1001 : Int32)) (by decide) ?_
            refine j_icmp_ne C dL_law_821 912 (by decide) (fun c59 => ?_) (fun c59 => ?_)
            · have h := (if_neg c59).symm.trans h
              refine j_iconst C dL_law_912 ((0 : Int32)) (by decide) ?_
              cases h
            · have h := (if_pos c59).symm.trans h
              refine j_aload_n C dL_law_824 0 rfl ?_
              refine j_bipush C dL_law_825 ((115 : Int32)) (by decide) ?_
              refine j_sipush C dL_law_827 ((501 : Int32)) (by decide) ?_
              obtain ⟨⟨r60, σ61⟩, h62, h⟩ := ob h
              try dsimp only at h
              refine jm_callSX CV X (N1 := 1) (N2 := 6) (c_L_sets n G σ57 40 ((115 : Int32)) ((501 : Int32)) ok40 _ _ h62) dL_law_830 (gSm9 v_254 v_256 v_232 v_255) rfl hy_L_sets rfl rfl ⟨Nat.le_of_ble_eq_true rfl, Nat.le_of_ble_eq_true rfl⟩ (Nat.le_of_ble_eq_true rfl) (Nat.le_of_ble_eq_true rfl) (Nat.le_of_ble_eq_true rfl) (show kc + 1 + 1 + 1 + 1 + 1 + 1 ≤ 612008 ∧ ns + 6 + 6 + 6 + 6 + 6 + 6 ≤ 7258737 by omega) ?_
              refine j_sipush C dL_law_833 ((-1001 : Int32)) (by decide) ?_
              refine j_icmp_ne C dL_law_836 912 (by decide) (fun c63 => ?_) (fun c63 => ?_)
              · have h := (if_neg c63).symm.trans h
                refine j_iconst C dL_law_912 ((0 : Int32)) (by decide) ?_
                cases h
              · have h := (if_pos c63).symm.trans h
                refine j_aload_n C dL_law_839 0 rfl ?_
                refine j_iconst C dL_law_840 ((0 : Int32)) (by decide) ?_
                refine j_iconst C dL_law_841 ((1 : Int32)) (by decide) ?_
                obtain ⟨⟨r64, σ65⟩, h66, h⟩ := ob h
                try dsimp only at h
                refine jm_callSX CV X (N1 := 1) (N2 := 6) (c_L_door n G σ61 40 ((0 : Int32)) ((1 : Int32)) ok40 _ _ h66) dL_law_842 (gSm9 v_257 v_259 v_232 v_258) rfl hy_L_door rfl rfl ⟨Nat.le_of_ble_eq_true rfl, Nat.le_of_ble_eq_true rfl⟩ (Nat.le_of_ble_eq_true rfl) (Nat.le_of_ble_eq_true rfl) (Nat.le_of_ble_eq_true rfl) (show kc + 1 + 1 + 1 + 1 + 1 + 1 + 1 ≤ 612008 ∧ ns + 6 + 6 + 6 + 6 + 6 + 6 + 6 ≤ 7258737 by omega) ?_
                refine j_sipush C dL_law_845 ((-1001 : Int32)) (by decide) ?_
                refine j_icmp_ne C dL_law_848 912 (by decide) (fun c67 => ?_) (fun c67 => ?_)
                · have h := (if_neg c67).symm.trans h
                  refine j_iconst C dL_law_912 ((0 : Int32)) (by decide) ?_
                  cases h
                · have h := (if_pos c67).symm.trans h
                  refine j_aload_n C dL_law_851 0 rfl ?_
                  refine j_iload C dL_law_852 3 rfl ?_
                  refine j_iconst C dL_law_854 ((1 : Int32)) (by decide) ?_
                  refine j_iadd C dL_law_855 ?_
                  refine j_iconst C dL_law_856 ((1 : Int32)) (by decide) ?_
                  obtain ⟨⟨r68, σ69⟩, h70, h⟩ := ob h
                  try dsimp only at h
                  refine jm_callSX CV X (N1 := 1) (N2 := 6) (c_L_door n G σ65 40 ((l7 + (1 : Int32))) ((1 : Int32)) ok40 _ _ h70) dL_law_857 (gSm9 v_257 v_259 v_232 v_258) rfl hy_L_door rfl rfl ⟨Nat.le_of_ble_eq_true rfl, Nat.le_of_ble_eq_true rfl⟩ (Nat.le_of_ble_eq_true rfl) (Nat.le_of_ble_eq_true rfl) (Nat.le_of_ble_eq_true rfl) (show kc + 1 + 1 + 1 + 1 + 1 + 1 + 1 + 1 ≤ 612008 ∧ ns + 6 + 6 + 6 + 6 + 6 + 6 + 6 + 6 ≤ 7258737 by omega) ?_
                  refine j_sipush C dL_law_860 ((-1001 : Int32)) (by decide) ?_
                  refine j_icmp_ne C dL_law_863 912 (by decide) (fun c71 => ?_) (fun c71 => ?_)
                  · have h := (if_neg c71).symm.trans h
                    refine j_iconst C dL_law_912 ((0 : Int32)) (by decide) ?_
                    cases h
                  · have h := (if_pos c71).symm.trans h
                    refine j_aload_n C dL_law_866 0 rfl ?_
                    refine j_iconst C dL_law_867 ((0 : Int32)) (by decide) ?_
                    obtain ⟨⟨r72, σ73⟩, h74, h⟩ := ob h
                    try dsimp only at h
                    refine jm_callSX CV X (N1 := 2) (N2 := 12) (c_L_hire n G σ69 40 ((0 : Int32)) ok40 _ _ h74) dL_law_868 (gSm9 v_260 v_262 v_232 v_261) rfl hy_L_hire rfl rfl ⟨Nat.le_of_ble_eq_true rfl, Nat.le_of_ble_eq_true rfl⟩ (Nat.le_of_ble_eq_true rfl) (Nat.le_of_ble_eq_true rfl) (Nat.le_of_ble_eq_true rfl) (show kc + 1 + 1 + 1 + 1 + 1 + 1 + 1 + 1 + 2 ≤ 612008 ∧ ns + 6 + 6 + 6 + 6 + 6 + 6 + 6 + 6 + 12 ≤ 7258737 by omega) ?_
                    refine j_sipush C dL_law_871 ((-1001 : Int32)) (by decide) ?_
                    refine j_icmp_ne C dL_law_874 912 (by decide) (fun c75 => ?_) (fun c75 => ?_)
                    · have h := (if_neg c75).symm.trans h
                      refine j_iconst C dL_law_912 ((0 : Int32)) (by decide) ?_
                      cases h
                    · have h := (if_pos c75).symm.trans h
                      refine j_aload_n C dL_law_877 0 rfl ?_
                      refine j_bipush C dL_law_878 ((100 : Int32)) (by decide) ?_
                      obtain ⟨⟨r76, σ77⟩, h78, h⟩ := ob h
                      try dsimp only at h
                      refine jm_callSX CV X (N1 := 2) (N2 := 12) (c_L_hire n G σ73 40 ((100 : Int32)) ok40 _ _ h78) dL_law_880 (gSm9 v_260 v_262 v_232 v_261) rfl hy_L_hire rfl rfl ⟨Nat.le_of_ble_eq_true rfl, Nat.le_of_ble_eq_true rfl⟩ (Nat.le_of_ble_eq_true rfl) (Nat.le_of_ble_eq_true rfl) (Nat.le_of_ble_eq_true rfl) (show kc + 1 + 1 + 1 + 1 + 1 + 1 + 1 + 1 + 2 + 2 ≤ 612008 ∧ ns + 6 + 6 + 6 + 6 + 6 + 6 + 6 + 6 + 12 + 12 ≤ 7258737 by omega) ?_
                      refine j_sipush C dL_law_883 ((-1001 : Int32)) (by decide) ?_
                      refine j_icmp_ne C dL_law_886 912 (by decide) (fun c79 => ?_) (fun c79 => ?_)
                      · have h := (if_neg c79).symm.trans h
                        refine j_iconst C dL_law_912 ((0 : Int32)) (by decide) ?_
                        cases h
                      · have h := (if_pos c79).symm.trans h
                        refine j_aload_n C dL_law_889 0 rfl ?_
                        refine j_iconst C dL_law_890 ((0 : Int32)) (by decide) ?_
                        obtain ⟨⟨r80, σ81⟩, h82, h⟩ := ob h
                        try dsimp only at h
                        refine jm_callSX CV X (N1 := 2) (N2 := 12) (c_L_pass n G σ77 40 ((0 : Int32)) ok40 _ _ h82) dL_law_891 (gSm9 v_263 v_265 v_232 v_264) rfl hy_L_pass rfl rfl ⟨Nat.le_of_ble_eq_true rfl, Nat.le_of_ble_eq_true rfl⟩ (Nat.le_of_ble_eq_true rfl) (Nat.le_of_ble_eq_true rfl) (Nat.le_of_ble_eq_true rfl) (show kc + 1 + 1 + 1 + 1 + 1 + 1 + 1 + 1 + 2 + 2 + 2 ≤ 612008 ∧ ns + 6 + 6 + 6 + 6 + 6 + 6 + 6 + 6 + 12 + 12 + 12 ≤ 7258737 by omega) ?_
                        refine j_sipush C dL_law_894 ((-1001 : Int32)) (by decide) ?_
                        refine j_icmp_ne C dL_law_897 912 (by decide) (fun c83 => ?_) (fun c83 => ?_)
                        · have h := (if_neg c83).symm.trans h
                          refine j_iconst C dL_law_912 ((0 : Int32)) (by decide) ?_
                          cases h
                        · have h := (if_pos c83).symm.trans h
                          refine j_aload_n C dL_law_900 0 rfl ?_
                          refine j_bipush C dL_law_901 ((61 : Int32)) (by decide) ?_
                          obtain ⟨⟨r84, σ85⟩, h86, h⟩ := ob h
                          try dsimp only at h
                          refine jm_callSX CV X (N1 := 2) (N2 := 12) (c_L_pass n G σ81 40 ((61 : Int32)) ok40 _ _ h86) dL_law_903 (gSm9 v_263 v_265 v_232 v_264) rfl hy_L_pass rfl rfl ⟨Nat.le_of_ble_eq_true rfl, Nat.le_of_ble_eq_true rfl⟩ (Nat.le_of_ble_eq_true rfl) (Nat.le_of_ble_eq_true rfl) (Nat.le_of_ble_eq_true rfl) (show kc + 1 + 1 + 1 + 1 + 1 + 1 + 1 + 1 + 2 + 2 + 2 + 2 ≤ 612008 ∧ ns + 6 + 6 + 6 + 6 + 6 + 6 + 6 + 6 + 12 + 12 + 12 + 12 ≤ 7258737 by omega) ?_
                          refine j_sipush C dL_law_906 ((-1001 : Int32)) (by decide) ?_
                          refine j_icmp_eq C dL_law_909 914 (by decide) (fun c87 => ?_) (fun c87 => ?_)
                          · have h := (if_pos c87).symm.trans h
                            refine j_sub [0, 1, 2, 3] [(1, .ref (G.2.2 (40))), (3, .int (l3)), (5, .long (l5)), (7, .int (l7))] rfl ?_
                            exact JP914 σ85 l3 l5 l7 (kc + 1 + 1 + 1 + 1 + 1 + 1 + 1 + 1 + 2 + 2 + 2 + 2) (ns + 6 + 6 + 6 + 6 + 6 + 6 + 6 + 6 + 12 + 12 + 12 + 12) (by omega) (by omega) h
                          · have h := (if_neg c87).symm.trans h
                            refine j_iconst C dL_law_912 ((0 : Int32)) (by decide) ?_
                            cases h
  have JP628 : ∀ (σ : Mem) (l2 : Int32) (l3 : Int32) (kc : Nat) (ns : Nat), kc + 2527 ≤ 612008 → ns + 15162 ≤ 3672048 → lp_L_law_628 n xs L σ l2 l3 = some (r, σ') → J x [(1, .ref (G.2.2 (40))), (2, .int (l2)), (3, .int (l3))] [] (wsF G σ ++ T) 628 kc ns := by
    intro σ l2 l3 kc ns hk hn h
    unfold lp_L_law_628 at h
    refine j_aload_n C dL_law_628 0 rfl ?_
    refine j_iload_n C dL_law_629 1 rfl ?_
    obtain ⟨⟨r6, σ7⟩, h8, h⟩ := ob h
    try dsimp only at h
    refine jm_callS CV X (N1 := 250) (N2 := 1500) (c_L_isSound n G σ 40 l2 ok40 _ _ h8) dL_law_630 (gSc9 v_237 v_239 v_232 v_238) rfl hy_L_isSound rfl rfl ⟨Nat.le_of_ble_eq_true rfl, Nat.le_of_ble_eq_true rfl⟩ (Nat.le_of_ble_eq_true rfl) (Nat.le_of_ble_eq_true rfl) (Nat.le_of_ble_eq_true rfl) (show kc + 250 ≤ 612008 ∧ ns + 1500 ≤ 7258737 by omega) ?_
    refine j_if_ne C dL_law_633 638 (by decide) (fun c9 => ?_) (fun c9 => ?_)
    · have h := (if_neg c9).symm.trans h
      refine j_aload_n C dL_law_638 0 rfl ?_
      obtain ⟨⟨r10, σ11⟩, h12, h⟩ := ob h
      try dsimp only at h
      refine jm_callS CV X (N1 := 133) (N2 := 798) (c_L_sum n G σ7 40 ok40 _ _ h12) dL_law_639 (gSc9 v_240 v_242 v_232 v_241) rfl hy_L_sum rfl rfl ⟨Nat.le_of_ble_eq_true rfl, Nat.le_of_ble_eq_true rfl⟩ (Nat.le_of_ble_eq_true rfl) (Nat.le_of_ble_eq_true rfl) (Nat.le_of_ble_eq_true rfl) (show kc + 250 + 133 ≤ 612008 ∧ ns + 1500 + 798 ≤ 7258737 by omega) ?_
      refine j_lstore C dL_law_642 (by decide) [(5, .long (r10)), (1, .ref (G.2.2 (40))), (2, .int (l2)), (3, .int (l3))] rfl ?_
      refine j_aload_n C dL_law_644 1 rfl ?_
      obtain ⟨⟨r13, σ14⟩, h15, h⟩ := ob h
      try dsimp only at h
      refine jm_callV CV X (N1 := 0) (N2 := 0) (c_X5_levelCount n G σ11 40 ok40 _ _ h15) dL_law_645 (gVm9 v_243 v_245 v_246 v_170 v_244) rfl hy_X5_levelCount rfl ok40 rfl (ci := 9) rfl rfl rfl ⟨Nat.le_of_ble_eq_true rfl, Nat.le_of_ble_eq_true rfl⟩ (Nat.le_of_ble_eq_true rfl) (Nat.le_of_ble_eq_true rfl) (Nat.le_of_ble_eq_true rfl) (show kc + 250 + 133 + 0 ≤ 612008 ∧ ns + 1500 + 798 + 0 ≤ 7258737 by omega) ?_
      refine j_istore C dL_law_648 (by decide) [(7, .int (r13)), (5, .long (r10)), (1, .ref (G.2.2 (40))), (2, .int (l2)), (3, .int (l3))] rfl ?_
      refine j_aload_n C dL_law_650 2 rfl ?_
      refine j_bipush C dL_law_651 ((9 : Int32)) (by decide) ?_
      refine j_iconst C dL_law_653 ((1 : Int32)) (by decide) ?_
      refine j_iconst C dL_law_654 ((1 : Int32)) (by decide) ?_
      refine j_iconst C dL_law_655 ((0 : Int32)) (by decide) ?_
      obtain ⟨⟨r16, σ17⟩, h18, h⟩ := ob h
      try dsimp only at h
      refine jm_callSX CV X (N1 := 5) (N2 := 30) (c_L_level n G σ14 40 ((9 : Int32)) ((1 : Int32)) ((1 : Int32)) ((0 : Int32)) ok40 _ _ h18) dL_law_656 (gSm9 v_247 v_249 v_232 v_248) rfl hy_L_level rfl rfl ⟨Nat.le_of_ble_eq_true rfl, Nat.le_of_ble_eq_true rfl⟩ (Nat.le_of_ble_eq_true rfl) (Nat.le_of_ble_eq_true rfl) (Nat.le_of_ble_eq_true rfl) (show kc + 250 + 133 + 0 + 5 ≤ 612008 ∧ ns + 1500 + 798 + 0 + 30 ≤ 7258737 by omega) ?_
      refine j_sipush C dL_law_659 ((-1001 : Int32)) (by decide) ?_
      refine j_icmp_ne C dL_law_662 912 (by decide) (fun c19 => ?_) (fun c19 => ?_)
      · have h := (if_neg c19).symm.trans h
        refine j_iconst C dL_law_912 ((0 : Int32)) (by decide) ?_
        cases h
      · have h := (if_pos c19).symm.trans h
        refine j_aload_n C dL_law_665 2 rfl ?_
        refine j_sipush C dL_law_666 ((2001 : Int32)) (by decide) ?_
        refine j_iconst C dL_law_669 ((1 : Int32)) (by decide) ?_
        refine j_iconst C dL_law_670 ((1 : Int32)) (by decide) ?_
        refine j_iconst C dL_law_671 ((0 : Int32)) (by decide) ?_
        obtain ⟨⟨r20, σ21⟩, h22, h⟩ := ob h
        try dsimp only at h
        refine jm_callSX CV X (N1 := 5) (N2 := 30) (c_L_level n G σ17 40 ((2001 : Int32)) ((1 : Int32)) ((1 : Int32)) ((0 : Int32)) ok40 _ _ h22) dL_law_672 (gSm9 v_247 v_249 v_232 v_248) rfl hy_L_level rfl rfl ⟨Nat.le_of_ble_eq_true rfl, Nat.le_of_ble_eq_true rfl⟩ (Nat.le_of_ble_eq_true rfl) (Nat.le_of_ble_eq_true rfl) (Nat.le_of_ble_eq_true rfl) (show kc + 250 + 133 + 0 + 5 + 5 ≤ 612008 ∧ ns + 1500 + 798 + 0 + 30 + 30 ≤ 7258737 by omega) ?_
        refine j_sipush C dL_law_675 ((-1001 : Int32)) (by decide) ?_
        refine j_icmp_ne C dL_law_678 912 (by decide) (fun c23 => ?_) (fun c23 => ?_)
        · have h := (if_neg c23).symm.trans h
          refine j_iconst C dL_law_912 ((0 : Int32)) (by decide) ?_
          cases h
        · have h := (if_pos c23).symm.trans h
          refine j_aload_n C dL_law_681 2 rfl ?_
          refine j_sipush C dL_law_682 ((2000 : Int32)) (by decide) ?_
          refine j_iconst C dL_law_685 ((0 : Int32)) (by decide) ?_
          refine j_iconst C dL_law_686 ((1 : Int32)) (by decide) ?_
          refine j_iconst C dL_law_687 ((0 : Int32)) (by decide) ?_
          obtain ⟨⟨r24, σ25⟩, h26, h⟩ := ob h
          try dsimp only at h
          refine jm_callSX CV X (N1 := 5) (N2 := 30) (c_L_level n G σ21 40 ((2000 : Int32)) ((0 : Int32)) ((1 : Int32)) ((0 : Int32)) ok40 _ _ h26) dL_law_688 (gSm9 v_247 v_249 v_232 v_248) rfl hy_L_level rfl rfl ⟨Nat.le_of_ble_eq_true rfl, Nat.le_of_ble_eq_true rfl⟩ (Nat.le_of_ble_eq_true rfl) (Nat.le_of_ble_eq_true rfl) (Nat.le_of_ble_eq_true rfl) (show kc + 250 + 133 + 0 + 5 + 5 + 5 ≤ 612008 ∧ ns + 1500 + 798 + 0 + 30 + 30 + 30 ≤ 7258737 by omega) ?_
          refine j_sipush C dL_law_691 ((-1001 : Int32)) (by decide) ?_
          refine j_icmp_ne C dL_law_694 912 (by decide) (fun c27 => ?_) (fun c27 => ?_)
          · have h := (if_neg c27).symm.trans h
            refine j_iconst C dL_law_912 ((0 : Int32)) (by decide) ?_
            cases h
          · have h := (if_pos c27).symm.trans h
            refine j_aload_n C dL_law_697 2 rfl ?_
            refine j_sipush C dL_law_698 ((2000 : Int32)) (by decide) ?_
            refine j_iconst C dL_law_701 ((1 : Int32)) (by decide) ?_
            refine j_bipush C dL_law_702 ((21 : Int32)) (by decide) ?_
            refine j_iconst C dL_law_704 ((0 : Int32)) (by decide) ?_
            obtain ⟨⟨r28, σ29⟩, h30, h⟩ := ob h
            try dsimp only at h
            refine jm_callSX CV X (N1 := 5) (N2 := 30) (c_L_level n G σ25 40 ((2000 : Int32)) ((1 : Int32)) ((21 : Int32)) ((0 : Int32)) ok40 _ _ h30) dL_law_705 (gSm9 v_247 v_249 v_232 v_248) rfl hy_L_level rfl rfl ⟨Nat.le_of_ble_eq_true rfl, Nat.le_of_ble_eq_true rfl⟩ (Nat.le_of_ble_eq_true rfl) (Nat.le_of_ble_eq_true rfl) (Nat.le_of_ble_eq_true rfl) (show kc + 250 + 133 + 0 + 5 + 5 + 5 + 5 ≤ 612008 ∧ ns + 1500 + 798 + 0 + 30 + 30 + 30 + 30 ≤ 7258737 by omega) ?_
            refine j_sipush C dL_law_708 ((-1001 : Int32)) (by decide) ?_
            refine j_icmp_ne C dL_law_711 912 (by decide) (fun c31 => ?_) (fun c31 => ?_)
            · have h := (if_neg c31).symm.trans h
              refine j_iconst C dL_law_912 ((0 : Int32)) (by decide) ?_
              cases h
            · have h := (if_pos c31).symm.trans h
              refine j_aload_n C dL_law_714 2 rfl ?_
              refine j_sipush C dL_law_715 ((2000 : Int32)) (by decide) ?_
              refine j_iconst C dL_law_718 ((1 : Int32)) (by decide) ?_
              refine j_iconst C dL_law_719 ((1 : Int32)) (by decide) ?_
              refine j_bipush C dL_law_720 ((51 : Int32)) (by decide) ?_
              obtain ⟨⟨r32, σ33⟩, h34, h⟩ := ob h
              try dsimp only at h
              refine jm_callSX CV X (N1 := 5) (N2 := 30) (c_L_level n G σ29 40 ((2000 : Int32)) ((1 : Int32)) ((1 : Int32)) ((51 : Int32)) ok40 _ _ h34) dL_law_722 (gSm9 v_247 v_249 v_232 v_248) rfl hy_L_level rfl rfl ⟨Nat.le_of_ble_eq_true rfl, Nat.le_of_ble_eq_true rfl⟩ (Nat.le_of_ble_eq_true rfl) (Nat.le_of_ble_eq_true rfl) (Nat.le_of_ble_eq_true rfl) (show kc + 250 + 133 + 0 + 5 + 5 + 5 + 5 + 5 ≤ 612008 ∧ ns + 1500 + 798 + 0 + 30 + 30 + 30 + 30 + 30 ≤ 7258737 by omega) ?_
              refine j_sipush C dL_law_725 ((-1001 : Int32)) (by decide) ?_
              refine j_icmp_ne C dL_law_728 912 (by decide) (fun c35 => ?_) (fun c35 => ?_)
              · have h := (if_neg c35).symm.trans h
                refine j_iconst C dL_law_912 ((0 : Int32)) (by decide) ?_
                cases h
              · have h := (if_pos c35).symm.trans h
                refine j_aload_n C dL_law_731 2 rfl ?_
                obtain ⟨⟨r36, σ37⟩, h38, h⟩ := ob h
                try dsimp only at h
                refine jm_callV CV X (N1 := 0) (N2 := 0) (c_X5_clock n G σ33 40 ok40 _ _ h38) dL_law_732 (gVm9 v_250 v_252 v_253 v_170 v_251) rfl hy_X5_clock rfl ok40 rfl (ci := 9) rfl rfl rfl ⟨Nat.le_of_ble_eq_true rfl, Nat.le_of_ble_eq_true rfl⟩ (Nat.le_of_ble_eq_true rfl) (Nat.le_of_ble_eq_true rfl) (Nat.le_of_ble_eq_true rfl) (show kc + 250 + 133 + 0 + 5 + 5 + 5 + 5 + 5 + 0 ≤ 612008 ∧ ns + 1500 + 798 + 0 + 30 + 30 + 30 + 30 + 30 + 0 ≤ 7258737 by omega) ?_
                refine j_if_le C dL_law_735 754 (by decide) (fun c39 => ?_) (fun c39 => ?_)
                · have h := (if_pos c39).symm.trans h
                  refine j_sub [2, 4, 1, 0] [(1, .ref (G.2.2 (40))), (3, .int (l3)), (5, .long (r10)), (7, .int (r13))] rfl ?_
                  exact JP754 σ37 l3 r10 r13 (kc + 250 + 133 + 0 + 5 + 5 + 5 + 5 + 5 + 0) (ns + 1500 + 798 + 0 + 30 + 30 + 30 + 30 + 30 + 0) (by omega) (by omega) h
                · have h := (if_neg c39).symm.trans h
                  refine j_aload_n C dL_law_738 2 rfl ?_
                  refine j_sipush C dL_law_739 ((2000 : Int32)) (by decide) ?_
                  refine j_iconst C dL_law_742 ((1 : Int32)) (by decide) ?_
                  refine j_iconst C dL_law_743 ((1 : Int32)) (by decide) ?_
                  refine j_iconst C dL_law_744 ((0 : Int32)) (by decide) ?_
                  obtain ⟨⟨r161, σ162⟩, h163, h⟩ := ob h
                  try dsimp only at h
                  refine jm_callSX CV X (N1 := 5) (N2 := 30) (c_L_level n G σ37 40 ((2000 : Int32)) ((1 : Int32)) ((1 : Int32)) ((0 : Int32)) ok40 _ _ h163) dL_law_745 (gSm9 v_247 v_249 v_232 v_248) rfl hy_L_level rfl rfl ⟨Nat.le_of_ble_eq_true rfl, Nat.le_of_ble_eq_true rfl⟩ (Nat.le_of_ble_eq_true rfl) (Nat.le_of_ble_eq_true rfl) (Nat.le_of_ble_eq_true rfl) (show kc + 250 + 133 + 0 + 5 + 5 + 5 + 5 + 5 + 0 + 5 ≤ 612008 ∧ ns + 1500 + 798 + 0 + 30 + 30 + 30 + 30 + 30 + 0 + 30 ≤ 7258737 by omega) ?_
                  refine j_sipush C dL_law_748 ((-1002 : Int32)) (by decide) ?_
                  refine j_icmp_ne C dL_law_751 912 (by decide) (fun c164 => ?_) (fun c164 => ?_)
                  · have h := (if_neg c164).symm.trans h
                    refine j_iconst C dL_law_912 ((0 : Int32)) (by decide) ?_
                    cases h
                  · have h := (if_pos c164).symm.trans h
                    refine j_sub [2, 4, 1, 0] [(1, .ref (G.2.2 (40))), (3, .int (l3)), (5, .long (r10)), (7, .int (r13))] rfl ?_
                    exact JP754 σ162 l3 r10 r13 (kc + 250 + 133 + 0 + 5 + 5 + 5 + 5 + 5 + 0 + 5) (ns + 1500 + 798 + 0 + 30 + 30 + 30 + 30 + 30 + 0 + 30) (by omega) (by omega) h
    · have h := (if_pos c9).symm.trans h
      refine j_iconst C dL_law_636 ((0 : Int32)) (by decide) ?_
      cases h
  have JP622 : ∀ (B : Nat) (hB : B ≤ 612008) (K9 : Mem → Int32 → Int32 → Int32 → Int32 → Option (Int64 × Mem)) (hK : ∀ (σ : Mem) (l2 : Int32) (l3 : Int32) (l4 : Int32) (l5 : Int32) (kc : Nat) (ns : Nat), kc ≤ B → ns ≤ 6 * B → K9 σ l2 l3 l4 l5 = some (r, σ') → J x [(0, .ref b), (1, .ref (G.2.2 (40))), (2, .int (l2)), (3, .int (l3)), (4, .int (l4)), (5, .int (l5))] [] (wsF G σ ++ T) 27 kc ns) (σ : Mem) (l2 : Int32) (l3 : Int32) (l4 : Int32) (l5 : Int32) (kc : Nat) (ns : Nat), kc + 0 ≤ B → ns + 0 ≤ 6 * B → lp_L_law_622 n xs L K9 σ l2 l3 l4 l5 = some (r, σ') → J x [(0, .ref b), (1, .ref (G.2.2 (40))), (2, .int (l2)), (3, .int (l3)), (4, .int (l4)), (5, .int (l5))] [] (wsF G σ ++ T) 622 kc ns := by
    intro B hB K9 hK σ l2 l3 l4 l5 kc ns hk hn h
    unfold lp_L_law_622 at h
    refine j_iinc C dL_law_622 5 rfl ((1 : Int32)) (by decide) (by decide) [(5, .int ((l5 + (1 : Int32)))), (0, .ref b), (1, .ref (G.2.2 (40))), (2, .int (l2)), (3, .int (l3)), (4, .int (l4))] rfl ?_
    refine j_goto C dL_law_625 27 (by decide) ?_
    refine j_sub [1, 2, 3, 4, 5, 0] [(0, .ref b), (1, .ref (G.2.2 (40))), (2, .int (l2)), (3, .int (l3)), (4, .int (l4)), (5, .int ((l5 + (1 : Int32))))] rfl ?_
    exact hK σ l2 l3 l4 ((l5 + (1 : Int32))) (kc) (ns) (by omega) (by omega) h
  have JP602 : ∀ (B : Nat) (hB : B ≤ 612008) (K9 : Mem → Int32 → Int32 → Int32 → Int32 → Option (Int64 × Mem)) (hK : ∀ (σ : Mem) (l2 : Int32) (l3 : Int32) (l4 : Int32) (l5 : Int32) (kc : Nat) (ns : Nat), kc ≤ B → ns ≤ 6 * B → K9 σ l2 l3 l4 l5 = some (r, σ') → J x [(0, .ref b), (1, .ref (G.2.2 (40))), (2, .int (l2)), (3, .int (l3)), (4, .int (l4)), (5, .int (l5))] [] (wsF G σ ++ T) 27 kc ns) (σ : Mem) (l2 : Int32) (l3 : Int32) (l4 : Int32) (l5 : Int32) (kc : Nat) (ns : Nat), kc + 250 ≤ B → ns + 1500 ≤ 6 * B → lp_L_law_602 n xs L K9 σ l2 l3 l4 l5 = some (r, σ') → J x [(0, .ref b), (1, .ref (G.2.2 (40))), (2, .int (l2)), (3, .int (l3)), (4, .int (l4)), (5, .int (l5))] [] (wsF G σ ++ T) 602 kc ns := by
    intro B hB K9 hK σ l2 l3 l4 l5 kc ns hk hn h
    unfold lp_L_law_602 at h
    refine j_iload C dL_law_602 5 rfl ?_
    refine j_bipush C dL_law_604 ((7 : Int32)) (by decide) ?_
    refine j_irem C dL_law_606 (by decide) ?_
    refine j_bipush C dL_law_607 ((6 : Int32)) (by decide) ?_
    refine j_icmp_ne C dL_law_609 622 (by decide) (fun c195 => ?_) (fun c195 => ?_)
    · have h := (if_neg c195).symm.trans h
      refine j_sub [0, 1, 2, 3, 4, 5] [(0, .ref b), (1, .ref (G.2.2 (40))), (2, .int (l2)), (3, .int (l3)), (4, .int (l4)), (5, .int (l5))] rfl ?_
      exact JP622 B hB K9 hK σ l2 l3 l4 l5 (kc) (ns) (by omega) (by omega) h
    · have h := (if_pos c195).symm.trans h
      refine j_aload_n C dL_law_612 1 rfl ?_
      refine j_iload_n C dL_law_613 2 rfl ?_
      obtain ⟨⟨r196, σ197⟩, h198, h⟩ := ob h
      try dsimp only at h
      refine jm_callS CV X (N1 := 250) (N2 := 1500) (c_L_isSound n G σ 40 l2 ok40 _ _ h198) dL_law_614 (gSc9 v_237 v_239 v_232 v_238) rfl hy_L_isSound rfl rfl ⟨Nat.le_of_ble_eq_true rfl, Nat.le_of_ble_eq_true rfl⟩ (Nat.le_of_ble_eq_true rfl) (Nat.le_of_ble_eq_true rfl) (Nat.le_of_ble_eq_true rfl) (show kc + 250 ≤ 612008 ∧ ns + 1500 ≤ 7258737 by omega) ?_
      refine j_if_ne C dL_law_617 622 (by decide) (fun c199 => ?_) (fun c199 => ?_)
      · have h := (if_neg c199).symm.trans h
        refine j_sub [0, 1, 2, 3, 4, 5] [(0, .ref b), (1, .ref (G.2.2 (40))), (2, .int (l2)), (3, .int (l3)), (4, .int (l4)), (5, .int (l5))] rfl ?_
        exact JP622 B hB K9 hK σ197 l2 l3 l4 l5 (kc + 250) (ns + 1500) (by omega) (by omega) h
      · have h := (if_pos c199).symm.trans h
        refine j_iconst C dL_law_620 ((0 : Int32)) (by decide) ?_
        cases h
  have JP579 : ∀ (B : Nat) (hB : B ≤ 612008) (K9 : Mem → Int32 → Int32 → Int32 → Int32 → Option (Int64 × Mem)) (hK : ∀ (σ : Mem) (l2 : Int32) (l3 : Int32) (l4 : Int32) (l5 : Int32) (kc : Nat) (ns : Nat), kc ≤ B → ns ≤ 6 * B → K9 σ l2 l3 l4 l5 = some (r, σ') → J x [(0, .ref b), (1, .ref (G.2.2 (40))), (2, .int (l2)), (3, .int (l3)), (4, .int (l4)), (5, .int (l5))] [] (wsF G σ ++ T) 27 kc ns) (σ : Mem) (l2 : Int32) (l3 : Int32) (l4 : Int32) (l5 : Int32) (l8 : Int32) (l9 : Int64) (l13 : Int32) (kc : Nat) (ns : Nat), kc + 383 ≤ B → ns + 2298 ≤ 6 * B → lp_L_law_579 n xs L K9 σ l2 l3 l4 l5 l8 l9 l13 = some (r, σ') → J x [(0, .ref b), (1, .ref (G.2.2 (40))), (2, .int (l2)), (3, .int (l3)), (4, .int (l4)), (5, .int (l5)), (8, .int (l8)), (9, .long (l9)), (13, .int (l13))] [] (wsF G σ ++ T) 579 kc ns := by
    intro B hB K9 hK σ l2 l3 l4 l5 l8 l9 l13 kc ns hk hn h
    unfold lp_L_law_579 at h
    refine j_iload C dL_law_579 8 rfl ?_
    refine j_sipush C dL_law_581 ((-1000 : Int32)) (by decide) ?_
    refine j_icmp_ge C dL_law_584 602 (by decide) (fun c194 => ?_) (fun c194 => ?_)
    · have h := (if_pos c194).symm.trans h
      refine j_sub [0, 1, 2, 3, 4, 5] [(0, .ref b), (1, .ref (G.2.2 (40))), (2, .int (l2)), (3, .int (l3)), (4, .int (l4)), (5, .int (l5))] rfl ?_
      exact JP602 B hB K9 hK σ l2 l3 l4 l5 (kc) (ns) (by omega) (by omega) h
    · have h := (if_neg c194).symm.trans h
      refine j_iload C dL_law_587 6 rfl ?_
      refine j_if_eq C dL_law_589 602 (by decide) (fun c200 => ?_) (fun c200 => ?_)
      · have h := (if_pos c200).symm.trans h
        refine j_sub [0, 1, 2, 3, 4, 5] [(0, .ref b), (1, .ref (G.2.2 (40))), (2, .int (l2)), (3, .int (l3)), (4, .int (l4)), (5, .int (l5))] rfl ?_
        exact JP602 B hB K9 hK σ l2 l3 l4 l5 (kc) (ns) (by omega) (by omega) h
      · have h := (if_neg c200).symm.trans h
        refine j_aload_n C dL_law_592 1 rfl ?_
        obtain ⟨⟨r201, σ202⟩, h203, h⟩ := ob h
        try dsimp only at h
        refine jm_callS CV X (N1 := 133) (N2 := 798) (c_L_sum n G σ 40 ok40 _ _ h203) dL_law_593 (gSc9 v_240 v_242 v_232 v_241) rfl hy_L_sum rfl rfl ⟨Nat.le_of_ble_eq_true rfl, Nat.le_of_ble_eq_true rfl⟩ (Nat.le_of_ble_eq_true rfl) (Nat.le_of_ble_eq_true rfl) (Nat.le_of_ble_eq_true rfl) (show kc + 133 ≤ 612008 ∧ ns + 798 ≤ 7258737 by omega) ?_
        refine j_lload C dL_law_596 7 rfl ?_
        refine j_lcmp C dL_law_598 ?_
        refine j_if_ne C dL_law_599 620 (by decide) (fun c204 => ?_) (fun c204 => ?_)
        · have h := (if_neg c204).symm.trans h
          refine j_iconst C dL_law_620 ((0 : Int32)) (by decide) ?_
          cases h
        · have h := (if_pos c204).symm.trans h
          refine j_sub [0, 1, 2, 3, 4, 5] [(0, .ref b), (1, .ref (G.2.2 (40))), (2, .int (l2)), (3, .int (l3)), (4, .int (l4)), (5, .int (l5))] rfl ?_
          exact JP602 B hB K9 hK σ202 l2 l3 l4 l5 (kc + 133) (ns + 798) (by omega) (by omega) h
  have JP318 : ∀ (B : Nat) (hB : B ≤ 612008) (K9 : Mem → Int32 → Int32 → Int32 → Int32 → Option (Int64 × Mem)) (hK : ∀ (σ : Mem) (l2 : Int32) (l3 : Int32) (l4 : Int32) (l5 : Int32) (kc : Nat) (ns : Nat), kc ≤ B → ns ≤ 6 * B → K9 σ l2 l3 l4 l5 = some (r, σ') → J x [(0, .ref b), (1, .ref (G.2.2 (40))), (2, .int (l2)), (3, .int (l3)), (4, .int (l4)), (5, .int (l5))] [] (wsF G σ ++ T) 27 kc ns) (σ : Mem) (l2 : Int32) (l3 : Int32) (l4 : Int32) (l5 : Int32) (l8 : Int32) (l9 : Int64) (s0 : Int32) (s1 : Int32) (kc : Nat) (ns : Nat), kc + 384 ≤ B → ns + 2304 ≤ 6 * B → lp_L_law_318 n xs L K9 σ l2 l3 l4 l5 l8 l9 s0 s1 = some (r, σ') → J x [(0, .ref b), (1, .ref (G.2.2 (40))), (2, .int (l2)), (3, .int (l3)), (4, .int (l4)), (5, .int (l5)), (8, .int (l8)), (9, .long (l9))] [.int (s0), .int (s1), .ref (G.2.2 (40))] (wsF G σ ++ T) 318 kc ns := by
    intro B hB K9 hK σ l2 l3 l4 l5 l8 l9 s0 s1 kc ns hk hn h
    unfold lp_L_law_318 at h
    obtain ⟨⟨r251, σ252⟩, h253, h⟩ := ob h
    try dsimp only at h
    refine jm_callSX CV X (N1 := 1) (N2 := 6) (c_L_door n G σ 40 s1 s0 ok40 _ _ h253) dL_law_318 (gSm9 v_257 v_259 v_232 v_258) rfl hy_L_door rfl rfl ⟨Nat.le_of_ble_eq_true rfl, Nat.le_of_ble_eq_true rfl⟩ (Nat.le_of_ble_eq_true rfl) (Nat.le_of_ble_eq_true rfl) (Nat.le_of_ble_eq_true rfl) (show kc + 1 ≤ 612008 ∧ ns + 6 ≤ 7258737 by omega) ?_
    refine j_istore C dL_law_321 (by decide) [(13, .int (r251)), (0, .ref b), (1, .ref (G.2.2 (40))), (2, .int (l2)), (3, .int (l3)), (4, .int (l4)), (5, .int (l5)), (8, .int (l8)), (9, .long (l9))] rfl ?_
    refine j_goto C dL_law_323 579 (by decide) ?_
    refine j_sub [1, 2, 3, 4, 5, 6, 7, 8, 0] [(0, .ref b), (1, .ref (G.2.2 (40))), (2, .int (l2)), (3, .int (l3)), (4, .int (l4)), (5, .int (l5)), (8, .int (l8)), (9, .long (l9)), (13, .int (r251))] rfl ?_
    exact JP579 B hB K9 hK σ252 l2 l3 l4 l5 l8 l9 r251 (kc + 1) (ns + 6) (by omega) (by omega) h
  have JP132 : ∀ (B : Nat) (hB : B ≤ 612008) (K9 : Mem → Int32 → Int32 → Int32 → Int32 → Option (Int64 × Mem)) (hK : ∀ (σ : Mem) (l2 : Int32) (l3 : Int32) (l4 : Int32) (l5 : Int32) (kc : Nat) (ns : Nat), kc ≤ B → ns ≤ 6 * B → K9 σ l2 l3 l4 l5 = some (r, σ') → J x [(0, .ref b), (1, .ref (G.2.2 (40))), (2, .int (l2)), (3, .int (l3)), (4, .int (l4)), (5, .int (l5))] [] (wsF G σ ++ T) 27 kc ns) (σ : Mem) (l2 : Int32) (l3 : Int32) (l4 : Int32) (l5 : Int32) (l6 : Int32) (l7 : Int32) (l8 : Int32) (l9 : Int64) (l11 : Int32) (l12 : Int32) (s0 : Int32) (kc : Nat) (ns : Nat), kc + 390 ≤ B → ns + 2340 ≤ 6 * B → lp_L_law_132 n xs L K9 σ l2 l3 l4 l5 l6 l7 l8 l9 l11 l12 s0 = some (r, σ') → J x [(0, .ref b), (1, .ref (G.2.2 (40))), (2, .int (l2)), (3, .int (l3)), (4, .int (l4)), (5, .int (l5)), (6, .int (l6)), (7, .int (l7)), (8, .int (l8)), (9, .long (l9)), (11, .int (l11)), (12, .int (l12))] [.int (s0)] (wsF G σ ++ T) 132 kc ns := by
    intro B hB K9 hK σ l2 l3 l4 l5 l6 l7 l8 l9 l11 l12 s0 kc ns hk hn h
    unfold lp_L_law_132 at h
    refine j_istore C dL_law_132 (by decide) [(14, .int (s0)), (0, .ref b), (1, .ref (G.2.2 (40))), (2, .int (l2)), (3, .int (l3)), (4, .int (l4)), (5, .int (l5)), (6, .int (l6)), (7, .int (l7)), (8, .int (l8)), (9, .long (l9)), (11, .int (l11)), (12, .int (l12))] rfl ?_
    refine j_iload C dL_law_134 0 rfl ?_
    refine j_iconst C dL_law_136 ((1 : Int32)) (by decide) ?_
    refine j_icmp_ge C dL_law_137 197 (by decide) (fun c178 => ?_) (fun c178 => ?_)
    · have h := (if_pos c178).symm.trans h
      refine j_iload C dL_law_197 0 rfl ?_
      refine j_iconst C dL_law_199 ((3 : Int32)) (by decide) ?_
      refine j_icmp_ge C dL_law_200 219 (by decide) (fun c179 => ?_) (fun c179 => ?_)
      · have h := (if_pos c179).symm.trans h
        refine j_iload C dL_law_219 0 rfl ?_
        refine j_iconst C dL_law_221 ((4 : Int32)) (by decide) ?_
        refine j_icmp_ge C dL_law_222 242 (by decide) (fun c180 => ?_) (fun c180 => ?_)
        · have h := (if_pos c180).symm.trans h
          refine j_iload C dL_law_242 0 rfl ?_
          refine j_iconst C dL_law_244 ((5 : Int32)) (by decide) ?_
          refine j_icmp_ge C dL_law_245 266 (by decide) (fun c181 => ?_) (fun c181 => ?_)
          · have h := (if_pos c181).symm.trans h
            refine j_iload C dL_law_266 0 rfl ?_
            refine j_bipush C dL_law_268 ((6 : Int32)) (by decide) ?_
            refine j_icmp_ge C dL_law_270 293 (by decide) (fun c182 => ?_) (fun c182 => ?_)
            · have h := (if_pos c182).symm.trans h
              refine j_iload C dL_law_293 0 rfl ?_
              refine j_bipush C dL_law_295 ((8 : Int32)) (by decide) ?_
              refine j_icmp_ge C dL_law_297 326 (by decide) (fun c183 => ?_) (fun c183 => ?_)
              · have h := (if_pos c183).symm.trans h
                refine j_iload C dL_law_326 0 rfl ?_
                refine j_bipush C dL_law_328 ((10 : Int32)) (by decide) ?_
                refine j_icmp_ge C dL_law_330 404 (by decide) (fun c184 => ?_) (fun c184 => ?_)
                · have h := (if_pos c184).symm.trans h
                  refine j_iload C dL_law_404 0 rfl ?_
                  refine j_bipush C dL_law_406 ((16 : Int32)) (by decide) ?_
                  refine j_icmp_ge C dL_law_408 491 (by decide) (fun c185 => ?_) (fun c185 => ?_)
                  · have h := (if_pos c185).symm.trans h
                    refine j_iload C dL_law_491 0 rfl ?_
                    refine j_bipush C dL_law_493 ((17 : Int32)) (by decide) ?_
                    refine j_icmp_ge C dL_law_495 538 (by decide) (fun c186 => ?_) (fun c186 => ?_)
                    · have h := (if_pos c186).symm.trans h
                      refine j_aload_n C dL_law_538 2 rfl ?_
                      obtain ⟨⟨r187, σ188⟩, h189, h⟩ := ob h
                      try dsimp only at h
                      refine jm_callV CV X (N1 := 0) (N2 := 0) (c_X5_clock n G σ 40 ok40 _ _ h189) dL_law_539 (gVm9 v_250 v_252 v_253 v_170 v_251) rfl hy_X5_clock rfl ok40 rfl (ci := 9) rfl rfl rfl ⟨Nat.le_of_ble_eq_true rfl, Nat.le_of_ble_eq_true rfl⟩ (Nat.le_of_ble_eq_true rfl) (Nat.le_of_ble_eq_true rfl) (Nat.le_of_ble_eq_true rfl) (show kc + 0 ≤ 612008 ∧ ns + 0 ≤ 7258737 by omega) ?_
                      refine j_istore C dL_law_542 (by decide) [(15, .int (r187)), (14, .int (s0)), (0, .ref b), (1, .ref (G.2.2 (40))), (2, .int (l2)), (3, .int (l3)), (4, .int (l4)), (5, .int (l5)), (6, .int (l6)), (7, .int (l7)), (8, .int (l8)), (9, .long (l9)), (11, .int (l11)), (12, .int (l12))] rfl ?_
                      refine j_aload_n C dL_law_544 3 rfl ?_
                      refine j_iconst C dL_law_545 ((1 : Int32)) (by decide) ?_
                      refine j_iload C dL_law_546 9 rfl ?_
                      refine j_bipush C dL_law_548 ((7 : Int32)) (by decide) ?_
                      refine j_irem C dL_law_550 (by decide) ?_
                      refine j_iadd C dL_law_551 ?_
                      obtain ⟨⟨r190, σ191⟩, h192, h⟩ := ob h
                      try dsimp only at h
                      refine jm_callSX CV X (N1 := 2) (N2 := 12) (c_L_pass n G σ188 40 (((1 : Int32) + (l7 - l7 / (7 : Int32) * (7 : Int32)))) ok40 _ _ h192) dL_law_552 (gSm9 v_263 v_265 v_232 v_264) rfl hy_L_pass rfl rfl ⟨Nat.le_of_ble_eq_true rfl, Nat.le_of_ble_eq_true rfl⟩ (Nat.le_of_ble_eq_true rfl) (Nat.le_of_ble_eq_true rfl) (Nat.le_of_ble_eq_true rfl) (show kc + 0 + 2 ≤ 612008 ∧ ns + 0 + 12 ≤ 7258737 by omega) ?_
                      refine j_istore C dL_law_555 (by decide) [(13, .int (r190)), (15, .int (r187)), (14, .int (s0)), (0, .ref b), (1, .ref (G.2.2 (40))), (2, .int (l2)), (3, .int (l3)), (4, .int (l4)), (5, .int (l5)), (6, .int (l6)), (7, .int (l7)), (8, .int (l8)), (9, .long (l9)), (11, .int (l11)), (12, .int (l12))] rfl ?_
                      refine j_iload C dL_law_557 0 rfl ?_
                      refine j_if_lt C dL_law_559 579 (by decide) (fun c193 => ?_) (fun c193 => ?_)
                      · have h := (if_pos c193).symm.trans h
                        refine j_sub [3, 4, 5, 6, 7, 8, 11, 12, 0] [(0, .ref b), (1, .ref (G.2.2 (40))), (2, .int (l2)), (3, .int (l3)), (4, .int (l4)), (5, .int (l5)), (8, .int (l8)), (9, .long (l9)), (13, .int (r190))] rfl ?_
                        exact JP579 B hB K9 hK σ191 l2 l3 l4 l5 l8 l9 r190 (kc + 0 + 2) (ns + 0 + 12) (by omega) (by omega) h
                      · have h := (if_neg c193).symm.trans h
                        refine j_iload C dL_law_562 0 rfl ?_
                        refine j_iload C dL_law_564 1 rfl ?_
                        refine j_iconst C dL_law_566 ((1 : Int32)) (by decide) ?_
                        refine j_iadd C dL_law_567 ?_
                        refine j_iload C dL_law_568 10 rfl ?_
                        refine j_bipush C dL_law_570 ((7 : Int32)) (by decide) ?_
                        refine j_irem C dL_law_572 (by decide) ?_
                        refine j_iadd C dL_law_573 ?_
                        refine j_icmp_eq C dL_law_574 579 (by decide) (fun c205 => ?_) (fun c205 => ?_)
                        · have h := (if_pos c205).symm.trans h
                          refine j_sub [3, 4, 5, 6, 7, 8, 11, 12, 0] [(0, .ref b), (1, .ref (G.2.2 (40))), (2, .int (l2)), (3, .int (l3)), (4, .int (l4)), (5, .int (l5)), (8, .int (l8)), (9, .long (l9)), (13, .int (r190))] rfl ?_
                          exact JP579 B hB K9 hK σ191 l2 l3 l4 l5 l8 l9 r190 (kc + 0 + 2) (ns + 0 + 12) (by omega) (by omega) h
                        · have h := (if_neg c205).symm.trans h
                          refine j_iconst C dL_law_577 ((0 : Int32)) (by decide) ?_
                          cases h
                    · have h := (if_neg c186).symm.trans h
                      refine j_aload_n C dL_law_498 2 rfl ?_
                      obtain ⟨⟨r206, σ207⟩, h208, h⟩ := ob h
                      try dsimp only at h
                      refine jm_callV CV X (N1 := 0) (N2 := 0) (c_X5_waitingCount n G σ 40 ok40 _ _ h208) dL_law_499 (gVm9 v_275 v_277 v_278 v_170 v_276) rfl hy_X5_waitingCount rfl ok40 rfl (ci := 9) rfl rfl rfl ⟨Nat.le_of_ble_eq_true rfl, Nat.le_of_ble_eq_true rfl⟩ (Nat.le_of_ble_eq_true rfl) (Nat.le_of_ble_eq_true rfl) (Nat.le_of_ble_eq_true rfl) (show kc + 0 ≤ 612008 ∧ ns + 0 ≤ 7258737 by omega) ?_
                      refine j_istore C dL_law_502 (by decide) [(15, .int (r206)), (14, .int (s0)), (0, .ref b), (1, .ref (G.2.2 (40))), (2, .int (l2)), (3, .int (l3)), (4, .int (l4)), (5, .int (l5)), (6, .int (l6)), (7, .int (l7)), (8, .int (l8)), (9, .long (l9)), (11, .int (l11)), (12, .int (l12))] rfl ?_
                      refine j_aload_n C dL_law_504 3 rfl ?_
                      refine j_iload C dL_law_505 9 rfl ?_
                      refine j_iconst C dL_law_507 ((1 : Int32)) (by decide) ?_
                      refine j_iload_n C dL_law_508 5 rfl ?_
                      refine j_mmax C dL_law_509 (mT v_287) (mT v_13) (mT v_14) (mT v_15) (by decide) (Nat.le_of_ble_eq_true rfl) (show kc + 0 ≤ 612008 by omega) (show ns + 0 ≤ 7258737 by omega) ?_
                      obtain ⟨g209, h⟩ := sg h
                      refine j_irem C dL_law_512 g209 ?_
                      refine j_iconst C dL_law_513 ((0 : Int32)) (by decide) ?_
                      obtain ⟨⟨r210, σ211⟩, h212, h⟩ := ob h
                      try dsimp only at h
                      refine jm_callSX CV X (N1 := 1) (N2 := 6) (c_L_asked n G σ207 40 ((l7 - l7 / (if (1 : Int32) < l3 then l3 else (1 : Int32)) * (if (1 : Int32) < l3 then l3 else (1 : Int32)))) ((0 : Int32)) ok40 _ _ h212) dL_law_514 (gSm9 v_272 v_274 v_232 v_273) rfl hy_L_asked rfl rfl ⟨Nat.le_of_ble_eq_true rfl, Nat.le_of_ble_eq_true rfl⟩ (Nat.le_of_ble_eq_true rfl) (Nat.le_of_ble_eq_true rfl) (Nat.le_of_ble_eq_true rfl) (show kc + 0 + 1 ≤ 612008 ∧ ns + 0 + 6 ≤ 7258737 by omega) ?_
                      refine j_istore C dL_law_517 (by decide) [(13, .int (r210)), (15, .int (r206)), (14, .int (s0)), (0, .ref b), (1, .ref (G.2.2 (40))), (2, .int (l2)), (3, .int (l3)), (4, .int (l4)), (5, .int (l5)), (6, .int (l6)), (7, .int (l7)), (8, .int (l8)), (9, .long (l9)), (11, .int (l11)), (12, .int (l12))] rfl ?_
                      refine j_iload C dL_law_519 0 rfl ?_
                      refine j_if_lt C dL_law_521 535 (by decide) (fun c213 => ?_) (fun c213 => ?_)
                      · have h := (if_pos c213).symm.trans h
                        refine j_goto C dL_law_535 579 (by decide) ?_
                        refine j_sub [3, 4, 5, 6, 7, 8, 11, 12, 0] [(0, .ref b), (1, .ref (G.2.2 (40))), (2, .int (l2)), (3, .int (l3)), (4, .int (l4)), (5, .int (l5)), (8, .int (l8)), (9, .long (l9)), (13, .int (r210))] rfl ?_
                        exact JP579 B hB K9 hK σ211 l2 l3 l4 l5 l8 l9 r210 (kc + 0 + 1) (ns + 0 + 6) (by omega) (by omega) h
                      · have h := (if_neg c213).symm.trans h
                        refine j_iload C dL_law_524 0 rfl ?_
                        refine j_iload C dL_law_526 1 rfl ?_
                        refine j_iconst C dL_law_528 ((1 : Int32)) (by decide) ?_
                        refine j_isub C dL_law_529 ?_
                        refine j_icmp_eq C dL_law_530 535 (by decide) (fun c214 => ?_) (fun c214 => ?_)
                        · have h := (if_pos c214).symm.trans h
                          refine j_goto C dL_law_535 579 (by decide) ?_
                          refine j_sub [3, 4, 5, 6, 7, 8, 11, 12, 0] [(0, .ref b), (1, .ref (G.2.2 (40))), (2, .int (l2)), (3, .int (l3)), (4, .int (l4)), (5, .int (l5)), (8, .int (l8)), (9, .long (l9)), (13, .int (r210))] rfl ?_
                          exact JP579 B hB K9 hK σ211 l2 l3 l4 l5 l8 l9 r210 (kc + 0 + 1) (ns + 0 + 6) (by omega) (by omega) h
                        · have h := (if_neg c214).symm.trans h
                          refine j_iconst C dL_law_533 ((0 : Int32)) (by decide) ?_
                          cases h
                  · have h := (if_neg c185).symm.trans h
                    refine jv_ldc CV dL_law_411 (i := 7) (by decide +kernel) ?_
                    refine j_iload C dL_law_413 0 rfl ?_
                    refine j_bipush C dL_law_415 ((10 : Int32)) (by decide) ?_
                    refine j_isub C dL_law_417 ?_
                    obtain ⟨g215, h⟩ := sg h
                    refine jl_chr CV X g215 dL_law_418 (gV9 v_288 v_289 v_290 v_59 v_291) ⟨Nat.le_of_ble_eq_true rfl, Nat.le_of_ble_eq_true rfl⟩ (Nat.le_of_ble_eq_true rfl) (show kc + 0 ≤ 612008 ∧ ns + 0 ≤ 7258737 by omega) ?_
                    refine j_istore C dL_law_421 (by decide) [(15, .int ((chF (s0 - (10 : Int32))))), (14, .int (s0)), (0, .ref b), (1, .ref (G.2.2 (40))), (2, .int (l2)), (3, .int (l3)), (4, .int (l4)), (5, .int (l5)), (6, .int (l6)), (7, .int (l7)), (8, .int (l8)), (9, .long (l9)), (11, .int (l11)), (12, .int (l12))] rfl ?_
                    refine j_aload_n C dL_law_423 3 rfl ?_
                    refine j_iload C dL_law_424 0 rfl ?_
                    refine j_iload C dL_law_426 13 rfl ?_
                    refine j_iconst C dL_law_428 ((1 : Int32)) (by decide) ?_
                    refine j_iload C dL_law_429 9 rfl ?_
                    refine j_bipush C dL_law_431 ((7 : Int32)) (by decide) ?_
                    refine j_idiv C dL_law_433 (by decide) ?_
                    refine j_bipush C dL_law_434 ((12 : Int32)) (by decide) ?_
                    refine j_irem C dL_law_436 (by decide) ?_
                    refine j_iadd C dL_law_437 ?_
                    obtain ⟨⟨r217, σ218⟩, h219, h⟩ := ob h
                    try dsimp only at h
                    refine jm_callSX CV X (N1 := 3) (N2 := 18) (c_L_request n G σ 40 ((chF (s0 - (10 : Int32)))) l12 (((1 : Int32) + ((l7 / (7 : Int32)) - (l7 / (7 : Int32)) / (12 : Int32) * (12 : Int32)))) ok40 _ _ h219) dL_law_438 (gSm9 v_269 v_271 v_232 v_270) rfl hy_L_request rfl rfl ⟨Nat.le_of_ble_eq_true rfl, Nat.le_of_ble_eq_true rfl⟩ (Nat.le_of_ble_eq_true rfl) (Nat.le_of_ble_eq_true rfl) (Nat.le_of_ble_eq_true rfl) (show kc + 0 + 3 ≤ 612008 ∧ ns + 0 + 18 ≤ 7258737 by omega) ?_
                    refine j_istore C dL_law_441 (by decide) [(13, .int (r217)), (15, .int ((chF (s0 - (10 : Int32))))), (14, .int (s0)), (0, .ref b), (1, .ref (G.2.2 (40))), (2, .int (l2)), (3, .int (l3)), (4, .int (l4)), (5, .int (l5)), (6, .int (l6)), (7, .int (l7)), (8, .int (l8)), (9, .long (l9)), (11, .int (l11)), (12, .int (l12))] rfl ?_
                    refine j_iload C dL_law_443 0 rfl ?_
                    refine j_if_lt C dL_law_445 488 (by decide) (fun c220 => ?_) (fun c220 => ?_)
                    · have h := (if_pos c220).symm.trans h
                      refine j_goto C dL_law_488 579 (by decide) ?_
                      refine j_sub [3, 4, 5, 6, 7, 8, 11, 12, 0] [(0, .ref b), (1, .ref (G.2.2 (40))), (2, .int (l2)), (3, .int (l3)), (4, .int (l4)), (5, .int (l5)), (8, .int (l8)), (9, .long (l9)), (13, .int (r217))] rfl ?_
                      exact JP579 B hB K9 hK σ218 l2 l3 l4 l5 l8 l9 r217 (kc + 0 + 3) (ns + 0 + 18) (by omega) (by omega) h
                    · have h := (if_neg c220).symm.trans h
                      refine j_iload C dL_law_448 0 rfl ?_
                      refine j_iload_n C dL_law_450 6 rfl ?_
                      refine j_icmp_ne C dL_law_451 483 (by decide) (fun c221 => ?_) (fun c221 => ?_)
                      · have h := (if_neg c221).symm.trans h
                        refine j_iconst C dL_law_483 ((0 : Int32)) (by decide) ?_
                        cases h
                      · have h := (if_pos c221).symm.trans h
                        refine j_aload_n C dL_law_454 4 rfl ?_
                        refine j_aload_n C dL_law_455 4 rfl ?_
                        obtain ⟨⟨r222, σ223⟩, h224, h⟩ := ob h
                        try dsimp only at h
                        refine jm_callV CV X (N1 := 0) (N2 := 0) (c_X5_waitingCount n G σ218 40 ok40 _ _ h224) dL_law_456 (gVm9 v_275 v_277 v_278 v_170 v_276) rfl hy_X5_waitingCount rfl ok40 rfl (ci := 9) rfl rfl rfl ⟨Nat.le_of_ble_eq_true rfl, Nat.le_of_ble_eq_true rfl⟩ (Nat.le_of_ble_eq_true rfl) (Nat.le_of_ble_eq_true rfl) (Nat.le_of_ble_eq_true rfl) (show kc + 0 + 3 + 0 ≤ 612008 ∧ ns + 0 + 18 + 0 ≤ 7258737 by omega) ?_
                        refine j_iconst C dL_law_459 ((1 : Int32)) (by decide) ?_
                        refine j_isub C dL_law_460 ?_
                        refine j_iconst C dL_law_461 ((1 : Int32)) (by decide) ?_
                        obtain ⟨⟨r225, σ226⟩, h227, h⟩ := ob h
                        try dsimp only at h
                        refine jm_callSX CV X (N1 := 1) (N2 := 6) (c_L_asked n G σ223 40 ((r222 - (1 : Int32))) ((1 : Int32)) ok40 _ _ h227) dL_law_462 (gSm9 v_272 v_274 v_232 v_273) rfl hy_L_asked rfl rfl ⟨Nat.le_of_ble_eq_true rfl, Nat.le_of_ble_eq_true rfl⟩ (Nat.le_of_ble_eq_true rfl) (Nat.le_of_ble_eq_true rfl) (Nat.le_of_ble_eq_true rfl) (show kc + 0 + 3 + 0 + 1 ≤ 612008 ∧ ns + 0 + 18 + 0 + 6 ≤ 7258737 by omega) ?_
                        refine j_iload C dL_law_465 0 rfl ?_
                        refine j_icmp_ne C dL_law_467 483 (by decide) (fun c228 => ?_) (fun c228 => ?_)
                        · have h := (if_neg c228).symm.trans h
                          refine j_iconst C dL_law_483 ((0 : Int32)) (by decide) ?_
                          cases h
                        · have h := (if_pos c228).symm.trans h
                          refine j_aload_n C dL_law_470 4 rfl ?_
                          refine j_iload C dL_law_471 0 rfl ?_
                          refine j_iconst C dL_law_473 ((2 : Int32)) (by decide) ?_
                          obtain ⟨⟨r229, σ230⟩, h231, h⟩ := ob h
                          try dsimp only at h
                          refine jm_callSX CV X (N1 := 1) (N2 := 6) (c_L_asked n G σ226 40 r217 ((2 : Int32)) ok40 _ _ h231) dL_law_474 (gSm9 v_272 v_274 v_232 v_273) rfl hy_L_asked rfl rfl ⟨Nat.le_of_ble_eq_true rfl, Nat.le_of_ble_eq_true rfl⟩ (Nat.le_of_ble_eq_true rfl) (Nat.le_of_ble_eq_true rfl) (Nat.le_of_ble_eq_true rfl) (show kc + 0 + 3 + 0 + 1 + 1 ≤ 612008 ∧ ns + 0 + 18 + 0 + 6 + 6 ≤ 7258737 by omega) ?_
                          refine j_sipush C dL_law_477 ((-1001 : Int32)) (by decide) ?_
                          refine j_icmp_ne C dL_law_480 485 (by decide) (fun c232 => ?_) (fun c232 => ?_)
                          · have h := (if_neg c232).symm.trans h
                            refine j_iinc C dL_law_485 6 rfl ((1 : Int32)) (by decide) (by decide) [(3, .int ((l3 + (1 : Int32)))), (13, .int (r217)), (15, .int ((chF (s0 - (10 : Int32))))), (14, .int (s0)), (0, .ref b), (1, .ref (G.2.2 (40))), (2, .int (l2)), (4, .int (l4)), (5, .int (l5)), (6, .int (l6)), (7, .int (l7)), (8, .int (l8)), (9, .long (l9)), (11, .int (l11)), (12, .int (l12))] rfl ?_
                            refine j_goto C dL_law_488 579 (by decide) ?_
                            refine j_sub [4, 5, 6, 0, 7, 8, 11, 12, 1] [(0, .ref b), (1, .ref (G.2.2 (40))), (2, .int (l2)), (3, .int ((l3 + (1 : Int32)))), (4, .int (l4)), (5, .int (l5)), (8, .int (l8)), (9, .long (l9)), (13, .int (r217))] rfl ?_
                            exact JP579 B hB K9 hK σ230 l2 ((l3 + (1 : Int32))) l4 l5 l8 l9 r217 (kc + 0 + 3 + 0 + 1 + 1) (ns + 0 + 18 + 0 + 6 + 6) (by omega) (by omega) h
                          · have h := (if_pos c232).symm.trans h
                            refine j_iconst C dL_law_483 ((0 : Int32)) (by decide) ?_
                            cases h
                · have h := (if_neg c184).symm.trans h
                  refine j_iconst C dL_law_333 ((1 : Int32)) (by decide) ?_
                  refine j_iload C dL_law_334 8 rfl ?_
                  refine j_bipush C dL_law_336 ((7 : Int32)) (by decide) ?_
                  refine j_idiv C dL_law_338 (by decide) ?_
                  refine j_bipush C dL_law_339 ((20 : Int32)) (by decide) ?_
                  refine j_irem C dL_law_341 (by decide) ?_
                  refine j_iadd C dL_law_342 ?_
                  refine j_istore C dL_law_343 (by decide) [(15, .int (((1 : Int32) + ((l7 / (7 : Int32)) - (l7 / (7 : Int32)) / (20 : Int32) * (20 : Int32))))), (14, .int (s0)), (0, .ref b), (1, .ref (G.2.2 (40))), (2, .int (l2)), (3, .int (l3)), (4, .int (l4)), (5, .int (l5)), (6, .int (l6)), (7, .int (l7)), (8, .int (l8)), (9, .long (l9)), (11, .int (l11)), (12, .int (l12))] rfl ?_
                  refine j_aload_n C dL_law_345 3 rfl ?_
                  obtain ⟨⟨r234, σ235⟩, h236, h⟩ := ob h
                  try dsimp only at h
                  refine jm_callV CV X (N1 := 0) (N2 := 0) (c_X5_gasTotal n G σ 40 ok40 _ _ h236) dL_law_346 (gVm9 v_292 v_294 v_295 v_170 v_293) rfl hy_X5_gasTotal rfl ok40 rfl (ci := 9) rfl rfl rfl ⟨Nat.le_of_ble_eq_true rfl, Nat.le_of_ble_eq_true rfl⟩ (Nat.le_of_ble_eq_true rfl) (Nat.le_of_ble_eq_true rfl) (Nat.le_of_ble_eq_true rfl) (show kc + 0 ≤ 612008 ∧ ns + 0 ≤ 7258737 by omega) ?_
                  refine j_istore C dL_law_349 (by decide) [(16, .int (r234)), (15, .int (((1 : Int32) + ((l7 / (7 : Int32)) - (l7 / (7 : Int32)) / (20 : Int32) * (20 : Int32))))), (14, .int (s0)), (0, .ref b), (1, .ref (G.2.2 (40))), (2, .int (l2)), (3, .int (l3)), (4, .int (l4)), (5, .int (l5)), (6, .int (l6)), (7, .int (l7)), (8, .int (l8)), (9, .long (l9)), (11, .int (l11)), (12, .int (l12))] rfl ?_
                  refine j_aload_n C dL_law_351 4 rfl ?_
                  refine j_iload C dL_law_352 14 rfl ?_
                  refine j_iload C dL_law_354 1 rfl ?_
                  obtain ⟨⟨r237, σ238⟩, h239, h⟩ := ob h
                  try dsimp only at h
                  refine jm_callSX CV X (N1 := 3) (N2 := 18) (c_L_blast n G σ235 40 l12 (((1 : Int32) + ((l7 / (7 : Int32)) - (l7 / (7 : Int32)) / (20 : Int32) * (20 : Int32)))) ok40 _ _ h239) dL_law_356 (gSm9 v_266 v_268 v_232 v_267) rfl hy_L_blast rfl rfl ⟨Nat.le_of_ble_eq_true rfl, Nat.le_of_ble_eq_true rfl⟩ (Nat.le_of_ble_eq_true rfl) (Nat.le_of_ble_eq_true rfl) (Nat.le_of_ble_eq_true rfl) (show kc + 0 + 3 ≤ 612008 ∧ ns + 0 + 18 ≤ 7258737 by omega) ?_
                  refine j_istore C dL_law_359 (by decide) [(13, .int (r237)), (16, .int (r234)), (15, .int (((1 : Int32) + ((l7 / (7 : Int32)) - (l7 / (7 : Int32)) / (20 : Int32) * (20 : Int32))))), (14, .int (s0)), (0, .ref b), (1, .ref (G.2.2 (40))), (2, .int (l2)), (3, .int (l3)), (4, .int (l4)), (5, .int (l5)), (6, .int (l6)), (7, .int (l7)), (8, .int (l8)), (9, .long (l9)), (11, .int (l11)), (12, .int (l12))] rfl ?_
                  refine j_iload C dL_law_361 0 rfl ?_
                  refine j_if_lt C dL_law_363 401 (by decide) (fun c240 => ?_) (fun c240 => ?_)
                  · have h := (if_pos c240).symm.trans h
                    refine j_goto C dL_law_401 579 (by decide) ?_
                    refine j_sub [4, 5, 6, 7, 8, 9, 12, 13, 0] [(0, .ref b), (1, .ref (G.2.2 (40))), (2, .int (l2)), (3, .int (l3)), (4, .int (l4)), (5, .int (l5)), (8, .int (l8)), (9, .long (l9)), (13, .int (r237))] rfl ?_
                    exact JP579 B hB K9 hK σ238 l2 l3 l4 l5 l8 l9 r237 (kc + 0 + 3) (ns + 0 + 18) (by omega) (by omega) h
                  · have h := (if_neg c240).symm.trans h
                    refine j_iload_n C dL_law_366 6 rfl ?_
                    refine j_iconst C dL_law_367 ((3 : Int32)) (by decide) ?_
                    refine j_iload C dL_law_368 2 rfl ?_
                    refine j_imul C dL_law_370 ?_
                    refine j_iadd C dL_law_371 ?_
                    refine j_istore_n C dL_law_372 (by decide) [(2, .int ((l2 + ((3 : Int32) * ((1 : Int32) + ((l7 / (7 : Int32)) - (l7 / (7 : Int32)) / (20 : Int32) * (20 : Int32))))))), (13, .int (r237)), (16, .int (r234)), (15, .int (((1 : Int32) + ((l7 / (7 : Int32)) - (l7 / (7 : Int32)) / (20 : Int32) * (20 : Int32))))), (14, .int (s0)), (0, .ref b), (1, .ref (G.2.2 (40))), (3, .int (l3)), (4, .int (l4)), (5, .int (l5)), (6, .int (l6)), (7, .int (l7)), (8, .int (l8)), (9, .long (l9)), (11, .int (l11)), (12, .int (l12))] rfl ?_
                    refine j_aload_n C dL_law_373 6 rfl ?_
                    obtain ⟨⟨r241, σ242⟩, h243, h⟩ := ob h
                    try dsimp only at h
                    refine jm_callV CV X (N1 := 0) (N2 := 0) (c_X5_gasTotal n G σ238 40 ok40 _ _ h243) dL_law_374 (gVm9 v_292 v_294 v_295 v_170 v_293) rfl hy_X5_gasTotal rfl ok40 rfl (ci := 9) rfl rfl rfl ⟨Nat.le_of_ble_eq_true rfl, Nat.le_of_ble_eq_true rfl⟩ (Nat.le_of_ble_eq_true rfl) (Nat.le_of_ble_eq_true rfl) (Nat.le_of_ble_eq_true rfl) (show kc + 0 + 3 + 0 ≤ 612008 ∧ ns + 0 + 18 + 0 ≤ 7258737 by omega) ?_
                    refine j_iload C dL_law_377 2 rfl ?_
                    refine j_iconst C dL_law_379 ((5 : Int32)) (by decide) ?_
                    refine j_iload C dL_law_380 3 rfl ?_
                    refine j_imul C dL_law_382 ?_
                    refine j_iadd C dL_law_383 ?_
                    refine j_icmp_ne C dL_law_384 399 (by decide) (fun c244 => ?_) (fun c244 => ?_)
                    · have h := (if_neg c244).symm.trans h
                      refine j_iconst C dL_law_399 ((0 : Int32)) (by decide) ?_
                      cases h
                    · have h := (if_pos c244).symm.trans h
                      refine j_aload_n C dL_law_387 6 rfl ?_
                      refine j_iload C dL_law_388 15 rfl ?_
                      refine j_bipush C dL_law_390 ((9 : Int32)) (by decide) ?_
                      obtain ⟨⟨r245, σ246⟩, h247, h⟩ := ob h
                      try dsimp only at h
                      refine jm_callSX CV X (N1 := 2) (N2 := 12) (c_L_of n G σ242 40 l12 ((9 : Int32)) ok40 _ _ h247) dL_law_392 (gSm9 v_283 v_285 v_232 v_284) rfl hy_L_of rfl rfl ⟨Nat.le_of_ble_eq_true rfl, Nat.le_of_ble_eq_true rfl⟩ (Nat.le_of_ble_eq_true rfl) (Nat.le_of_ble_eq_true rfl) (Nat.le_of_ble_eq_true rfl) (show kc + 0 + 3 + 0 + 2 ≤ 612008 ∧ ns + 0 + 18 + 0 + 12 ≤ 7258737 by omega) ?_
                      refine j_iconst C dL_law_395 ((1 : Int32)) (by decide) ?_
                      refine j_icmp_eq C dL_law_396 401 (by decide) (fun c248 => ?_) (fun c248 => ?_)
                      · have h := (if_pos c248).symm.trans h
                        refine j_goto C dL_law_401 579 (by decide) ?_
                        refine j_sub [5, 6, 0, 7, 8, 9, 12, 13, 1] [(0, .ref b), (1, .ref (G.2.2 (40))), (2, .int ((l2 + ((3 : Int32) * ((1 : Int32) + ((l7 / (7 : Int32)) - (l7 / (7 : Int32)) / (20 : Int32) * (20 : Int32))))))), (3, .int (l3)), (4, .int (l4)), (5, .int (l5)), (8, .int (l8)), (9, .long (l9)), (13, .int (r237))] rfl ?_
                        exact JP579 B hB K9 hK σ246 ((l2 + ((3 : Int32) * ((1 : Int32) + ((l7 / (7 : Int32)) - (l7 / (7 : Int32)) / (20 : Int32) * (20 : Int32)))))) l3 l4 l5 l8 l9 r237 (kc + 0 + 3 + 0 + 2) (ns + 0 + 18 + 0 + 12) (by omega) (by omega) h
                      · have h := (if_neg c248).symm.trans h
                        refine j_iconst C dL_law_399 ((0 : Int32)) (by decide) ?_
                        cases h
              · have h := (if_neg c183).symm.trans h
                refine j_aload_n C dL_law_300 2 rfl ?_
                refine j_iload C dL_law_301 12 rfl ?_
                refine j_iload C dL_law_303 8 rfl ?_
                refine j_bipush C dL_law_305 ((7 : Int32)) (by decide) ?_
                refine j_idiv C dL_law_307 (by decide) ?_
                refine j_iconst C dL_law_308 ((3 : Int32)) (by decide) ?_
                refine j_irem C dL_law_309 (by decide) ?_
                refine j_if_le C dL_law_310 317 (by decide) (fun c250 => ?_) (fun c250 => ?_)
                · have h := (if_pos c250).symm.trans h
                  refine j_iconst C dL_law_317 ((0 : Int32)) (by decide) ?_
                  refine j_sub [1, 2, 3, 4, 5, 6, 9, 10] [(0, .ref b), (1, .ref (G.2.2 (40))), (2, .int (l2)), (3, .int (l3)), (4, .int (l4)), (5, .int (l5)), (8, .int (l8)), (9, .long (l9))] rfl ?_
                  exact JP318 B hB K9 hK σ l2 l3 l4 l5 l8 l9 ((0 : Int32)) l12 (kc) (ns) (by omega) (by omega) h
                · have h := (if_neg c250).symm.trans h
                  refine j_iconst C dL_law_313 ((1 : Int32)) (by decide) ?_
                  refine j_goto C dL_law_314 318 (by decide) ?_
                  refine j_sub [1, 2, 3, 4, 5, 6, 9, 10] [(0, .ref b), (1, .ref (G.2.2 (40))), (2, .int (l2)), (3, .int (l3)), (4, .int (l4)), (5, .int (l5)), (8, .int (l8)), (9, .long (l9))] rfl ?_
                  exact JP318 B hB K9 hK σ l2 l3 l4 l5 l8 l9 ((1 : Int32)) l12 (kc) (ns) (by omega) (by omega) h
            · have h := (if_neg c182).symm.trans h
              refine j_aload_n C dL_law_273 2 rfl ?_
              refine j_bipush C dL_law_274 ((115 : Int32)) (by decide) ?_
              refine j_bipush C dL_law_276 ((10 : Int32)) (by decide) ?_
              refine j_iload C dL_law_278 8 rfl ?_
              refine j_sipush C dL_law_280 ((300 : Int32)) (by decide) ?_
              refine j_irem C dL_law_283 (by decide) ?_
              refine j_iadd C dL_law_284 ?_
              obtain ⟨⟨r254, σ255⟩, h256, h⟩ := ob h
              try dsimp only at h
              refine jm_callSX CV X (N1 := 1) (N2 := 6) (c_L_sets n G σ 40 ((115 : Int32)) (((10 : Int32) + (l7 - l7 / (300 : Int32) * (300 : Int32)))) ok40 _ _ h256) dL_law_285 (gSm9 v_254 v_256 v_232 v_255) rfl hy_L_sets rfl rfl ⟨Nat.le_of_ble_eq_true rfl, Nat.le_of_ble_eq_true rfl⟩ (Nat.le_of_ble_eq_true rfl) (Nat.le_of_ble_eq_true rfl) (Nat.le_of_ble_eq_true rfl) (show kc + 1 ≤ 612008 ∧ ns + 6 ≤ 7258737 by omega) ?_
              refine j_istore C dL_law_288 (by decide) [(13, .int (r254)), (14, .int (s0)), (0, .ref b), (1, .ref (G.2.2 (40))), (2, .int (l2)), (3, .int (l3)), (4, .int (l4)), (5, .int (l5)), (6, .int (l6)), (7, .int (l7)), (8, .int (l8)), (9, .long (l9)), (11, .int (l11)), (12, .int (l12))] rfl ?_
              refine j_goto C dL_law_290 579 (by decide) ?_
              refine j_sub [2, 3, 4, 5, 6, 7, 10, 11, 0] [(0, .ref b), (1, .ref (G.2.2 (40))), (2, .int (l2)), (3, .int (l3)), (4, .int (l4)), (5, .int (l5)), (8, .int (l8)), (9, .long (l9)), (13, .int (r254))] rfl ?_
              exact JP579 B hB K9 hK σ255 l2 l3 l4 l5 l8 l9 r254 (kc + 1) (ns + 6) (by omega) (by omega) h
          · have h := (if_neg c181).symm.trans h
            refine j_aload_n C dL_law_248 2 rfl ?_
            refine j_bipush C dL_law_249 ((108 : Int32)) (by decide) ?_
            refine j_iconst C dL_law_251 ((1 : Int32)) (by decide) ?_
            refine j_iload C dL_law_252 8 rfl ?_
            refine j_bipush C dL_law_254 ((100 : Int32)) (by decide) ?_
            refine j_irem C dL_law_256 (by decide) ?_
            refine j_iadd C dL_law_257 ?_
            obtain ⟨⟨r257, σ258⟩, h259, h⟩ := ob h
            try dsimp only at h
            refine jm_callSX CV X (N1 := 1) (N2 := 6) (c_L_sets n G σ 40 ((108 : Int32)) (((1 : Int32) + (l7 - l7 / (100 : Int32) * (100 : Int32)))) ok40 _ _ h259) dL_law_258 (gSm9 v_254 v_256 v_232 v_255) rfl hy_L_sets rfl rfl ⟨Nat.le_of_ble_eq_true rfl, Nat.le_of_ble_eq_true rfl⟩ (Nat.le_of_ble_eq_true rfl) (Nat.le_of_ble_eq_true rfl) (Nat.le_of_ble_eq_true rfl) (show kc + 1 ≤ 612008 ∧ ns + 6 ≤ 7258737 by omega) ?_
            refine j_istore C dL_law_261 (by decide) [(13, .int (r257)), (14, .int (s0)), (0, .ref b), (1, .ref (G.2.2 (40))), (2, .int (l2)), (3, .int (l3)), (4, .int (l4)), (5, .int (l5)), (6, .int (l6)), (7, .int (l7)), (8, .int (l8)), (9, .long (l9)), (11, .int (l11)), (12, .int (l12))] rfl ?_
            refine j_goto C dL_law_263 579 (by decide) ?_
            refine j_sub [2, 3, 4, 5, 6, 7, 10, 11, 0] [(0, .ref b), (1, .ref (G.2.2 (40))), (2, .int (l2)), (3, .int (l3)), (4, .int (l4)), (5, .int (l5)), (8, .int (l8)), (9, .long (l9)), (13, .int (r257))] rfl ?_
            exact JP579 B hB K9 hK σ258 l2 l3 l4 l5 l8 l9 r257 (kc + 1) (ns + 6) (by omega) (by omega) h
        · have h := (if_neg c180).symm.trans h
          refine j_aload_n C dL_law_225 2 rfl ?_
          refine j_bipush C dL_law_226 ((102 : Int32)) (by decide) ?_
          refine j_iload C dL_law_228 8 rfl ?_
          refine j_sipush C dL_law_230 ((400 : Int32)) (by decide) ?_
          refine j_irem C dL_law_233 (by decide) ?_
          obtain ⟨⟨r260, σ261⟩, h262, h⟩ := ob h
          try dsimp only at h
          refine jm_callSX CV X (N1 := 1) (N2 := 6) (c_L_sets n G σ 40 ((102 : Int32)) ((l7 - l7 / (400 : Int32) * (400 : Int32))) ok40 _ _ h262) dL_law_234 (gSm9 v_254 v_256 v_232 v_255) rfl hy_L_sets rfl rfl ⟨Nat.le_of_ble_eq_true rfl, Nat.le_of_ble_eq_true rfl⟩ (Nat.le_of_ble_eq_true rfl) (Nat.le_of_ble_eq_true rfl) (Nat.le_of_ble_eq_true rfl) (show kc + 1 ≤ 612008 ∧ ns + 6 ≤ 7258737 by omega) ?_
          refine j_istore C dL_law_237 (by decide) [(13, .int (r260)), (14, .int (s0)), (0, .ref b), (1, .ref (G.2.2 (40))), (2, .int (l2)), (3, .int (l3)), (4, .int (l4)), (5, .int (l5)), (6, .int (l6)), (7, .int (l7)), (8, .int (l8)), (9, .long (l9)), (11, .int (l11)), (12, .int (l12))] rfl ?_
          refine j_goto C dL_law_239 579 (by decide) ?_
          refine j_sub [2, 3, 4, 5, 6, 7, 10, 11, 0] [(0, .ref b), (1, .ref (G.2.2 (40))), (2, .int (l2)), (3, .int (l3)), (4, .int (l4)), (5, .int (l5)), (8, .int (l8)), (9, .long (l9)), (13, .int (r260))] rfl ?_
          exact JP579 B hB K9 hK σ261 l2 l3 l4 l5 l8 l9 r260 (kc + 1) (ns + 6) (by omega) (by omega) h
      · have h := (if_neg c179).symm.trans h
        refine j_aload_n C dL_law_203 2 rfl ?_
        refine j_iconst C dL_law_204 ((1 : Int32)) (by decide) ?_
        refine j_iload C dL_law_205 8 rfl ?_
        refine j_bipush C dL_law_207 ((40 : Int32)) (by decide) ?_
        refine j_irem C dL_law_209 (by decide) ?_
        refine j_iadd C dL_law_210 ?_
        obtain ⟨⟨r263, σ264⟩, h265, h⟩ := ob h
        try dsimp only at h
        refine jm_callSX CV X (N1 := 2) (N2 := 12) (c_L_hire n G σ 40 (((1 : Int32) + (l7 - l7 / (40 : Int32) * (40 : Int32)))) ok40 _ _ h265) dL_law_211 (gSm9 v_260 v_262 v_232 v_261) rfl hy_L_hire rfl rfl ⟨Nat.le_of_ble_eq_true rfl, Nat.le_of_ble_eq_true rfl⟩ (Nat.le_of_ble_eq_true rfl) (Nat.le_of_ble_eq_true rfl) (Nat.le_of_ble_eq_true rfl) (show kc + 2 ≤ 612008 ∧ ns + 12 ≤ 7258737 by omega) ?_
        refine j_istore C dL_law_214 (by decide) [(13, .int (r263)), (14, .int (s0)), (0, .ref b), (1, .ref (G.2.2 (40))), (2, .int (l2)), (3, .int (l3)), (4, .int (l4)), (5, .int (l5)), (6, .int (l6)), (7, .int (l7)), (8, .int (l8)), (9, .long (l9)), (11, .int (l11)), (12, .int (l12))] rfl ?_
        refine j_goto C dL_law_216 579 (by decide) ?_
        refine j_sub [2, 3, 4, 5, 6, 7, 10, 11, 0] [(0, .ref b), (1, .ref (G.2.2 (40))), (2, .int (l2)), (3, .int (l3)), (4, .int (l4)), (5, .int (l5)), (8, .int (l8)), (9, .long (l9)), (13, .int (r263))] rfl ?_
        exact JP579 B hB K9 hK σ264 l2 l3 l4 l5 l8 l9 r263 (kc + 2) (ns + 12) (by omega) (by omega) h
    · have h := (if_neg c178).symm.trans h
      refine j_aload_n C dL_law_140 2 rfl ?_
      refine j_aload_n C dL_law_141 2 rfl ?_
      refine j_iload C dL_law_142 11 rfl ?_
      refine j_iconst C dL_law_144 ((0 : Int32)) (by decide) ?_
      obtain ⟨⟨r266, σ267⟩, h268, h⟩ := ob h
      try dsimp only at h
      refine jm_callSX CV X (N1 := 2) (N2 := 12) (c_L_of n G σ 40 l11 ((0 : Int32)) ok40 _ _ h268) dL_law_145 (gSm9 v_283 v_285 v_232 v_284) rfl hy_L_of rfl rfl ⟨Nat.le_of_ble_eq_true rfl, Nat.le_of_ble_eq_true rfl⟩ (Nat.le_of_ble_eq_true rfl) (Nat.le_of_ble_eq_true rfl) (Nat.le_of_ble_eq_true rfl) (show kc + 2 ≤ 612008 ∧ ns + 12 ≤ 7258737 by omega) ?_
      refine j_bipush C dL_law_148 ((10 : Int32)) (by decide) ?_
      refine j_iadd C dL_law_150 ?_
      refine j_iload C dL_law_151 8 rfl ?_
      refine j_sipush C dL_law_153 ((200 : Int32)) (by decide) ?_
      refine j_irem C dL_law_156 (by decide) ?_
      refine j_iadd C dL_law_157 ?_
      refine j_bipush C dL_law_158 ((10 : Int32)) (by decide) ?_
      refine j_iload C dL_law_160 8 rfl ?_
      refine j_sipush C dL_law_162 ((200 : Int32)) (by decide) ?_
      refine j_idiv C dL_law_165 (by decide) ?_
      refine j_sipush C dL_law_166 ((300 : Int32)) (by decide) ?_
      refine j_irem C dL_law_169 (by decide) ?_
      refine j_iadd C dL_law_170 ?_
      refine j_iconst C dL_law_171 ((1 : Int32)) (by decide) ?_
      refine j_iload C dL_law_172 8 rfl ?_
      refine j_ldc C dL_law_174 (mT v_296) ?_
      refine j_idiv C dL_law_176 (by decide) ?_
      refine j_bipush C dL_law_177 ((20 : Int32)) (by decide) ?_
      refine j_irem C dL_law_179 (by decide) ?_
      refine j_iadd C dL_law_180 ?_
      refine j_iload C dL_law_181 8 rfl ?_
      refine j_ldc C dL_law_183 (mT v_297) ?_
      refine j_idiv C dL_law_185 (by decide) ?_
      refine j_bipush C dL_law_186 ((8 : Int32)) (by decide) ?_
      refine j_irem C dL_law_188 (by decide) ?_
      obtain ⟨⟨r272, σ273⟩, h274, h⟩ := ob h
      try dsimp only at h
      refine jm_callSX CV X (N1 := 5) (N2 := 30) (c_L_level n G σ267 40 (((r266 + (10 : Int32)) + (l7 - l7 / (200 : Int32) * (200 : Int32)))) (((10 : Int32) + ((l7 / (200 : Int32)) - (l7 / (200 : Int32)) / (300 : Int32) * (300 : Int32)))) (((1 : Int32) + ((l7 / (60000 : Int32)) - (l7 / (60000 : Int32)) / (20 : Int32) * (20 : Int32)))) (((l7 / (1200000 : Int32)) - (l7 / (1200000 : Int32)) / (8 : Int32) * (8 : Int32))) ok40 _ _ h274) dL_law_189 (gSm9 v_247 v_249 v_232 v_248) rfl hy_L_level rfl rfl ⟨Nat.le_of_ble_eq_true rfl, Nat.le_of_ble_eq_true rfl⟩ (Nat.le_of_ble_eq_true rfl) (Nat.le_of_ble_eq_true rfl) (Nat.le_of_ble_eq_true rfl) (show kc + 2 + 5 ≤ 612008 ∧ ns + 12 + 30 ≤ 7258737 by omega) ?_
      refine j_istore C dL_law_192 (by decide) [(13, .int (r272)), (14, .int (s0)), (0, .ref b), (1, .ref (G.2.2 (40))), (2, .int (l2)), (3, .int (l3)), (4, .int (l4)), (5, .int (l5)), (6, .int (l6)), (7, .int (l7)), (8, .int (l8)), (9, .long (l9)), (11, .int (l11)), (12, .int (l12))] rfl ?_
      refine j_goto C dL_law_194 579 (by decide) ?_
      refine j_sub [2, 3, 4, 5, 6, 7, 10, 11, 0] [(0, .ref b), (1, .ref (G.2.2 (40))), (2, .int (l2)), (3, .int (l3)), (4, .int (l4)), (5, .int (l5)), (8, .int (l8)), (9, .long (l9)), (13, .int (r272))] rfl ?_
      exact JP579 B hB K9 hK σ273 l2 l3 l4 l5 l8 l9 r272 (kc + 2 + 5) (ns + 12 + 30) (by omega) (by omega) h
  have JP83 : ∀ (B : Nat) (hB : B ≤ 612008) (K9 : Mem → Int32 → Int32 → Int32 → Int32 → Option (Int64 × Mem)) (hK : ∀ (σ : Mem) (l2 : Int32) (l3 : Int32) (l4 : Int32) (l5 : Int32) (kc : Nat) (ns : Nat), kc ≤ B → ns ≤ 6 * B → K9 σ l2 l3 l4 l5 = some (r, σ') → J x [(0, .ref b), (1, .ref (G.2.2 (40))), (2, .int (l2)), (3, .int (l3)), (4, .int (l4)), (5, .int (l5))] [] (wsF G σ ++ T) 27 kc ns) (σ : Mem) (l2 : Int32) (l3 : Int32) (l4 : Int32) (l5 : Int32) (l6 : Int32) (l7 : Int32) (l8 : Int32) (s0 : Int64) (kc : Nat) (ns : Nat), kc + 390 ≤ B → ns + 2340 ≤ 6 * B → lp_L_law_83 n xs L K9 σ l2 l3 l4 l5 l6 l7 l8 s0 = some (r, σ') → J x [(0, .ref b), (1, .ref (G.2.2 (40))), (2, .int (l2)), (3, .int (l3)), (4, .int (l4)), (5, .int (l5)), (6, .int (l6)), (7, .int (l7)), (8, .int (l8))] [.long (s0)] (wsF G σ ++ T) 83 kc ns := by
    intro B hB K9 hK σ l2 l3 l4 l5 l6 l7 l8 s0 kc ns hk hn h
    unfold lp_L_law_83 at h
    refine j_lstore C dL_law_83 (by decide) [(9, .long (s0)), (0, .ref b), (1, .ref (G.2.2 (40))), (2, .int (l2)), (3, .int (l3)), (4, .int (l4)), (5, .int (l5)), (6, .int (l6)), (7, .int (l7)), (8, .int (l8))] rfl ?_
    refine j_aload_n C dL_law_85 2 rfl ?_
    obtain ⟨⟨r172, σ173⟩, h174, h⟩ := ob h
    try dsimp only at h
    refine jm_callV CV X (N1 := 0) (N2 := 0) (c_X5_levelCount n G σ 40 ok40 _ _ h174) dL_law_86 (gVm9 v_243 v_245 v_246 v_170 v_244) rfl hy_X5_levelCount rfl ok40 rfl (ci := 9) rfl rfl rfl ⟨Nat.le_of_ble_eq_true rfl, Nat.le_of_ble_eq_true rfl⟩ (Nat.le_of_ble_eq_true rfl) (Nat.le_of_ble_eq_true rfl) (Nat.le_of_ble_eq_true rfl) (show kc + 0 ≤ 612008 ∧ ns + 0 ≤ 7258737 by omega) ?_
    refine j_istore C dL_law_89 (by decide) [(11, .int (r172)), (9, .long (s0)), (0, .ref b), (1, .ref (G.2.2 (40))), (2, .int (l2)), (3, .int (l3)), (4, .int (l4)), (5, .int (l5)), (6, .int (l6)), (7, .int (l7)), (8, .int (l8))] rfl ?_
    refine j_iconst C dL_law_91 ((1 : Int32)) (by decide) ?_
    refine j_iload C dL_law_92 9 rfl ?_
    refine j_iconst C dL_law_94 ((1 : Int32)) (by decide) ?_
    refine j_iload C dL_law_95 0 rfl ?_
    refine j_mmax C dL_law_97 (mT v_287) (mT v_13) (mT v_14) (mT v_15) (by decide) (Nat.le_of_ble_eq_true rfl) (show kc + 0 ≤ 612008 by omega) (show ns + 0 ≤ 7258737 by omega) ?_
    obtain ⟨g175, h⟩ := sg h
    refine j_irem C dL_law_100 g175 ?_
    refine j_iadd C dL_law_101 ?_
    refine j_istore C dL_law_102 (by decide) [(12, .int (((1 : Int32) + (l7 - l7 / (if (1 : Int32) < r172 then r172 else (1 : Int32)) * (if (1 : Int32) < r172 then r172 else (1 : Int32)))))), (11, .int (r172)), (9, .long (s0)), (0, .ref b), (1, .ref (G.2.2 (40))), (2, .int (l2)), (3, .int (l3)), (4, .int (l4)), (5, .int (l5)), (6, .int (l6)), (7, .int (l7)), (8, .int (l8))] rfl ?_
    refine j_iconst C dL_law_104 ((0 : Int32)) (by decide) ?_
    refine j_istore C dL_law_105 (by decide) [(13, .int ((0 : Int32))), (12, .int (((1 : Int32) + (l7 - l7 / (if (1 : Int32) < r172 then r172 else (1 : Int32)) * (if (1 : Int32) < r172 then r172 else (1 : Int32)))))), (11, .int (r172)), (9, .long (s0)), (0, .ref b), (1, .ref (G.2.2 (40))), (2, .int (l2)), (3, .int (l3)), (4, .int (l4)), (5, .int (l5)), (6, .int (l6)), (7, .int (l7)), (8, .int (l8))] rfl ?_
    refine j_iload C dL_law_107 9 rfl ?_
    refine j_iconst C dL_law_109 ((3 : Int32)) (by decide) ?_
    refine j_icmp_ge C dL_law_110 117 (by decide) (fun c176 => ?_) (fun c176 => ?_)
    · have h := (if_pos c176).symm.trans h
      refine j_iload C dL_law_117 9 rfl ?_
      refine j_iconst C dL_law_119 ((4 : Int32)) (by decide) ?_
      refine j_icmp_ge C dL_law_120 127 (by decide) (fun c177 => ?_) (fun c177 => ?_)
      · have h := (if_pos c177).symm.trans h
        refine j_iload C dL_law_127 10 rfl ?_
        refine j_bipush C dL_law_129 ((24 : Int32)) (by decide) ?_
        refine j_irem C dL_law_131 (by decide) ?_
        refine j_sub [4, 5, 6, 7, 8, 9, 10, 11, 12, 3, 2, 1] [(0, .ref b), (1, .ref (G.2.2 (40))), (2, .int (l2)), (3, .int (l3)), (4, .int (l4)), (5, .int (l5)), (6, .int (l6)), (7, .int (l7)), (8, .int (l8)), (9, .long (s0)), (11, .int (r172)), (12, .int (((1 : Int32) + (l7 - l7 / (if (1 : Int32) < r172 then r172 else (1 : Int32)) * (if (1 : Int32) < r172 then r172 else (1 : Int32))))))] rfl ?_
        exact JP132 B hB K9 hK σ173 l2 l3 l4 l5 l6 l7 l8 s0 r172 (((1 : Int32) + (l7 - l7 / (if (1 : Int32) < r172 then r172 else (1 : Int32)) * (if (1 : Int32) < r172 then r172 else (1 : Int32))))) ((l6 - l6 / (24 : Int32) * (24 : Int32))) (kc + 0) (ns + 0) (by omega) (by omega) h
      · have h := (if_neg c177).symm.trans h
        refine j_iconst C dL_law_123 ((1 : Int32)) (by decide) ?_
        refine j_goto C dL_law_124 132 (by decide) ?_
        refine j_sub [4, 5, 6, 7, 8, 9, 10, 11, 12, 3, 2, 1] [(0, .ref b), (1, .ref (G.2.2 (40))), (2, .int (l2)), (3, .int (l3)), (4, .int (l4)), (5, .int (l5)), (6, .int (l6)), (7, .int (l7)), (8, .int (l8)), (9, .long (s0)), (11, .int (r172)), (12, .int (((1 : Int32) + (l7 - l7 / (if (1 : Int32) < r172 then r172 else (1 : Int32)) * (if (1 : Int32) < r172 then r172 else (1 : Int32))))))] rfl ?_
        exact JP132 B hB K9 hK σ173 l2 l3 l4 l5 l6 l7 l8 s0 r172 (((1 : Int32) + (l7 - l7 / (if (1 : Int32) < r172 then r172 else (1 : Int32)) * (if (1 : Int32) < r172 then r172 else (1 : Int32))))) ((1 : Int32)) (kc + 0) (ns + 0) (by omega) (by omega) h
    · have h := (if_neg c176).symm.trans h
      refine j_iconst C dL_law_113 ((0 : Int32)) (by decide) ?_
      refine j_goto C dL_law_114 132 (by decide) ?_
      refine j_sub [4, 5, 6, 7, 8, 9, 10, 11, 12, 3, 2, 1] [(0, .ref b), (1, .ref (G.2.2 (40))), (2, .int (l2)), (3, .int (l3)), (4, .int (l4)), (5, .int (l5)), (6, .int (l6)), (7, .int (l7)), (8, .int (l8)), (9, .long (s0)), (11, .int (r172)), (12, .int (((1 : Int32) + (l7 - l7 / (if (1 : Int32) < r172 then r172 else (1 : Int32)) * (if (1 : Int32) < r172 then r172 else (1 : Int32))))))] rfl ?_
      exact JP132 B hB K9 hK σ173 l2 l3 l4 l5 l6 l7 l8 s0 r172 (((1 : Int32) + (l7 - l7 / (if (1 : Int32) < r172 then r172 else (1 : Int32)) * (if (1 : Int32) < r172 then r172 else (1 : Int32))))) ((0 : Int32)) (kc + 0) (ns + 0) (by omega) (by omega) h
  have LP27 : ∀ (k : Nat) (σ : Mem) (l2 : Int32) (l3 : Int32) (l4 : Int32) (l5 : Int32) (kc : Nat) (ns : Nat), kc + 523 * k + 2527 ≤ 612008 → ns + 3138 * k + 15162 ≤ 3672048 → lp_L_law_27 n xs L k σ l2 l3 l4 l5 = some (r, σ') → J x [(0, .ref b), (1, .ref (G.2.2 (40))), (2, .int (l2)), (3, .int (l3)), (4, .int (l4)), (5, .int (l5))] [] (wsF G σ ++ T) 27 kc ns := by
    intro k
    induction k with
    | zero => intro σ l2 l3 l4 l5 kc ns hk hn h; cases h
    | succ k ih =>
    intro σ l2 l3 l4 l5 kc ns hk hn h
    rw [lp_L_law_27_s] at h
    refine j_iload C dL_law_27 5 rfl ?_
    refine j_iload C dL_law_29 4 rfl ?_
    refine j_icmp_ge C dL_law_31 628 (by decide) (fun c5 => ?_) (fun c5 => ?_)
    · have h := (if_pos c5).symm.trans h
      refine j_sub [1, 2, 3] [(1, .ref (G.2.2 (40))), (2, .int (l2)), (3, .int (l3))] rfl ?_
      exact JP628 σ l2 l3 (kc) (ns) (by omega) (by omega) h
    · have h := (if_neg c5).symm.trans h
      refine j_aload_n C dL_law_34 0 rfl ?_
      refine j_iconst C dL_law_35 ((1 : Int32)) (by decide) ?_
      refine j_iload C dL_law_36 5 rfl ?_
      refine j_iadd C dL_law_38 ?_
      obtain ⟨g165, h⟩ := sg h
      refine jl_at S9 X dL_law_39 (gSc9 v_230 v_231 v_232 v_233) g165 ⟨Nat.le_of_ble_eq_true rfl, Nat.le_of_ble_eq_true rfl⟩ (Nat.le_of_ble_eq_true rfl) (show kc ≤ 612008 ∧ ns ≤ 7258737 by omega) ?_
      refine j_ldc C dL_law_42 (mT v_286) ?_
      obtain ⟨⟨r166, σ167⟩, h168, h⟩ := ob h
      try dsimp only at h
      refine jm_callS CV X (N1 := 0) (N2 := 0) (c_L_some n G σ ((atv xs L ((1 : Int32) + l5))) ((100000000 : Int32))  _ _ h168) dL_law_44 (gSc9 v_234 v_236 v_232 v_235) rfl hy_L_some rfl rfl ⟨Nat.le_of_ble_eq_true rfl, Nat.le_of_ble_eq_true rfl⟩ (Nat.le_of_ble_eq_true rfl) (Nat.le_of_ble_eq_true rfl) (Nat.le_of_ble_eq_true rfl) (show kc + 0 ≤ 612008 ∧ ns + 0 ≤ 7258737 by omega) ?_
      refine j_istore C dL_law_47 (by decide) [(6, .int (r166)), (0, .ref b), (1, .ref (G.2.2 (40))), (2, .int (l2)), (3, .int (l3)), (4, .int (l4)), (5, .int (l5))] rfl ?_
      refine j_iload C dL_law_49 0 rfl ?_
      refine j_bipush C dL_law_51 ((24 : Int32)) (by decide) ?_
      refine j_idiv C dL_law_53 (by decide) ?_
      refine j_istore C dL_law_54 (by decide) [(7, .int ((r166 / (24 : Int32)))), (6, .int (r166)), (0, .ref b), (1, .ref (G.2.2 (40))), (2, .int (l2)), (3, .int (l3)), (4, .int (l4)), (5, .int (l5))] rfl ?_
      refine j_iload C dL_law_56 7 rfl ?_
      refine j_iconst C dL_law_58 ((2 : Int32)) (by decide) ?_
      refine j_irem C dL_law_59 (by decide) ?_
      refine j_if_ne C dL_law_60 67 (by decide) (fun c170 => ?_) (fun c170 => ?_)
      · have h := (if_neg c170).symm.trans h
        refine j_iconst C dL_law_67 ((0 : Int32)) (by decide) ?_
        refine j_istore C dL_law_68 (by decide) [(8, .int ((0 : Int32))), (7, .int ((r166 / (24 : Int32)))), (6, .int (r166)), (0, .ref b), (1, .ref (G.2.2 (40))), (2, .int (l2)), (3, .int (l3)), (4, .int (l4)), (5, .int (l5))] rfl ?_
        refine j_iload C dL_law_70 0 rfl ?_
        refine j_if_eq C dL_law_72 82 (by decide) (fun c171 => ?_) (fun c171 => absurd c171 (by decide))
        refine j_lconst C dL_law_82 0 (by decide) ?_
        refine j_sub [3, 4, 5, 6, 7, 8, 2, 1, 0] [(0, .ref b), (1, .ref (G.2.2 (40))), (2, .int (l2)), (3, .int (l3)), (4, .int (l4)), (5, .int (l5)), (6, .int (r166)), (7, .int ((r166 / (24 : Int32)))), (8, .int ((0 : Int32)))] rfl ?_
        exact JP83 (612008 - 2527 - 523 * k) (by omega) (fun σ l2 l3 l4 l5 => lp_L_law_27 n xs L k σ l2 l3 l4 l5) (fun σ l2 l3 l4 l5 kc9 ns9 h1 h2 h3 => ih σ l2 l3 l4 l5 kc9 ns9 (by omega) (by omega) h3) σ167 l2 l3 l4 l5 r166 ((r166 / (24 : Int32))) ((0 : Int32)) ((0 : Int64)) (kc + 0) (ns + 0) (by omega) (by omega) h
      · have h := (if_pos c170).symm.trans h
        refine j_iconst C dL_law_63 ((1 : Int32)) (by decide) ?_
        refine j_goto C dL_law_64 68 (by decide) ?_
        refine j_istore C dL_law_68 (by decide) [(8, .int ((1 : Int32))), (7, .int ((r166 / (24 : Int32)))), (6, .int (r166)), (0, .ref b), (1, .ref (G.2.2 (40))), (2, .int (l2)), (3, .int (l3)), (4, .int (l4)), (5, .int (l5))] rfl ?_
        refine j_iload C dL_law_70 0 rfl ?_
        refine j_if_eq C dL_law_72 82 (by decide) (fun c275 => absurd c275 (by decide)) (fun c275 => ?_)
        refine j_aload_n C dL_law_75 4 rfl ?_
        obtain ⟨⟨r276, σ277⟩, h278, h⟩ := ob h
        try dsimp only at h
        refine jm_callS CV X (N1 := 133) (N2 := 798) (c_L_sum n G σ167 40 ok40 _ _ h278) dL_law_76 (gSc9 v_240 v_242 v_232 v_241) rfl hy_L_sum rfl rfl ⟨Nat.le_of_ble_eq_true rfl, Nat.le_of_ble_eq_true rfl⟩ (Nat.le_of_ble_eq_true rfl) (Nat.le_of_ble_eq_true rfl) (Nat.le_of_ble_eq_true rfl) (show kc + 0 + 133 ≤ 612008 ∧ ns + 0 + 798 ≤ 7258737 by omega) ?_
        refine j_goto C dL_law_79 83 (by decide) ?_
        refine j_sub [3, 4, 5, 6, 7, 8, 2, 1, 0] [(0, .ref b), (1, .ref (G.2.2 (40))), (2, .int (l2)), (3, .int (l3)), (4, .int (l4)), (5, .int (l5)), (6, .int (r166)), (7, .int ((r166 / (24 : Int32)))), (8, .int ((1 : Int32)))] rfl ?_
        exact JP83 (612008 - 2527 - 523 * k) (by omega) (fun σ l2 l3 l4 l5 => lp_L_law_27 n xs L k σ l2 l3 l4 l5) (fun σ l2 l3 l4 l5 kc9 ns9 h1 h2 h3 => ih σ l2 l3 l4 l5 kc9 ns9 (by omega) (by omega) h3) σ277 l2 l3 l4 l5 r166 ((r166 / (24 : Int32))) ((1 : Int32)) r276 (kc + 0 + 133) (ns + 0 + 798) (by omega) (by omega) h
  unfold sl_law at h
  refine j_iconst C dL_law_8 ((0 : Int32)) (by decide) ?_
  refine j_istore_n C dL_law_9 (by decide) [(2, .int ((0 : Int32))), (1, .ref (G.2.2 (40))), (0, .ref b)] rfl ?_
  refine j_iconst C dL_law_10 ((0 : Int32)) (by decide) ?_
  refine j_istore_n C dL_law_11 (by decide) [(3, .int ((0 : Int32))), (2, .int ((0 : Int32))), (1, .ref (G.2.2 (40))), (0, .ref b)] rfl ?_
  refine j_aload_n C dL_law_12 3 rfl ?_
  refine j_iconst C dL_law_13 ((0 : Int32)) (by decide) ?_
  obtain ⟨g1, h⟩ := sg h
  refine jl_at S9 X dL_law_14 (gSc9 v_230 v_231 v_232 v_233) g1 ⟨Nat.le_of_ble_eq_true rfl, Nat.le_of_ble_eq_true rfl⟩ (Nat.le_of_ble_eq_true rfl) (show kc ≤ 612008 ∧ ns ≤ 7258737 by omega) ?_
  refine j_bipush C dL_law_17 ((58 : Int32)) (by decide) ?_
  obtain ⟨⟨r2, σ3⟩, h4, h⟩ := ob h
  try dsimp only at h
  refine jm_callS CV X (N1 := 0) (N2 := 0) (c_L_some n G σ ((atv xs L (0 : Int32))) ((58 : Int32))  _ _ h4) dL_law_19 (gSc9 v_234 v_236 v_232 v_235) rfl hy_L_some rfl rfl ⟨Nat.le_of_ble_eq_true rfl, Nat.le_of_ble_eq_true rfl⟩ (Nat.le_of_ble_eq_true rfl) (Nat.le_of_ble_eq_true rfl) (Nat.le_of_ble_eq_true rfl) (show kc + 0 ≤ 612008 ∧ ns + 0 ≤ 7258737 by omega) ?_
  refine j_istore C dL_law_22 (by decide) [(4, .int (r2)), (3, .int ((0 : Int32))), (2, .int ((0 : Int32))), (1, .ref (G.2.2 (40))), (0, .ref b)] rfl ?_
  refine j_iconst C dL_law_24 ((0 : Int32)) (by decide) ?_
  refine j_istore C dL_law_25 (by decide) [(5, .int ((0 : Int32))), (4, .int (r2)), (3, .int ((0 : Int32))), (2, .int ((0 : Int32))), (1, .ref (G.2.2 (40))), (0, .ref b)] rfl ?_
  refine j_sub [5, 4, 3, 2, 1, 0] [(0, .ref b), (1, .ref (G.2.2 (40))), (2, .int ((0 : Int32))), (3, .int ((0 : Int32))), (4, .int (r2)), (5, .int ((0 : Int32)))] rfl ?_
  exact LP27 60 σ3 ((0 : Int32)) ((0 : Int32)) r2 ((0 : Int32)) (kc + 0) (ns + 0) (by omega) (by omega) h
