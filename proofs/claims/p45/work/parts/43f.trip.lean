def onI (k : Int32) : Int32 := if k = 45 then 0 else 1
theorem onI_0 {k : Int32} (h : onI k = 0) : k = 45 := by
  by_cases e : k = 45
  · exact e
  · rw [show onI k = 1 from if_neg e] at h
    cases h
theorem wl_0 {k : Int32} (h : k = 102) : wl k = 0 := if_pos h
theorem wl_1 {k : Int32} (h : k = 100) : wl k = 1 := by subst h; rfl
theorem wl_2 {k : Int32} (h : k = 117) : wl k = 2 := by subst h; rfl
theorem wl_3 {k : Int32} (h : k = 111) : wl k = 3 := by subst h; rfl
theorem wl_4 {k : Int32} (h1 : ¬ k = 102) (h2 : ¬ k = 100) (h3 : ¬ k = 117) (h4 : ¬ k = 111) : wl k = 4 := (if_neg h1).trans ((if_neg h2).trans ((if_neg h3).trans (if_neg h4)))
def tripT (k : Int32) (y l z : Nat) : List Nat := if k = 45 then [] ++ litL (wl k) else (((((([] ++ litL (wl k)) ++ [32]) ++ dgL y) ++ litL 5) ++ dgL l) ++ [32] ++ dgL z) ++ litL 6
theorem ltr_nil : ltr [] := fun u hu => by cases hu
theorem l5_ : (litL 5).length = 2 := rfl
theorem l6_ : (litL 6).length = 3 := rfl
abbrev rmt_X3_word : Room := ({ frames := 10, cells := 0, slots := 0, locals := 200 } : Room)
abbrev wt_X3_word : List Cond := (Cond.code yX3_word cX3_word 1 (some (.object "java/lang/String"))) :: wsT
set_option maxRecDepth 20000 in
set_option maxHeartbeats 4000000 in
theorem t_X3_word (K : Nat → Nat) (D : va_G) {tys : List (ClassId × FieldType)} (a : Nat) (h : Nat → Int32) : MT yX3_word wt_X3_word rmt_X3_word [.ref (a)] K D tys [(a, .inr (7, [.int (h 0), .int (h 1), .int (h 2), .int (h 3), .int (h 4)]))] (fun r w' => r = some (.ref (K (wl (h 0)))) ∧ w' = [(a, .inr (7, [.int (h 0), .int (h 1), .int (h 2), .int (h 3), .int (h 4)]))]) := by
  refine mt_of (cc := cX3_word) (maxL := 1) (ret := (some (.object "java/lang/String"))) (v0 := some (.ref (K (wl (h 0))))) (w0 := [(a, .inr (7, [.int (h 0), .int (h 1), .int (h 2), .int (h 3), .int (h 4)]))]) ⟨rfl, rfl⟩ (by decide +kernel) rfl (Nat.le_of_ble_eq_true rfl) (fun x C X => ?_)
  have C : Cy "word" K (fun r w' => r = some (.ref (K (wl (h 0)))) ∧ w' = [(a, .inr (7, [.int (h 0), .int (h 1), .int (h 2), .int (h 3), .int (h 4)]))]) x cX3_word 1 RX3 (some (.object "java/lang/String")) [] wt_X3_word rmt_X3_word D tys := C
  have C0 := C.cx
  have CV := C.cv
  show J x [(0, .ref (a))] [] [(a, .inr (7, [.int (h 0), .int (h 1), .int (h 2), .int (h 3), .int (h 4)]))] 0 (0) (0)
  refine j_aload_n C0 dX3_word_0 0 rfl ?_
  refine jt_get C0 X dX3_word_1 0 rfl rfl 0 (by decide) (fin := false) rfl rfl inT_X3 (ref := "MineHoist$Trip") (fun _ _ h => h) (mT v_124) ?_
  refine j_bipush C0 dX3_word_4 ((102 : Int32)) (by decide) ?_
  refine j_icmp_ne C0 dX3_word_6 12 (by decide) (fun g1 => ?_) (fun g1 => ?_)
  · refine j_aload_n C0 dX3_word_12 0 rfl ?_
    refine jt_get C0 X dX3_word_13 0 rfl rfl 0 (by decide) (fin := false) rfl rfl inT_X3 (ref := "MineHoist$Trip") (fun _ _ h => h) (mT v_124) ?_
    refine j_bipush C0 dX3_word_16 ((100 : Int32)) (by decide) ?_
    refine j_icmp_ne C0 dX3_word_18 24 (by decide) (fun g2 => ?_) (fun g2 => ?_)
    · refine j_aload_n C0 dX3_word_24 0 rfl ?_
      refine jt_get C0 X dX3_word_25 0 rfl rfl 0 (by decide) (fin := false) rfl rfl inT_X3 (ref := "MineHoist$Trip") (fun _ _ h => h) (mT v_124) ?_
      refine j_bipush C0 dX3_word_28 ((117 : Int32)) (by decide) ?_
      refine j_icmp_ne C0 dX3_word_30 36 (by decide) (fun g3 => ?_) (fun g3 => ?_)
      · refine j_aload_n C0 dX3_word_36 0 rfl ?_
        refine jt_get C0 X dX3_word_37 0 rfl rfl 0 (by decide) (fin := false) rfl rfl inT_X3 (ref := "MineHoist$Trip") (fun _ _ h => h) (mT v_124) ?_
        refine j_bipush C0 dX3_word_40 ((111 : Int32)) (by decide) ?_
        refine j_icmp_ne C0 dX3_word_42 50 (by decide) (fun g4 => ?_) (fun g4 => ?_)
        · refine jy_ldc C dX3_word_50 (i := 4) (by decide +kernel) ?_
          exact jy_areturn C (Or.inl ⟨_, rfl⟩) dX3_word_52 ⟨by rw [wl_4 g1 g2 g3 g4], rfl⟩ (Nat.le_of_ble_eq_true rfl) (Nat.le_of_ble_eq_true rfl)
        · refine jy_ldc C dX3_word_45 (i := 3) (by decide +kernel) ?_
          refine j_goto C0 dX3_word_47 52 (by decide) ?_
          exact jy_areturn C (Or.inl ⟨_, rfl⟩) dX3_word_52 ⟨by rw [wl_3 g4], rfl⟩ (Nat.le_of_ble_eq_true rfl) (Nat.le_of_ble_eq_true rfl)
      · refine jy_ldc C dX3_word_33 (i := 2) (by decide +kernel) ?_
        exact jy_areturn C (Or.inl ⟨_, rfl⟩) dX3_word_35 ⟨by rw [wl_2 g3], rfl⟩ (Nat.le_of_ble_eq_true rfl) (Nat.le_of_ble_eq_true rfl)
    · refine jy_ldc C dX3_word_21 (i := 1) (by decide +kernel) ?_
      exact jy_areturn C (Or.inl ⟨_, rfl⟩) dX3_word_23 ⟨by rw [wl_1 g2], rfl⟩ (Nat.le_of_ble_eq_true rfl) (Nat.le_of_ble_eq_true rfl)
  · refine jy_ldc C dX3_word_9 (i := 0) (by decide +kernel) ?_
    exact jy_areturn C (Or.inl ⟨_, rfl⟩) dX3_word_11 ⟨by rw [wl_0 g1], rfl⟩ (Nat.le_of_ble_eq_true rfl) (Nat.le_of_ble_eq_true rfl)
abbrev rmt_X3_isOn : Room := ({ frames := 10, cells := 0, slots := 0, locals := 200 } : Room)
abbrev wt_X3_isOn : List Cond := (Cond.code yX3_isOn cX3_isOn 1 (some .boolean)) :: wsT
set_option maxRecDepth 20000 in
set_option maxHeartbeats 4000000 in
theorem t_X3_isOn (K : Nat → Nat) (D : va_G) {tys : List (ClassId × FieldType)} (a : Nat) (h : Nat → Int32) : MT yX3_isOn wt_X3_isOn rmt_X3_isOn [.ref (a)] K D tys [(a, .inr (7, [.int (h 0), .int (h 1), .int (h 2), .int (h 3), .int (h 4)]))] (fun r w' => r = some (.int (onI (h 0))) ∧ w' = [(a, .inr (7, [.int (h 0), .int (h 1), .int (h 2), .int (h 3), .int (h 4)]))]) := by
  refine mt_of (cc := cX3_isOn) (maxL := 1) (ret := (some .boolean)) (v0 := some (.int (onI (h 0)))) (w0 := [(a, .inr (7, [.int (h 0), .int (h 1), .int (h 2), .int (h 3), .int (h 4)]))]) ⟨rfl, rfl⟩ (by decide +kernel) rfl (Nat.le_of_ble_eq_true rfl) (fun x C X => ?_)
  have C : Cy "isOn" K (fun r w' => r = some (.int (onI (h 0))) ∧ w' = [(a, .inr (7, [.int (h 0), .int (h 1), .int (h 2), .int (h 3), .int (h 4)]))]) x cX3_isOn 1 RX3 (some .boolean) [] wt_X3_isOn rmt_X3_isOn D tys := C
  have C0 := C.cx
  have CV := C.cv
  show J x [(0, .ref (a))] [] [(a, .inr (7, [.int (h 0), .int (h 1), .int (h 2), .int (h 3), .int (h 4)]))] 0 (0) (0)
  refine j_aload_n C0 dX3_isOn_0 0 rfl ?_
  refine jt_get C0 X dX3_isOn_1 0 rfl rfl 0 (by decide) (fin := false) rfl rfl inT_X3 (ref := "MineHoist$Trip") (fun _ _ h => h) (mT v_124) ?_
  refine j_bipush C0 dX3_isOn_4 ((45 : Int32)) (by decide) ?_
  refine j_icmp_eq C0 dX3_isOn_6 13 (by decide) (fun g1 => ?_) (fun g1 => ?_)
  · refine j_iconst C0 dX3_isOn_13 ((0 : Int32)) (by decide) ?_
    exact jy_zreturn C (by decide) dX3_isOn_14 ⟨by rw [show onI (h 0) = (0 : Int32) from if_pos g1], rfl⟩ (Nat.le_of_ble_eq_true rfl) (Nat.le_of_ble_eq_true rfl)
  · refine j_iconst C0 dX3_isOn_9 ((1 : Int32)) (by decide) ?_
    refine j_goto C0 dX3_isOn_10 14 (by decide) ?_
    exact jy_zreturn C (by decide) dX3_isOn_14 ⟨by rw [show onI (h 0) = (1 : Int32) from if_neg g1], rfl⟩ (Nat.le_of_ble_eq_true rfl) (Nat.le_of_ble_eq_true rfl)
