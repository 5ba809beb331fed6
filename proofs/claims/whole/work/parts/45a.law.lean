abbrev lo5 (G : Gt) (b p : Nat) : List (Nat × Value) := [(5, .int (nI p)), (4, .ref (G.2.2 50)), (3, .ref (G.2.2 49)), (2, .ref (G.2.2 41)), (1, .ref (G.2.2 40)), (0, .ref b)]
abbrev wsL : List Cond := Cond.initialized RL :: wsT
theorem ok40 : Ok 40 5 := ⟨by decide, rfl⟩
theorem ok41 : Ok 41 6 := ⟨by decide, rfl⟩
theorem ok49 : Ok 49 12 := ⟨by decide, rfl⟩
theorem ok50 : Ok 50 13 := ⟨by decide, rfl⟩
theorem gCm {c1 : Cond} {L : List Cond} (hL : ∀ w ∈ L, w ∈ wsT) (h1 : c1 ∈ wsT) : ∀ w ∈ L ++ (c1 :: wsU), w ∈ wsT := fun w hw => (List.mem_append.mp hw).elim (hL w) (fun h => (List.mem_cons.mp h).elim (fun e => e ▸ h1) mUT)
theorem gVm9 {c0 : Cond} {own : String} {idx mL : Nat} {y : MethodName} {b : ByteArray} {ret : Option FieldType} (h1 : Cond.methodLink own idx y ∈ wsT) (h2 : Cond.instanceMethod y ∈ wsT) (h3 : Cond.selects y.cls y y ∈ wsT) (h4 : Cond.initialized y.cls ∈ wsT) (h5 : Cond.code y b mL ret ∈ wsT) : GoodIn (c0 :: wsT) (wsV own idx y.cls y (Cond.code y b mL ret :: wsU)) := gT9 (gCm (L := [.methodLink own idx y, .instanceMethod y, .selects y.cls y y, .initialized y.cls]) (m4_ h1 h2 h3 h4) h5)
theorem gSm9 {c0 : Cond} {own : String} {idx mL : Nat} {y : MethodName} {b : ByteArray} {ret : Option FieldType} {hh : List (Nat × Nat × Nat × Nat)} (h1 : Cond.methodLink own idx y ∈ wsT) (h2 : Cond.static y ∈ wsT) (h4 : Cond.initialized y.cls ∈ wsT) (h5 : Cond.codeWith y b mL ret hh ∈ wsT) : GoodIn (c0 :: wsT) (va_wsS own idx y (Cond.codeWith y b mL ret hh :: wsU)) := gT9 (gCm (L := [.methodLink own idx y, .static y, .initialized y.cls]) (m3_ h1 h2 h4) h5)
theorem z_setDoor {n : Nat} {σ σ1 : Mem} {a b r : Int32} (h : sp_X6_setDoor n σ 41 a b = some (r, σ1)) : r = 0 ∨ r = 1 := by
  unfold sp_X6_setDoor at h
  obtain ⟨⟨r1, s2⟩, -, h⟩ := ob h
  dsimp only at h
  by_cases c : r1 = 0
  · have h := (if_pos c).symm.trans h
    obtain ⟨-, h⟩ := sg h
    obtain ⟨-, h⟩ := sg h
    obtain ⟨s, -, h⟩ := lm_e h
    obtain ⟨g, h⟩ := sg h
    cases h
    exact g
  · have h := (if_neg c).symm.trans h
    cases h
    exact Or.inl rfl
theorem z_isAlarm {n : Nat} {σ σ1 : Mem} {a r : Int32} (h : sp_X6_isAlarm n σ 41 a = some (r, σ1)) : r = 0 ∨ r = 1 := by
  unfold sp_X6_isAlarm at h
  obtain ⟨⟨r1, s2⟩, -, h⟩ := ob h
  dsimp only at h
  by_cases c : r1 = 0
  · have h := (if_pos c).symm.trans h
    obtain ⟨⟨r5, s6⟩, -, h⟩ := ob h
    dsimp only at h
    by_cases c5 : r5 = 0
    · have h := (if_pos c5).symm.trans h
      cases h
      exact Or.inl rfl
    · have h := (if_neg c5).symm.trans h
      cases h
      exact Or.inr rfl
  · have h := (if_neg c).symm.trans h
    cases h
    exact Or.inl rfl
theorem z_isClosed {n : Nat} {σ σ1 : Mem} {a r : Int32} (h : sp_X6_isClosed n σ 41 a = some (r, σ1)) : r = 0 ∨ r = 1 := by
  unfold sp_X6_isClosed at h
  obtain ⟨⟨r1, s2⟩, -, h⟩ := ob h
  dsimp only at h
  by_cases c : r1 = 0
  · have h := (if_pos c).symm.trans h
    obtain ⟨⟨r5, s6⟩, -, h⟩ := ob h
    dsimp only at h
    by_cases c5 : r5 = 0
    · have h := (if_pos c5).symm.trans h
      cases h
      exact Or.inl rfl
    · have h := (if_neg c5).symm.trans h
      cases h
      exact Or.inr rfl
  · have h := (if_neg c).symm.trans h
    cases h
    exact Or.inl rfl
theorem dq_ne {a b : Int32} (h : ¬ b = 0) : FP.Core.val64 (dq a b) ≠ .nan := by
  obtain ⟨s, c, q, e1, -⟩ := dq_val a
  obtain ⟨t, d, r, e2, e3⟩ := dq_val b
  unfold dq
  rw [show FP.Core.val64 (FP.ddiv (FP.i2d a) (FP.i2d b)) = FP.Core.quotient FP.Core.b64 (FP.Core.val64 (FP.i2d a)) (FP.Core.val64 (FP.i2d b)) from FP.Core.val64_ddiv _ _, e1, e2]
  unfold FP.Core.quotient
  simp only []
  rw [if_neg (e3 h)]
  exact dq_nn _ _ _ _
theorem dc_self {a b : Int32} (h : ¬ b = 0) (op : CmpOp) : Op.cmpValue (FP.dcmp (dq a b) (dq a b)) op = 0 := by
  rw [show FP.dcmp (dq a b) (dq a b) = some .eq from FP.Core.dcmp_self (dq_ne h)]
  rfl
