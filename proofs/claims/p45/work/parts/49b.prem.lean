/-! WHAT THE STATEMENT GIVES OF THE START -/
theorem arr_prim {ty : FieldType} {args : Array Value} {s : State} (h : (Cond.arrayClass ty).before args s = true) : ∃ c : ClassId, ArrOfT s c ty ∧ s.vm.findClass ("[" ++ ty.toString) = some c := by
  obtain ⟨c, k, comp, h1, h2, h3⟩ := Cond.arrayClass_spec (first := s) (o := none) (idx := []) h
  exact ⟨c, fun n z => ⟨(fun k h => by cases h), k, h2, comp, h3⟩, h1⟩
theorem arr_obj {C : String} {args : Array Value} {s : State} (h : (Cond.arrayOver (.object C)).before args s = true) : ∃ c : ClassId, ArrOfT s c (.object C) ∧ va_RA s c (.object C) := by
  obtain ⟨comp, c, k, h1, h2, h3, h4, h5⟩ := Cond.arrayOver_spec (first := s) (o := none) (idx := []) h
  exact ⟨c, fun n z => ⟨(fun k h => by cases h), k, h3, comp, h4⟩, k, comp, h3, h4, h1, h5⟩
theorem of_fun {o n d : String} {v v' : Value} {t : Nat} {A : Nat → Prop} {U : State} {H : Heap} (h : va_OF o n d v t A U H) (g : va_OF o n d v' t A U H) : v = v' := by
  obtain ⟨cf, k, i, f, cell, a1, a2, a3, a4, a5, a6⟩ := h
  obtain ⟨cf', k', i', f', cell', b1, b2, b3, b4, b5, b6⟩ := g
  cases a1.symm.trans b1
  cases a3.symm.trans b3
  exact Option.some.inj (a5.symm.trans b5)
theorem t_fun {ty : FieldType} {t N N' : Nat} {f f' : Nat → Value} {A : Nat → Prop} {U : State} {H : Heap} (h : va_T ty t N f A U H) (g : va_T ty t N' f' A U H) : Int32.ofNat N = Int32.ofNat N' ∧ ∀ j, j < N → j < N' → f j = f' j := by
  obtain ⟨cell, a1, a2, a3, a4, a5, a6, a7⟩ := h
  obtain ⟨cell', b1, b2, b3, b4, b5, b6, b7⟩ := g
  cases a1.symm.trans b1
  exact ⟨a5.symm.trans b5, fun j h1 h2 => Option.some.inj ((a6 j h1).symm.trans (b6 j h2))⟩
/-- one constant of each literal -/
def litQ (i : Nat) : String × Nat := match i with
  | 0 => ("MineHoist$Trip", 36)
  | 1 => ("MineHoist$Trip", 38)
  | 2 => ("MineHoist$Trip", 40)
  | 3 => ("MineHoist$Trip", 42)
  | 4 => ("MineHoist$Trip", 44)
  | 5 => ("MineHoist", 264)
  | 6 => ("MineHoist", 266)
  | _ => ("MineHoistLaw", 225)
def litTm (i : Nat) : Term := .string (litQ i).1 (litQ i).2
abbrev flat9 : List Cond := flatC (Jvm.Cond.and given_1 narrow_1)
theorem lit_apart : ∀ i, i < 8 → ∀ j, j < 8 → litN.getD i 0 = litN.getD j 0 → (∀ k, k < litN.getD i 0 → (litB.getD i []).getD k 0 = (litB.getD j []).getD k 0) → i = j := by decide +kernel
theorem f_ex : ∀ i, i < 8 → Cond.exactly (litTm i) "java/lang/String" ∈ flat9 := by decide +kernel
theorem f_co : ∀ i, i < 8 → Cond.eq (.field (litTm i) "java/lang/String" "coder" "B") (.int 0) ∈ flat9 := by decide +kernel
theorem f_ar : ∀ i, i < 8 → Cond.arrayOf (.field (litTm i) "java/lang/String" "value" "[B") .byte ∈ flat9 := by decide +kernel
theorem f_le : ∀ i, i < 8 → Cond.eq (.length (.field (litTm i) "java/lang/String" "value" "[B")) (.int (Int32.ofNat (litN.getD i 0))) ∈ flat9 := by decide +kernel
theorem f_el : ∀ i, i < 8 → ∀ j, j < litN.getD i 0 → Cond.eq (.elem (.field (litTm i) "java/lang/String" "value" "[B") (.int (Int32.ofNat j))) (.int ((litB.getD i []).getD j 0)) ∈ flat9 := by decide +kernel
theorem lits {args : Array Value} {s : State} {A : Nat → Prop} (hf : ∀ c ∈ flat9, c.before args s = true) (hA : ∀ a : Nat, a < s.heap.size → ¬ A a) : ∃ aK aV : Nat → Nat, vk_S 8 litN litB aK aV A s s.heap ∧ ∀ i, i < 8 → (litTm i).eval args s none [] s = some (.ref (aK i)) := by
  have h0 : ∀ i : Nat, ∃ q : Nat × Nat, i < 8 → (litTm i).eval args s none [] s = some (.ref q.1) ∧ va_O "java/lang/String" q.1 A s s.heap ∧ va_OF "java/lang/String" "coder" "B" (.int 0) q.1 A s s.heap ∧ va_OF "java/lang/String" "value" "[B" (.ref q.2) q.1 A s s.heap ∧ va_T .byte q.2 (litN.getD i 0) (fun j => .int ((litB.getD i []).getD j 0)) A s s.heap := fun i => by
    by_cases hi : i < 8
    · obtain ⟨a, c, cA, kA, q1, q2, q3, q4, q5, q6, -⟩ := Cond.exactly_spec (args := args) (first := s) (o := none) (s := s) (idx := []) (t := litTm i) (cls := "java/lang/String") (hf _ (f_ex i hi))
      have hl := litN_le hi
      obtain ⟨t, ht, hT⟩ := va_Tof (N := litN.getD i 0) (f := fun j => .int ((litB.getD i []).getD j 0)) (A := A) (by omega) (hf _ (f_ar i hi)) (va_eqt (hf _ (f_le i hi))) (fun j hj => va_eqt (hf _ (f_el i hi j hj))) hA
      exact ⟨(a, t), fun _ => ⟨q1, ⟨cA, q3, q5, by rw [q6]; exact q2, hA a (Array.getElem?_eq_some_iff.mp q3).1⟩, vk_OFof q1 (va_eqt (hf _ (f_co i hi))) hA, vk_OFof q1 ht hA, hT⟩⟩
    · exact ⟨(0, 0), fun h => absurd h hi⟩
  obtain ⟨ad, had⟩ := Classical.axiomOfChoice h0
  refine ⟨fun i => (ad i).1, fun i => (ad i).2, ⟨fun i hi => (had i hi).2, fun i j hi hj e => ?_⟩, fun i hi => (had i hi).1⟩
  have e : (ad i).1 = (ad j).1 := e
  obtain ⟨-, -, -, v1, t1⟩ := had i hi
  obtain ⟨-, -, -, v2, t2⟩ := had j hj
  rw [e] at v1
  have ev : (ad i).2 = (ad j).2 := Value.ref.inj (of_fun v1 v2)
  rw [ev] at t1
  obtain ⟨e1, e2⟩ := t_fun t1 t2
  have n1 := litN_le hi
  have n2 := litN_le hj
  have e3 : litN.getD i 0 = litN.getD j 0 := (nI_eq (by omega) (by omega)).mp e1
  refine lit_apart i hi j hj e3 (fun k hk => ?_)
  have := e2 k hk (by omega)
  exact Value.int.inj this
theorem f_on_l : (flat9.drop 12).take 100 = (List.range 100).map (fun j : Nat => Cond.eq (.elem (.static "java/lang/Integer" "DigitOnes" "[B") (.int (Int32.ofNat j))) (.int (nI (48 + j % 10)))) := by decide +kernel
theorem f_on : ∀ j, j < 100 → Cond.eq (.elem (.static "java/lang/Integer" "DigitOnes" "[B") (.int (Int32.ofNat j))) (.int (nI (48 + j % 10))) ∈ flat9 := fun j hj => List.mem_of_mem_drop (List.mem_of_mem_take (by rw [f_on_l]; exact List.mem_map.mpr ⟨j, List.mem_range.mpr hj, rfl⟩))
theorem f_te_l : (flat9.drop 115).take 100 = (List.range 100).map (fun j : Nat => Cond.eq (.elem (.static "java/lang/Integer" "DigitTens" "[B") (.int (Int32.ofNat j))) (.int (nI (48 + j / 10)))) := by decide +kernel
theorem f_te : ∀ j, j < 100 → Cond.eq (.elem (.static "java/lang/Integer" "DigitTens" "[B") (.int (Int32.ofNat j))) (.int (nI (48 + j / 10))) ∈ flat9 := fun j hj => List.mem_of_mem_drop (List.mem_of_mem_take (by rw [f_te_l]; exact List.mem_map.mpr ⟨j, List.mem_range.mpr hj, rfl⟩))
theorem digits9 {args : Array Value} {s : State} {A : Nat → Prop} (nm : String) (g : Nat → Int32) (hl : (Cond.laysStatic "java/lang/Integer" nm "[B").before args s = true) (hini : (Cond.initialized "java/lang/Integer").before args s = true) (h1 : (Cond.arrayOf (.static "java/lang/Integer" nm "[B") .byte).before args s = true) (h2 : (Cond.eq (.length (.static "java/lang/Integer" nm "[B")) (.int 100)).before args s = true) (h3 : ∀ j, j < 100 → (Cond.eq (.elem (.static "java/lang/Integer" nm "[B") (.int (Int32.ofNat j))) (.int (g j))).before args s = true) (hA : ∀ a : Nat, a < s.heap.size → ¬ A a) : ∃ t, va_Z "java/lang/Integer" nm "[B" (.ref t) A s s.heap ∧ va_T .byte t 100 (fun j => .int (g j)) A s s.heap := by
  obtain ⟨t, ht, hT⟩ := va_Tof (N := 100) (f := fun j => .int (g j)) (A := A) (by omega) h1 (va_eqt h2) (fun j hj => va_eqt (h3 j hj)) hA
  exact ⟨t, va_Zof hl hini ht hA, hT⟩
theorem f_str1 : ∀ q ∈ strs, Cond.stringRef q.1 q.2.1 q.2.2 ∈ lw_tbl := by decide +kernel
theorem f_str2 : ∀ q ∈ strs, Cond.exactly (.string q.1 q.2.1) "java/lang/String" ∈ flat9 := by decide +kernel
theorem f_cs1 : ∀ X ∈ excs, Cond.castable X X ∈ lw_tbl := by decide +kernel
theorem f_cs2 : ∀ Y ∈ ["java/lang/RuntimeException", "java/lang/Exception", "java/lang/Throwable"], Cond.declares (Bundle.initS Y) ∈ lw_tbl := by decide +kernel
theorem f_cs3 : ∀ E ∈ excs, ∀ T ∈ excs, E ≠ T → Cond.not (.castable E T) ∈ flat9 := by decide +kernel
theorem st9 {args : Array Value} {s : State} {A : Nat → Prop} (hts : ∀ w ∈ lw_tbl, w.before args s = true) (hf : ∀ c ∈ flat9, c.before args s = true) (hA : ∀ a : Nat, a < s.heap.size → ¬ A a) : St A s s.heap := by
  refine ⟨vx_Zqof (hts _ (by decide +kernel)) (hts _ (by decide +kernel)) (hf _ (by decide +kernel)) hA, vx_Zqof (hts _ (by decide +kernel)) (hts _ (by decide +kernel)) (hf _ (by decide +kernel)) hA, fun q hq => ?_, fun X hX => va_Nw.of rfl (hts _ (f_cs1 X hX)), fun Y hY => va_Nw.of rfl (hts _ (f_cs2 Y hY)), fun E hE T hT hne => va_Nc.of (hf _ (f_cs3 E hE T hT hne))⟩
  obtain ⟨a, c, cA, kA, q1, -⟩ := Cond.exactly_spec (args := args) (first := s) (o := none) (s := s) (idx := []) (hf _ (f_str2 q hq))
  exact ⟨a, vk_R.of (hts _ (f_str1 q hq)) q1⟩
/-- where a literal stands: the constant itself, or one said to be the same -/
theorem f_lp : ∀ q ∈ litP, q.2.2 < 8 ∧ Cond.stringRef q.1 q.2.1 (litT.getD q.2.2 "") ∈ lw_tbl ∧ (litQ q.2.2 = (q.1, q.2.1) ∨ Cond.eq (litTm q.2.2) (.string q.1 q.2.1) ∈ flat9) := by decide +kernel
theorem nx9 {args : Array Value} {s : State} (hts : ∀ w ∈ lw_tbl, w.before args s = true) : NX s := ⟨va_Nw.of rfl (hts _ (by decide +kernel)), va_Nw.of rfl (hts _ (by decide +kernel)), va_Nw.of rfl (hts _ (by decide +kernel)), va_Nw.of rfl (hts _ (by decide +kernel)), va_AO.of (hts _ (by decide +kernel)), va_AO.of (hts _ (by decide +kernel))⟩
theorem tx9 {args : Array Value} {s : State} {A : Nat → Prop} (hts : ∀ w ∈ lw_tbl, w.before args s = true) (hf : ∀ c ∈ flat9, c.before args s = true) (hA : ∀ a : Nat, a < s.heap.size → ¬ A a) : ∃ K : Nat → Nat, TX K A s s.heap := by
  obtain ⟨aK, aV, hS, hev⟩ := lits hf hA
  obtain ⟨t1, z1, d1⟩ := digits9 "DigitOnes" (fun j => nI (48 + j % 10)) (hts _ (by decide +kernel)) (hts _ (by decide +kernel)) (hf _ (by decide +kernel)) (hf _ (by decide +kernel)) (fun j hj => hf _ (f_on j hj)) hA
  obtain ⟨t2, z2, d2⟩ := digits9 "DigitTens" (fun j => nI (48 + j / 10)) (hts _ (by decide +kernel)) (hts _ (by decide +kernel)) (hf _ (by decide +kernel)) (hf _ (by decide +kernel)) (fun j hj => hf _ (f_te j hj)) hA
  let K : Nat → Nat := fun k => if k < 8 then aK k else if k < 40 then aV (k - 20) else if k = 40 then t1 else t2
  have k1 : ∀ i, i < 8 → K i = aK i := fun i hi => if_pos hi
  have k2 : ∀ i, i < 8 → K (20 + i) = aV i := fun i hi => (if_neg (by omega)).trans ((if_pos (by omega)).trans (by rw [Nat.add_sub_cancel_left]))
  refine ⟨K, ⟨fun i hi => ?_, fun i j hi hj e => ?_⟩, va_Zof (hts _ (by decide +kernel)) (hts _ (by decide +kernel)) (va_eqt (hf _ (by decide +kernel))) hA, z1, d1, z2, d2, va_Zqof (hts _ (by decide +kernel)) (hts _ (by decide +kernel)) (hf _ (by decide +kernel)) hA, fun q hq => ?_, nx9 hts⟩
  · rw [k1 i hi]
    have := hS.1 i hi
    rw [← k2 i hi] at this
    exact this
  · rw [k1 i hi, k1 j hj] at e
    exact hS.2 i j hi hj e
  · obtain ⟨h1, h2, h3⟩ := f_lp q hq
    rw [k1 _ h1]
    have h4 := hev _ h1
    refine vk_R.of (hts _ h2) ?_
    rcases h3 with h3 | h3
    · unfold litTm at h4
      rw [h3] at h4
      exact h4
    · exact va_eqR (hf _ h3) h4
