/-! THE ROWS. A state of both systems is one memory: ints by (object, slot), references by (object, slot); objects have fixed numbers (ids), 'ad' gives their addresses.
ids: 0..6 levels of mine 0 (0 the surface), 7 Mine, 8 Trip, 9 Waiting; 10..19 the same of the trial; 20..27, 28..35 requests; 36, 37 places; 38, 39 rows; 40 MineHoist; 41 MineHoistModel; 42.. its arrays -/
abbrev Gt : Type := va_G × (Nat → ClassId) × (Nat → Nat)
abbrev Mem : Type := (Nat → Nat → Int32) × (Nat → Nat → Nat)
def kdL : List Nat := [0,0,0,0,0,0,0,1,3,4, 0,0,0,0,0,0,0,1,3,4, 2,2,2,2,2,2,2,2, 2,2,2,2,2,2,2,2, 7,7,8,8,5,6,9,9,9,9,10,11,11,12,13]
def kd (i : Nat) : Nat := kdL.getD i 99
def rf (i k : Nat) : Nat := match i with
  | 7 => (match k with | 0 => 0 | 1 => 36 | 2 => 9 | _ => 8)
  | 17 => (match k with | 0 => 10 | 1 => 37 | 2 => 19 | _ => 18)
  | 9 => 38
  | 19 => 39
  | 40 => (match k with | 0 => 7 | _ => 17)
  | _ => (match k with | 1 => 42 | 2 => 43 | 3 => 44 | 4 => 45 | 5 => 46 | 11 => 47 | _ => 48)
abbrev Ok (i K : Nat) : Prop := i < 41 ∧ kd i = K
theorem ok_all {P : Nat → Prop} {K : Nat} (h : ∀ i, i < 41 → kd i = K → P i) : ∀ i, Ok i K → P i := fun i o => h i o.1 o.2
theorem sh_1_0 {i : Nat} (h : Ok i 1) : Ok (rf i 0) 0 := ok_all (P := fun i => Ok (rf i 0) 0) (by decide +kernel) i h
theorem sh_1_1 {i : Nat} (h : Ok i 1) : Ok (rf i 1) 7 := ok_all (P := fun i => Ok (rf i 1) 7) (by decide +kernel) i h
theorem sh_1_2 {i : Nat} (h : Ok i 1) : Ok (rf i 2) 4 := ok_all (P := fun i => Ok (rf i 2) 4) (by decide +kernel) i h
theorem sh_1_3 {i : Nat} (h : Ok i 1) : Ok (rf i 3) 3 := ok_all (P := fun i => Ok (rf i 3) 3) (by decide +kernel) i h
theorem sh_4_0 {i : Nat} (h : Ok i 4) : Ok (rf i 0) 8 := ok_all (P := fun i => Ok (rf i 0) 8) (by decide +kernel) i h
theorem sh_5_0 {i : Nat} (h : Ok i 5) : Ok (rf i 0) 1 := ok_all (P := fun i => Ok (rf i 0) 1) (by decide +kernel) i h
theorem sh_5_1 {i : Nat} (h : Ok i 5) : Ok (rf i 1) 1 := ok_all (P := fun i => Ok (rf i 1) 1) (by decide +kernel) i h
theorem sh_6_1 {i : Nat} (h : Ok i 6) : Ok (rf i 1) 9 := ok_all (P := fun i => Ok (rf i 1) 9) (by decide +kernel) i h
theorem sh_6_2 {i : Nat} (h : Ok i 6) : Ok (rf i 2) 9 := ok_all (P := fun i => Ok (rf i 2) 9) (by decide +kernel) i h
theorem sh_6_3 {i : Nat} (h : Ok i 6) : Ok (rf i 3) 9 := ok_all (P := fun i => Ok (rf i 3) 9) (by decide +kernel) i h
theorem sh_6_4 {i : Nat} (h : Ok i 6) : Ok (rf i 4) 9 := ok_all (P := fun i => Ok (rf i 4) 9) (by decide +kernel) i h
theorem sh_6_5 {i : Nat} (h : Ok i 6) : Ok (rf i 5) 10 := ok_all (P := fun i => Ok (rf i 5) 10) (by decide +kernel) i h
theorem sh_6_11 {i : Nat} (h : Ok i 6) : Ok (rf i 11) 11 := ok_all (P := fun i => Ok (rf i 11) 11) (by decide +kernel) i h
theorem sh_6_12 {i : Nat} (h : Ok i 6) : Ok (rf i 12) 11 := ok_all (P := fun i => Ok (rf i 12) 11) (by decide +kernel) i h
def wi (σ : Mem) (i k : Nat) (v : Int32) : Mem := (fun a => if a = i then upd (σ.1 i) k v else σ.1 a, σ.2)
def wr (σ : Mem) (i k j : Nat) : Mem := (σ.1, fun a => if a = i then va_up (σ.2 i) k j else σ.2 a)
/-- a quotient of two ints as doubles -/
def dq (a b : Int32) : UInt64 := FP.ddiv (FP.i2d a) (FP.i2d b)
/-- what an object holds, by its kind -/
def EnR (G : Gt) (i K : Nat) (f : Nat → Int32) (g : Nat → Nat) : va_E := match K with
  | 0 => .inr (4, [.int (f 0), .int (f 1), .int (f 2), .int (f 3), .int (f 4), .int (f 5), .int (f 6), .int (f 7), .int (f 8), .int (f 9), .int (f 10)])
  | 1 => .inr (5, [.ref (G.2.2 (rf i 0)), .ref (G.2.2 (rf i 1)), .ref (G.2.2 (rf i 2)), .ref (G.2.2 (rf i 3)), .int (f 4), .int (f 5), .int (f 6), .int (f 7), .int (f 8), .int (f 9), .int (f 10), .int (f 11), .int (f 12), .int (f 13), .int (f 14), .int (f 15)])
  | 2 => .inr (6, [.int (f 0), .int (f 1), .int (f 2), .int (f 3)])
  | 3 => .inr (7, [.int (f 0), .int (f 1), .int (f 2), .int (f 3), .int (f 4)])
  | 4 => .inr (8, [.ref (G.2.2 (rf i 0)), .int (f 1)])
  | 5 => .inr (9, [.ref (G.2.2 (rf i 0)), .ref (G.2.2 (rf i 1)), .ref (g 2)])
  | 6 => .inr (10, [.int (f 0), .ref (G.2.2 (rf i 1)), .ref (G.2.2 (rf i 2)), .ref (G.2.2 (rf i 3)), .ref (G.2.2 (rf i 4)), .ref (G.2.2 (rf i 5)), .int (f 6), .int (f 7), .int (f 8), .int (f 9), .int (f 10), .ref (G.2.2 (rf i 11)), .ref (G.2.2 (rf i 12)), .ref (g 13), .int (f 14)])
  | 7 => .inl (G.2.1 0, 7, .inr (.inr (.inr (.inr (fun j => some (G.2.2 (g j)))))))
  | 8 => .inl (G.2.1 1, 8, .inr (.inr (.inr (.inr (fun j => some (G.2.2 (g j)))))))
  | 9 => .inl (G.2.1 2, 7, .inl f)
  | 10 => .inl (G.2.1 3, 7, .inl f)
  | 11 => .inl (G.2.1 2, 73, .inl f)
  | 12 => .inl (G.2.1 4, 1, .inr (.inl (fun j => (f j).toInt64)))
  | _ => .inl (G.2.1 5, 1, .inr (.inr (.inr (.inl (fun j => if j = 0 then dq (f 0) (f 1) else 0)))))
def En (G : Gt) (σ : Mem) (i : Nat) : va_E := EnR G i (kd i) (σ.1 i) (σ.2 i)
def wsF (G : Gt) (σ : Mem) : va_W := (List.range 41).map (fun i => (G.2.2 i, En G σ i))
abbrev tysF (G : Gt) : List (ClassId × FieldType) := [(G.2.1 0, .object RX0), (G.2.1 1, .object RX2)]
theorem g_in {G : Gt} {σ : Mem} {i : Nat} (h : i < 41) : (wsF G σ)[i]? = some (G.2.2 i, En G σ i) := by
  simp [wsF, h]
theorem g_out {G : Gt} {σ : Mem} {i : Nat} (h : ¬ i < 41) : (wsF G σ)[i]? = none := by
  simp [wsF]; omega
theorem g_at {G : Gt} {σ : Mem} {i K : Nat} (h : Ok i K) : (wsF G σ)[i]? = some (G.2.2 i, EnR G i K (σ.1 i) (σ.2 i)) := by
  rw [g_in h.1]
  unfold En
  rw [h.2]
theorem g_len {G : Gt} {σ : Mem} : (wsF G σ).length = 41 := by simp [wsF]
theorem g_set {G : Gt} {σ σ' : Mem} {i K : Nat} (h : Ok i K) {e : va_E} (h1 : EnR G i K (σ'.1 i) (σ'.2 i) = e) (h2 : ∀ j, j ≠ i → σ'.1 j = σ.1 j ∧ σ'.2 j = σ.2 j) : (wsF G σ).set i (G.2.2 i, e) = wsF G σ' := by
  apply List.ext_getElem?
  intro j
  by_cases hj : j = i
  · subst hj
    rw [g_at h, h1, List.getElem?_set_self (by rw [g_len]; exact h.1)]
  · rw [List.getElem?_set_ne (Ne.symm hj)]
    by_cases hl : j < 41
    · rw [g_in hl, g_in hl]
      unfold En
      rw [(h2 j hj).1, (h2 j hj).2]
    · rw [g_out hl, g_out hl]
theorem wi_at (σ : Mem) (i k : Nat) (v : Int32) : (wi σ i k v).1 i = upd (σ.1 i) k v := by simp [wi]
theorem wi_ne (σ : Mem) (i k : Nat) (v : Int32) {j : Nat} (h : j ≠ i) : (wi σ i k v).1 j = σ.1 j := by simp [wi, h]
theorem wr_at (σ : Mem) (i k v : Nat) : (wr σ i k v).2 i = va_up (σ.2 i) k v := by simp [wr]
theorem wr_ne (σ : Mem) (i k v : Nat) {j : Nat} (h : j ≠ i) : (wr σ i k v).2 j = σ.2 j := by simp [wr, h]
/-- contexts: the walk's judgement as a word of heap, places written, cells, slots and frame; the method; its locals; what the heap holds; what may change; the heap at the start; what the method owes -/
abbrev Xt (S : Type) : Type := (Heap → List Loc → Nat → Nat → JFrame → Prop) × MethodId × Nat × (S → Heap → Prop) × (Addr → Prop) × Heap × ((Option Value ⊕ String) × S)
def strs : List (String × Nat × String) := [(RX5, 110, "no levels"), (RX5, 123, "no alarm so soon"), (RX5, 129, "too many people"), (RX5, 144, "the level is closed"), (RX5, 158, "people or the hoist are in the way"), (RX5, 171, "nobody may go there now"), (RX5, 186, "no such request is waiting"), (RX5, 196, "no such position"), (RX5, 203, "the clock would be too great"), (RX5, 236, "the request is neither waiting nor on its way"), (RX5, 241, "no trip for the request would end so soon"), (RX5, 264, " L"), (RX5, 266, "min"), (RX5, 271, "no such character"), (RX5, 277, "out of range"), (RX5, 279, "the surface is no level"), (RX5, 281, "no such level"), (RX5, 283, "the hoist has no trip"), (RX5, 285, "too many requests are waiting"), (RX5, 45, "not deeper than the level above"), (RX5, 55, "no more levels can be added"), (RX3, 36, "flight"), (RX3, 38, "down"), (RX3, 40, "up"), (RX3, 42, "ore"), (RX3, 44, "none")]
/-- what throwing needs of the JVM: two statics of Throwable, the texts, each exception's class castable to itself -/
def excs : List String := ["java/lang/IllegalArgumentException", "java/lang/IllegalStateException", "java/lang/IndexOutOfBoundsException", "java/lang/ArithmeticException", "java/lang/UnsupportedOperationException", "java/util/NoSuchElementException"]
def CS (U : State) : Prop := (∀ X ∈ excs, va_Nw (.castable X X) U) ∧ (∀ Y ∈ ["java/lang/RuntimeException", "java/lang/Exception", "java/lang/Throwable"], va_Nw (.declares (Bundle.initS Y)) U) ∧ ∀ E ∈ excs, ∀ T ∈ excs, E ≠ T → va_Nc E T U
theorem nw_warmD {y : MethodName} {s U : State} (hW : s.WarmedH U.vm) (hZ : va_Nw (.declares y) s) : va_Nw (.declares y) U := va_tabs rfl (rfl : (s.setVm U.vm).vm = U.vm) (by rw [Cond.declares_setVm hW.alike]; exact hZ)
theorem CS.warm {s U : State} (hW : s.WarmedH U.vm) (h : CS s) : CS U := ⟨fun X hX => va_Nw.warmC hW (h.1 X hX), fun Y hY => nw_warmD hW (h.2.1 Y hY), fun E hE T hT n => va_Nc.moved hW.alike (h.2.2 E hE T hT n)⟩
theorem CS.calling {U : State} {g : JFrame} {mk : MethodId} {a : Array Value} (h : CS U) : CS (U.calling g mk a) := CS.warm (U := U.calling g mk a) (State.WarmedH.refl U) h
def SR (U : State) : Prop := ∀ q ∈ strs, ∃ a, vk_R q.1 q.2.1 q.2.2 a U
def St (A : Nat → Prop) (U : State) (H : Heap) : Prop := vx_Zq Bundle.tN "UNASSIGNED_STACK" Bundle.steD A U H ∧ vx_Zq Bundle.tN "SUPPRESSED_SENTINEL" Bundle.listD A U H ∧ SR U ∧ CS U
theorem SR.warm {s U : State} (hW : s.WarmedH U.vm) (h : SR s) : SR U := fun q hq => by
  obtain ⟨a, ha⟩ := h q hq
  exact ⟨a, vk_R.warm hW ha⟩
theorem SR.same {u U : State} (hv : U.vm = u.vm) (h : SR u) : SR U := fun q hq => by
  obtain ⟨a, ha⟩ := h q hq
  exact ⟨a, vk_R.same hv ha⟩
def Cx {S : Type} (x : Xt S) (cc : ByteArray) (mL : Nat) (own : String) (ret : Option FieldType) (tab : List ExceptionTableEntry) (Ts : List Cond) (R : Room) (D : va_G) (tys : List (ClassId × FieldType)) : Prop :=
  ∃ (p : Program) (l : Launch) (e : Env) (s : State) (args : Array Value) (below : List Frame) (meth : Method) (c : Code) (Qc : Array Value → State → Outcome → State → Prop) (XC : String → State → State → Prop) (free : Addr → Prop),
    (∀ H locs k n g, x.1 H locs k n g ↔ W p l e R s x.2.1 args below meth c H locs k n (vx_MQ below Qc XC args s R.cells R.slots free) g) ∧
    p.tables.exec = Jvm.exec ∧ c.code = cc ∧ c.maxLocals = mL ∧ x.2.2.1 = mL ∧ (∀ w ∈ Ts, w.before args s = true) ∧ s.vm.findClass own = some x.2.1.cls ∧ va_K D vwCl tys s ∧
    meth.sig.returnType = ret ∧ meth.locks = false ∧ c.exceptionTable.toList = tab ∧ l.stackTraces = false ∧ x.2.2.2.2.2.1 = s.heap ∧ St x.2.2.2.2.1 s s.heap ∧
    (∀ (v : Option Value) (σ : S) (H : Heap) (locs : List Loc), x.2.2.2.2.2.2 = (.inl v, σ) → x.2.2.2.1 σ H → va_S x.2.2.2.2.1 s.heap H locs → (∀ t : State, t.heap = H → s.WarmedH t.vm → Qc args s (.returned v) t) ∧ ∀ q ∈ locs, free q.base) ∧
    (∀ (E : String) (σ : S) (H : Heap) (locs : List Loc), x.2.2.2.2.2.2 = (.inr E, σ) → x.2.2.2.1 σ H → va_S x.2.2.2.2.1 s.heap H locs → (∀ t : State, s.vm.Alike t.vm → H.size ≤ t.heap.size → (∀ q : Nat, q < H.size → t.heap[q]? = H[q]?) → XC E s t) ∧ ∀ q ∈ locs, free q.base)
/-- the fixed world -/
def Wx (x : Xt Mem) (G : Gt) : Prop := (∀ σ H, x.2.2.2.1 σ H ↔ va_P G.1 vwCl (wsF G σ) H) ∧ (∀ i j, i < 41 → j < 41 → G.2.2 i = G.2.2 j → i = j) ∧ (∀ i, i < 41 → x.2.2.2.2.1 (G.2.2 i)) ∧ (∀ q : Nat, x.2.2.2.2.2.1.size ≤ q → x.2.2.2.2.1 q)
theorem Wx.D {x : Xt Mem} {G : Gt} (h : Wx x G) (σ : Mem) : va_D x.2.2.2.2.1 (wsF G σ) := by
  refine ⟨fun i j a b ha hb hab => ?_, fun k q hq => ?_⟩
  · by_cases hi : i < 41
    · by_cases hj : j < 41
      · rw [g_in hi] at ha
        rw [g_in hj] at hb
        cases ha
        cases hb
        exact h.2.1 i j hi hj hab
      · rw [g_out hj] at hb
        cases hb
    · rw [g_out hi] at ha
      cases ha
  · by_cases hk : k < 41
    · rw [g_in hk] at hq
      cases hq
      exact h.2.2.1 k hk
    · rw [g_out hk] at hq
      cases hq
def J {S : Type} (x : Xt S) (lo : List (Nat × Value)) (st : List Value) (σ : S) (pc k n : Nat) : Prop :=
  ∀ (H : Heap) (locs : List Loc) (ls : Array Slot), lv_has ls x.2.2.1 lo → x.2.2.2.1 σ H → va_S x.2.2.2.2.1 x.2.2.2.2.2.1 H locs → x.1 H locs k n (F0 x.2.1 pc ls st)
section JROWS
variable {S : Type} {x : Xt S} {cc : ByteArray} {mL : Nat} {own : String} {ret : Option FieldType} {tab : List ExceptionTableEntry} {Ts : List Cond} {R : Room} {D : va_G} {tys : List (ClassId × FieldType)} {lo lo' : List (Nat × Value)} {st : List Value} {σ : S} {pc kc ns : Nat}
abbrev lset (lo : List (Nat × Value)) (i : Nat) (v : Value) : List (Nat × Value) := (i, v) :: lo.filter (fun q => !(q.1 == i) && !(q.1 + 1 == i && q.2.category == 2))
theorem lv_lset {ls : Array Slot} {nL : Nat} (hl : lv_has ls nL lo) : lv_has ls nL lo := hl

theorem j_iconst (C : Cx x cc mL own ret tab Ts R D tys) {m : Int} (d : decode cc pc = .ok (.iconst m, 1)) (v : Int32) (hv : Int32.ofInt m = v) (k0 : J x lo (.int v :: st) σ (pc + 1) kc ns) : J x lo st σ pc kc ns := by
  obtain ⟨p, l, e, s, args, below, meth, c, Qc, XC, free, hω, hx, hb, hml, hn, hts, hown, hK, hr, hlk, htab, hst, hH0, hSt, hRet, hThr⟩ := C
  intro H locs ls hl hP hS
  refine (hω _ _ _ _ _).mpr ?_
  exact lv_iconst hx hb d hv ((hω _ _ _ _ _).mp (k0 H locs ls hl hP hS))
theorem j_bipush (C : Cx x cc mL own ret tab Ts R D tys) {m : Int} (d : decode cc pc = .ok (.bipush m, 2)) (v : Int32) (hv : (Int8.ofInt m).toInt32 = v) (k0 : J x lo (.int v :: st) σ (pc + 2) kc ns) : J x lo st σ pc kc ns := by
  obtain ⟨p, l, e, s, args, below, meth, c, Qc, XC, free, hω, hx, hb, hml, hn, hts, hown, hK, hr, hlk, htab, hst, hH0, hSt, hRet, hThr⟩ := C
  intro H locs ls hl hP hS
  refine (hω _ _ _ _ _).mpr ?_
  exact lv_bipush hx hb d hv ((hω _ _ _ _ _).mp (k0 H locs ls hl hP hS))
theorem j_sipush (C : Cx x cc mL own ret tab Ts R D tys) {m : Int} (d : decode cc pc = .ok (.sipush m, 3)) (v : Int32) (hv : (Int16.ofInt m).toInt32 = v) (k0 : J x lo (.int v :: st) σ (pc + 3) kc ns) : J x lo st σ pc kc ns := by
  obtain ⟨p, l, e, s, args, below, meth, c, Qc, XC, free, hω, hx, hb, hml, hn, hts, hown, hK, hr, hlk, htab, hst, hH0, hSt, hRet, hThr⟩ := C
  intro H locs ls hl hP hS
  refine (hω _ _ _ _ _).mpr ?_
  exact lv_sipush hx hb d hv ((hω _ _ _ _ _).mp (k0 H locs ls hl hP hS))
theorem j_lconst (C : Cx x cc mL own ret tab Ts R D tys) {m : Fin 2} (d : decode cc pc = .ok (.lconst m, 1)) (v : Int64) (hv : Int64.ofNat m = v) (k0 : J x lo (.long v :: st) σ (pc + 1) kc ns) : J x lo st σ pc kc ns := by
  obtain ⟨p, l, e, s, args, below, meth, c, Qc, XC, free, hω, hx, hb, hml, hn, hts, hown, hK, hr, hlk, htab, hst, hH0, hSt, hRet, hThr⟩ := C
  intro H locs ls hl hP hS
  refine (hω _ _ _ _ _).mpr ?_
  exact lv_lconst hx hb d hv ((hω _ _ _ _ _).mp (k0 H locs ls hl hP hS))
theorem j_iload_n (C : Cx x cc mL own ret tab Ts R D tys) {q : Fin 4} {a : Int32} (d : decode cc pc = .ok (.iload_n q, 1)) (i : Nat) (h : lo[i]? = some ((q : Nat), .int a)) (k0 : J x lo (.int a :: st) σ (pc + 1) kc ns) : J x lo st σ pc kc ns := by
  obtain ⟨p, l, e, s, args, below, meth, c, Qc, XC, free, hω, hx, hb, hml, hn, hts, hown, hK, hr, hlk, htab, hst, hH0, hSt, hRet, hThr⟩ := C
  intro H locs ls hl hP hS
  refine (hω _ _ _ _ _).mpr ?_
  exact lv_iload_n hx hb d rfl (lv_at hl i h) ((hω _ _ _ _ _).mp (k0 H locs ls hl hP hS))
theorem j_iload (C : Cx x cc mL own ret tab Ts R D tys) {q : Nat} {a : Int32} (d : decode cc pc = .ok (.iload q, 2)) (i : Nat) (h : lo[i]? = some (q, .int a)) (k0 : J x lo (.int a :: st) σ (pc + 2) kc ns) : J x lo st σ pc kc ns := by
  obtain ⟨p, l, e, s, args, below, meth, c, Qc, XC, free, hω, hx, hb, hml, hn, hts, hown, hK, hr, hlk, htab, hst, hH0, hSt, hRet, hThr⟩ := C
  intro H locs ls hl hP hS
  refine (hω _ _ _ _ _).mpr ?_
  exact lv_iload hx hb d (lv_at hl i h) ((hω _ _ _ _ _).mp (k0 H locs ls hl hP hS))
theorem j_aload_n (C : Cx x cc mL own ret tab Ts R D tys) {q : Fin 4} {a : Nat} (d : decode cc pc = .ok (.aload_n q, 1)) (i : Nat) (h : lo[i]? = some ((q : Nat), .ref a)) (k0 : J x lo (.ref a :: st) σ (pc + 1) kc ns) : J x lo st σ pc kc ns := by
  obtain ⟨p, l, e, s, args, below, meth, c, Qc, XC, free, hω, hx, hb, hml, hn, hts, hown, hK, hr, hlk, htab, hst, hH0, hSt, hRet, hThr⟩ := C
  intro H locs ls hl hP hS
  refine (hω _ _ _ _ _).mpr ?_
  exact lv_aload_n hx hb d rfl (lv_at hl i h) ((hω _ _ _ _ _).mp (k0 H locs ls hl hP hS))
theorem j_aload (C : Cx x cc mL own ret tab Ts R D tys) {q : Nat} {a : Nat} (d : decode cc pc = .ok (.aload q, 2)) (i : Nat) (h : lo[i]? = some (q, .ref a)) (k0 : J x lo (.ref a :: st) σ (pc + 2) kc ns) : J x lo st σ pc kc ns := by
  obtain ⟨p, l, e, s, args, below, meth, c, Qc, XC, free, hω, hx, hb, hml, hn, hts, hown, hK, hr, hlk, htab, hst, hH0, hSt, hRet, hThr⟩ := C
  intro H locs ls hl hP hS
  refine (hω _ _ _ _ _).mpr ?_
  exact lv_aload hx hb d (lv_at hl i h) ((hω _ _ _ _ _).mp (k0 H locs ls hl hP hS))
theorem j_istore_n (C : Cx x cc mL own ret tab Ts R D tys) {q : Fin 4} {a : Int32} (d : decode cc pc = .ok (.istore_n q, 1)) (h : (q : Nat) < mL) (lo' : List (Nat × Value)) (hlo : lset lo q (.int a) = lo') (k0 : J x lo' st σ (pc + 1) kc ns) : J x lo (.int a :: st) σ pc kc ns := by
  obtain ⟨p, l, e, s, args, below, meth, c, Qc, XC, free, hω, hx, hb, hml, hn, hts, hown, hK, hr, hlk, htab, hst, hH0, hSt, hRet, hThr⟩ := C
  intro H locs ls hl hP hS
  refine (hω _ _ _ _ _).mpr ?_
  exact lv_istore_n hx hb d rfl hl (by rw [hn]; exact h) hlo (fun ls hl => (hω _ _ _ _ _).mp (k0 H locs ls hl hP hS))
theorem j_istore (C : Cx x cc mL own ret tab Ts R D tys) {q : Nat} {a : Int32} (d : decode cc pc = .ok (.istore q, 2)) (h : (q : Nat) < mL) (lo' : List (Nat × Value)) (hlo : lset lo q (.int a) = lo') (k0 : J x lo' st σ (pc + 2) kc ns) : J x lo (.int a :: st) σ pc kc ns := by
  obtain ⟨p, l, e, s, args, below, meth, c, Qc, XC, free, hω, hx, hb, hml, hn, hts, hown, hK, hr, hlk, htab, hst, hH0, hSt, hRet, hThr⟩ := C
  intro H locs ls hl hP hS
  refine (hω _ _ _ _ _).mpr ?_
  exact lv_istore hx hb d hl (by rw [hn]; exact h) hlo (fun ls hl => (hω _ _ _ _ _).mp (k0 H locs ls hl hP hS))
theorem j_astore_n (C : Cx x cc mL own ret tab Ts R D tys) {q : Fin 4} {a : Nat} (d : decode cc pc = .ok (.astore_n q, 1)) (h : (q : Nat) < mL) (lo' : List (Nat × Value)) (hlo : lset lo q (.ref a) = lo') (k0 : J x lo' st σ (pc + 1) kc ns) : J x lo (.ref a :: st) σ pc kc ns := by
  obtain ⟨p, l, e, s, args, below, meth, c, Qc, XC, free, hω, hx, hb, hml, hn, hts, hown, hK, hr, hlk, htab, hst, hH0, hSt, hRet, hThr⟩ := C
  intro H locs ls hl hP hS
  refine (hω _ _ _ _ _).mpr ?_
  exact lv_astore_n hx hb d rfl hl (by rw [hn]; exact h) hlo (fun ls hl => (hω _ _ _ _ _).mp (k0 H locs ls hl hP hS))
theorem j_astore (C : Cx x cc mL own ret tab Ts R D tys) {q : Nat} {a : Nat} (d : decode cc pc = .ok (.astore q, 2)) (h : (q : Nat) < mL) (lo' : List (Nat × Value)) (hlo : lset lo q (.ref a) = lo') (k0 : J x lo' st σ (pc + 2) kc ns) : J x lo (.ref a :: st) σ pc kc ns := by
  obtain ⟨p, l, e, s, args, below, meth, c, Qc, XC, free, hω, hx, hb, hml, hn, hts, hown, hK, hr, hlk, htab, hst, hH0, hSt, hRet, hThr⟩ := C
  intro H locs ls hl hP hS
  refine (hω _ _ _ _ _).mpr ?_
  exact lv_astore hx hb d hl (by rw [hn]; exact h) hlo (fun ls hl => (hω _ _ _ _ _).mp (k0 H locs ls hl hP hS))
theorem j_iinc (C : Cx x cc mL own ret tab Ts R D tys) {q : Nat} {m : Int} {a : Int32} (d : decode cc pc = .ok (.iinc q m, 3)) (i : Nat) (hq : lo[i]? = some (q, .int a)) (v : Int32) (hv : Int32.ofInt m = v) (h : q < mL) (lo' : List (Nat × Value)) (hlo : lset lo q (.int (a + v)) = lo') (k0 : J x lo' st σ (pc + 3) kc ns) : J x lo st σ pc kc ns := by
  obtain ⟨p, l, e, s, args, below, meth, c, Qc, XC, free, hω, hx, hb, hml, hn, hts, hown, hK, hr, hlk, htab, hst, hH0, hSt, hRet, hThr⟩ := C
  intro H locs ls hl hP hS
  refine (hω _ _ _ _ _).mpr ?_
  exact lv_iinc hx hb d hl (k := i) hq (by rw [hv]) (by rw [hn]; exact h) hlo (fun ls hl => (hω _ _ _ _ _).mp (k0 H locs ls hl hP hS))
theorem j_iadd (C : Cx x cc mL own ret tab Ts R D tys) {a b : Int32} (d : decode cc pc = .ok (.iadd, 1))  (k0 : J x lo (.int (a + b) :: st) σ (pc + 1) kc ns) : J x lo (.int b :: .int a :: st) σ pc kc ns := by
  obtain ⟨p, l, e, s, args, below, meth, c, Qc, XC, free, hω, hx, hb, hml, hn, hts, hown, hK, hr, hlk, htab, hst, hH0, hSt, hRet, hThr⟩ := C
  intro H locs ls hl hP hS
  refine (hω _ _ _ _ _).mpr ?_
  exact lv_iadd hx hb d ((hω _ _ _ _ _).mp (k0 H locs ls hl hP hS))
theorem j_isub (C : Cx x cc mL own ret tab Ts R D tys) {a b : Int32} (d : decode cc pc = .ok (.isub, 1))  (k0 : J x lo (.int (a - b) :: st) σ (pc + 1) kc ns) : J x lo (.int b :: .int a :: st) σ pc kc ns := by
  obtain ⟨p, l, e, s, args, below, meth, c, Qc, XC, free, hω, hx, hb, hml, hn, hts, hown, hK, hr, hlk, htab, hst, hH0, hSt, hRet, hThr⟩ := C
  intro H locs ls hl hP hS
  refine (hω _ _ _ _ _).mpr ?_
  exact lv_isub hx hb d ((hω _ _ _ _ _).mp (k0 H locs ls hl hP hS))
theorem j_imul (C : Cx x cc mL own ret tab Ts R D tys) {a b : Int32} (d : decode cc pc = .ok (.imul, 1))  (k0 : J x lo (.int (a * b) :: st) σ (pc + 1) kc ns) : J x lo (.int b :: .int a :: st) σ pc kc ns := by
  obtain ⟨p, l, e, s, args, below, meth, c, Qc, XC, free, hω, hx, hb, hml, hn, hts, hown, hK, hr, hlk, htab, hst, hH0, hSt, hRet, hThr⟩ := C
  intro H locs ls hl hP hS
  refine (hω _ _ _ _ _).mpr ?_
  exact lv_imul hx hb d ((hω _ _ _ _ _).mp (k0 H locs ls hl hP hS))
theorem j_iand (C : Cx x cc mL own ret tab Ts R D tys) {a b : Int32} (d : decode cc pc = .ok (.iand, 1))  (k0 : J x lo (.int (a &&& b) :: st) σ (pc + 1) kc ns) : J x lo (.int b :: .int a :: st) σ pc kc ns := by
  obtain ⟨p, l, e, s, args, below, meth, c, Qc, XC, free, hω, hx, hb, hml, hn, hts, hown, hK, hr, hlk, htab, hst, hH0, hSt, hRet, hThr⟩ := C
  intro H locs ls hl hP hS
  refine (hω _ _ _ _ _).mpr ?_
  exact lv_iand hx hb d ((hω _ _ _ _ _).mp (k0 H locs ls hl hP hS))
theorem j_ineg (C : Cx x cc mL own ret tab Ts R D tys) {a : Int32} (d : decode cc pc = .ok (.ineg, 1))  (k0 : J x lo (.int (-a) :: st) σ (pc + 1) kc ns) : J x lo (.int a :: st) σ pc kc ns := by
  obtain ⟨p, l, e, s, args, below, meth, c, Qc, XC, free, hω, hx, hb, hml, hn, hts, hown, hK, hr, hlk, htab, hst, hH0, hSt, hRet, hThr⟩ := C
  intro H locs ls hl hP hS
  refine (hω _ _ _ _ _).mpr ?_
  exact lv_ineg hx hb d ((hω _ _ _ _ _).mp (k0 H locs ls hl hP hS))
theorem j_idiv (C : Cx x cc mL own ret tab Ts R D tys) {a b : Int32} (d : decode cc pc = .ok (.idiv, 1)) (h : ¬ b = 0) (k0 : J x lo (.int (a / b) :: st) σ (pc + 1) kc ns) : J x lo (.int b :: .int a :: st) σ pc kc ns := by
  obtain ⟨p, l, e, s, args, below, meth, c, Qc, XC, free, hω, hx, hb, hml, hn, hts, hown, hK, hr, hlk, htab, hst, hH0, hSt, hRet, hThr⟩ := C
  intro H locs ls hl hP hS
  refine (hω _ _ _ _ _).mpr ?_
  exact lv_idiv hx hb d h ((hω _ _ _ _ _).mp (k0 H locs ls hl hP hS))
theorem j_i2l (C : Cx x cc mL own ret tab Ts R D tys) {a : Int32} (d : decode cc pc = .ok (.i2l, 1))  (k0 : J x lo (.long a.toInt64 :: st) σ (pc + 1) kc ns) : J x lo (.int a :: st) σ pc kc ns := by
  obtain ⟨p, l, e, s, args, below, meth, c, Qc, XC, free, hω, hx, hb, hml, hn, hts, hown, hK, hr, hlk, htab, hst, hH0, hSt, hRet, hThr⟩ := C
  intro H locs ls hl hP hS
  refine (hω _ _ _ _ _).mpr ?_
  exact lv_i2l hx hb d rfl ((hω _ _ _ _ _).mp (k0 H locs ls hl hP hS))
theorem j_i2c (C : Cx x cc mL own ret tab Ts R D tys) {a : Int32} (d : decode cc pc = .ok (.i2c, 1))  (k0 : J x lo (.int (a.toUInt32 % 65536).toInt32 :: st) σ (pc + 1) kc ns) : J x lo (.int a :: st) σ pc kc ns := by
  obtain ⟨p, l, e, s, args, below, meth, c, Qc, XC, free, hω, hx, hb, hml, hn, hts, hown, hK, hr, hlk, htab, hst, hH0, hSt, hRet, hThr⟩ := C
  intro H locs ls hl hP hS
  refine (hω _ _ _ _ _).mpr ?_
  exact lv_i2c hx hb d rfl ((hω _ _ _ _ _).mp (k0 H locs ls hl hP hS))
theorem j_dup (C : Cx x cc mL own ret tab Ts R D tys) {a : Value} (d : decode cc pc = .ok (.dup, 1)) (h : a.category = 1) (k0 : J x lo (a :: a :: st) σ (pc + 1) kc ns) : J x lo (a :: st) σ pc kc ns := by
  obtain ⟨p, l, e, s, args, below, meth, c, Qc, XC, free, hω, hx, hb, hml, hn, hts, hown, hK, hr, hlk, htab, hst, hH0, hSt, hRet, hThr⟩ := C
  intro H locs ls hl hP hS
  refine (hω _ _ _ _ _).mpr ?_
  exact lv_dup hx hb d h ((hω _ _ _ _ _).mp (k0 H locs ls hl hP hS))
theorem j_pop (C : Cx x cc mL own ret tab Ts R D tys) {a : Value} (d : decode cc pc = .ok (.pop, 1)) (h : a.category = 1) (k0 : J x lo st σ (pc + 1) kc ns) : J x lo (a :: st) σ pc kc ns := by
  obtain ⟨p, l, e, s, args, below, meth, c, Qc, XC, free, hω, hx, hb, hml, hn, hts, hown, hK, hr, hlk, htab, hst, hH0, hSt, hRet, hThr⟩ := C
  intro H locs ls hl hP hS
  refine (hω _ _ _ _ _).mpr ?_
  exact lv_pop hx hb d h ((hω _ _ _ _ _).mp (k0 H locs ls hl hP hS))
theorem j_dup2 (C : Cx x cc mL own ret tab Ts R D tys) {a b : Value} (d : decode cc pc = .ok (.dup2, 1)) (h : a.category = 1) (h2 : b.category = 1) (k0 : J x lo (a :: b :: a :: b :: st) σ (pc + 1) kc ns) : J x lo (a :: b :: st) σ pc kc ns := by
  obtain ⟨p, l, e, s, args, below, meth, c, Qc, XC, free, hω, hx, hb, hml, hn, hts, hown, hK, hr, hlk, htab, hst, hH0, hSt, hRet, hThr⟩ := C
  intro H locs ls hl hP hS
  refine (hω _ _ _ _ _).mpr ?_
  exact lv_dup2_11 hx hb d h h2 ((hω _ _ _ _ _).mp (k0 H locs ls hl hP hS))
theorem j_icmp_eq (C : Cx x cc mL own ret tab Ts R D tys) {a b : Int32} {off : Int} (d : decode cc pc = .ok (.if_icmp .eq off, 3)) (tgt : Nat) (ht : (pc : Int) + off = (tgt : Int)) (k0 : a = b → J x lo st σ tgt kc ns) (k1 : ¬ a = b → J x lo st σ (pc + 3) kc ns) : J x lo (.int b :: .int a :: st) σ pc kc ns := by
  obtain ⟨p, l, e, s, args, below, meth, c, Qc, XC, free, hω, hx, hb, hml, hn, hts, hown, hK, hr, hlk, htab, hst, hH0, hSt, hRet, hThr⟩ := C
  intro H locs ls hl hP hS
  refine (hω _ _ _ _ _).mpr ?_
  exact lv_icmp_eq hx hb d ht (fun z => (hω _ _ _ _ _).mp (k0 z H locs ls hl hP hS)) (fun z => (hω _ _ _ _ _).mp (k1 z H locs ls hl hP hS))
theorem j_icmp_ne (C : Cx x cc mL own ret tab Ts R D tys) {a b : Int32} {off : Int} (d : decode cc pc = .ok (.if_icmp .ne off, 3)) (tgt : Nat) (ht : (pc : Int) + off = (tgt : Int)) (k0 : ¬ a = b → J x lo st σ tgt kc ns) (k1 : a = b → J x lo st σ (pc + 3) kc ns) : J x lo (.int b :: .int a :: st) σ pc kc ns := by
  obtain ⟨p, l, e, s, args, below, meth, c, Qc, XC, free, hω, hx, hb, hml, hn, hts, hown, hK, hr, hlk, htab, hst, hH0, hSt, hRet, hThr⟩ := C
  intro H locs ls hl hP hS
  refine (hω _ _ _ _ _).mpr ?_
  exact lv_icmp_ne hx hb d ht (fun z => (hω _ _ _ _ _).mp (k0 z H locs ls hl hP hS)) (fun z => (hω _ _ _ _ _).mp (k1 z H locs ls hl hP hS))
theorem j_icmp_lt (C : Cx x cc mL own ret tab Ts R D tys) {a b : Int32} {off : Int} (d : decode cc pc = .ok (.if_icmp .lt off, 3)) (tgt : Nat) (ht : (pc : Int) + off = (tgt : Int)) (k0 : a < b → J x lo st σ tgt kc ns) (k1 : ¬ a < b → J x lo st σ (pc + 3) kc ns) : J x lo (.int b :: .int a :: st) σ pc kc ns := by
  obtain ⟨p, l, e, s, args, below, meth, c, Qc, XC, free, hω, hx, hb, hml, hn, hts, hown, hK, hr, hlk, htab, hst, hH0, hSt, hRet, hThr⟩ := C
  intro H locs ls hl hP hS
  refine (hω _ _ _ _ _).mpr ?_
  exact lv_icmp_lt hx hb d ht (fun z => (hω _ _ _ _ _).mp (k0 z H locs ls hl hP hS)) (fun z => (hω _ _ _ _ _).mp (k1 z H locs ls hl hP hS))
theorem j_icmp_ge (C : Cx x cc mL own ret tab Ts R D tys) {a b : Int32} {off : Int} (d : decode cc pc = .ok (.if_icmp .ge off, 3)) (tgt : Nat) (ht : (pc : Int) + off = (tgt : Int)) (k0 : b ≤ a → J x lo st σ tgt kc ns) (k1 : ¬ b ≤ a → J x lo st σ (pc + 3) kc ns) : J x lo (.int b :: .int a :: st) σ pc kc ns := by
  obtain ⟨p, l, e, s, args, below, meth, c, Qc, XC, free, hω, hx, hb, hml, hn, hts, hown, hK, hr, hlk, htab, hst, hH0, hSt, hRet, hThr⟩ := C
  intro H locs ls hl hP hS
  refine (hω _ _ _ _ _).mpr ?_
  exact lv_icmp_ge hx hb d ht (fun z => (hω _ _ _ _ _).mp (k0 z H locs ls hl hP hS)) (fun z => (hω _ _ _ _ _).mp (k1 z H locs ls hl hP hS))
theorem j_icmp_gt (C : Cx x cc mL own ret tab Ts R D tys) {a b : Int32} {off : Int} (d : decode cc pc = .ok (.if_icmp .gt off, 3)) (tgt : Nat) (ht : (pc : Int) + off = (tgt : Int)) (k0 : b < a → J x lo st σ tgt kc ns) (k1 : ¬ b < a → J x lo st σ (pc + 3) kc ns) : J x lo (.int b :: .int a :: st) σ pc kc ns := by
  obtain ⟨p, l, e, s, args, below, meth, c, Qc, XC, free, hω, hx, hb, hml, hn, hts, hown, hK, hr, hlk, htab, hst, hH0, hSt, hRet, hThr⟩ := C
  intro H locs ls hl hP hS
  refine (hω _ _ _ _ _).mpr ?_
  exact lv_icmp_gt hx hb d ht (fun z => (hω _ _ _ _ _).mp (k0 z H locs ls hl hP hS)) (fun z => (hω _ _ _ _ _).mp (k1 z H locs ls hl hP hS))
theorem j_icmp_le (C : Cx x cc mL own ret tab Ts R D tys) {a b : Int32} {off : Int} (d : decode cc pc = .ok (.if_icmp .le off, 3)) (tgt : Nat) (ht : (pc : Int) + off = (tgt : Int)) (k0 : a ≤ b → J x lo st σ tgt kc ns) (k1 : ¬ a ≤ b → J x lo st σ (pc + 3) kc ns) : J x lo (.int b :: .int a :: st) σ pc kc ns := by
  obtain ⟨p, l, e, s, args, below, meth, c, Qc, XC, free, hω, hx, hb, hml, hn, hts, hown, hK, hr, hlk, htab, hst, hH0, hSt, hRet, hThr⟩ := C
  intro H locs ls hl hP hS
  refine (hω _ _ _ _ _).mpr ?_
  exact lv_icmp_le hx hb d ht (fun z => (hω _ _ _ _ _).mp (k0 z H locs ls hl hP hS)) (fun z => (hω _ _ _ _ _).mp (k1 z H locs ls hl hP hS))
theorem j_if_eq (C : Cx x cc mL own ret tab Ts R D tys) {a : Int32} {off : Int} (d : decode cc pc = .ok (.ifCond .eq off, 3)) (tgt : Nat) (ht : (pc : Int) + off = (tgt : Int)) (k0 : a = 0 → J x lo st σ tgt kc ns) (k1 : ¬ a = 0 → J x lo st σ (pc + 3) kc ns) : J x lo (.int a :: st) σ pc kc ns := by
  obtain ⟨p, l, e, s, args, below, meth, c, Qc, XC, free, hω, hx, hb, hml, hn, hts, hown, hK, hr, hlk, htab, hst, hH0, hSt, hRet, hThr⟩ := C
  intro H locs ls hl hP hS
  refine (hω _ _ _ _ _).mpr ?_
  exact lv_if_eq hx hb d ht (fun z => (hω _ _ _ _ _).mp (k0 z H locs ls hl hP hS)) (fun z => (hω _ _ _ _ _).mp (k1 z H locs ls hl hP hS))
theorem j_if_ne (C : Cx x cc mL own ret tab Ts R D tys) {a : Int32} {off : Int} (d : decode cc pc = .ok (.ifCond .ne off, 3)) (tgt : Nat) (ht : (pc : Int) + off = (tgt : Int)) (k0 : ¬ a = 0 → J x lo st σ tgt kc ns) (k1 : a = 0 → J x lo st σ (pc + 3) kc ns) : J x lo (.int a :: st) σ pc kc ns := by
  obtain ⟨p, l, e, s, args, below, meth, c, Qc, XC, free, hω, hx, hb, hml, hn, hts, hown, hK, hr, hlk, htab, hst, hH0, hSt, hRet, hThr⟩ := C
  intro H locs ls hl hP hS
  refine (hω _ _ _ _ _).mpr ?_
  exact lv_if_ne hx hb d ht (fun z => (hω _ _ _ _ _).mp (k0 z H locs ls hl hP hS)) (fun z => (hω _ _ _ _ _).mp (k1 z H locs ls hl hP hS))
theorem j_if_lt (C : Cx x cc mL own ret tab Ts R D tys) {a : Int32} {off : Int} (d : decode cc pc = .ok (.ifCond .lt off, 3)) (tgt : Nat) (ht : (pc : Int) + off = (tgt : Int)) (k0 : a < 0 → J x lo st σ tgt kc ns) (k1 : ¬ a < 0 → J x lo st σ (pc + 3) kc ns) : J x lo (.int a :: st) σ pc kc ns := by
  obtain ⟨p, l, e, s, args, below, meth, c, Qc, XC, free, hω, hx, hb, hml, hn, hts, hown, hK, hr, hlk, htab, hst, hH0, hSt, hRet, hThr⟩ := C
  intro H locs ls hl hP hS
  refine (hω _ _ _ _ _).mpr ?_
  exact lv_if_lt hx hb d ht (fun z => (hω _ _ _ _ _).mp (k0 z H locs ls hl hP hS)) (fun z => (hω _ _ _ _ _).mp (k1 z H locs ls hl hP hS))
theorem j_if_ge (C : Cx x cc mL own ret tab Ts R D tys) {a : Int32} {off : Int} (d : decode cc pc = .ok (.ifCond .ge off, 3)) (tgt : Nat) (ht : (pc : Int) + off = (tgt : Int)) (k0 : 0 ≤ a → J x lo st σ tgt kc ns) (k1 : ¬ 0 ≤ a → J x lo st σ (pc + 3) kc ns) : J x lo (.int a :: st) σ pc kc ns := by
  obtain ⟨p, l, e, s, args, below, meth, c, Qc, XC, free, hω, hx, hb, hml, hn, hts, hown, hK, hr, hlk, htab, hst, hH0, hSt, hRet, hThr⟩ := C
  intro H locs ls hl hP hS
  refine (hω _ _ _ _ _).mpr ?_
  exact lv_if_ge hx hb d ht (fun z => (hω _ _ _ _ _).mp (k0 z H locs ls hl hP hS)) (fun z => (hω _ _ _ _ _).mp (k1 z H locs ls hl hP hS))
theorem j_if_gt (C : Cx x cc mL own ret tab Ts R D tys) {a : Int32} {off : Int} (d : decode cc pc = .ok (.ifCond .gt off, 3)) (tgt : Nat) (ht : (pc : Int) + off = (tgt : Int)) (k0 : 0 < a → J x lo st σ tgt kc ns) (k1 : ¬ 0 < a → J x lo st σ (pc + 3) kc ns) : J x lo (.int a :: st) σ pc kc ns := by
  obtain ⟨p, l, e, s, args, below, meth, c, Qc, XC, free, hω, hx, hb, hml, hn, hts, hown, hK, hr, hlk, htab, hst, hH0, hSt, hRet, hThr⟩ := C
  intro H locs ls hl hP hS
  refine (hω _ _ _ _ _).mpr ?_
  exact lv_if_gt hx hb d ht (fun z => (hω _ _ _ _ _).mp (k0 z H locs ls hl hP hS)) (fun z => (hω _ _ _ _ _).mp (k1 z H locs ls hl hP hS))
theorem j_if_le (C : Cx x cc mL own ret tab Ts R D tys) {a : Int32} {off : Int} (d : decode cc pc = .ok (.ifCond .le off, 3)) (tgt : Nat) (ht : (pc : Int) + off = (tgt : Int)) (k0 : a ≤ 0 → J x lo st σ tgt kc ns) (k1 : ¬ a ≤ 0 → J x lo st σ (pc + 3) kc ns) : J x lo (.int a :: st) σ pc kc ns := by
  obtain ⟨p, l, e, s, args, below, meth, c, Qc, XC, free, hω, hx, hb, hml, hn, hts, hown, hK, hr, hlk, htab, hst, hH0, hSt, hRet, hThr⟩ := C
  intro H locs ls hl hP hS
  refine (hω _ _ _ _ _).mpr ?_
  exact lv_if_le hx hb d ht (fun z => (hω _ _ _ _ _).mp (k0 z H locs ls hl hP hS)) (fun z => (hω _ _ _ _ _).mp (k1 z H locs ls hl hP hS))
theorem j_goto (C : Cx x cc mL own ret tab Ts R D tys) {off : Int} (d : decode cc pc = .ok (.goto off, 3)) (tgt : Nat) (ht : (pc : Int) + off = (tgt : Int)) (k0 : J x lo st σ tgt kc ns) : J x lo st σ pc kc ns := by
  obtain ⟨p, l, e, s, args, below, meth, c, Qc, XC, free, hω, hx, hb, hml, hn, hts, hown, hK, hr, hlk, htab, hst, hH0, hSt, hRet, hThr⟩ := C
  intro H locs ls hl hP hS
  refine (hω _ _ _ _ _).mpr ?_
  exact lv_goto hx hb d ht ((hω _ _ _ _ _).mp (k0 H locs ls hl hP hS))
theorem j_lcmp (C : Cx x cc mL own ret tab Ts R D tys) {a b : Int64} (d : decode cc pc = .ok (.lcmp, 1))  (k0 : J x lo (.int (lg_cmp a b) :: st) σ (pc + 1) kc ns) : J x lo (.long b :: .long a :: st) σ pc kc ns := by
  obtain ⟨p, l, e, s, args, below, meth, c, Qc, XC, free, hω, hx, hb, hml, hn, hts, hown, hK, hr, hlk, htab, hst, hH0, hSt, hRet, hThr⟩ := C
  intro H locs ls hl hP hS
  refine (hω _ _ _ _ _).mpr ?_
  exact W.lcmp hx hb d ((hω _ _ _ _ _).mp (k0 H locs ls hl hP hS))
theorem j_null (C : Cx x cc mL own ret tab Ts R D tys)  (d : decode cc pc = .ok (.aconst_null, 1))  (k0 : J x lo (.null :: st) σ (pc + 1) kc ns) : J x lo st σ pc kc ns := by
  obtain ⟨p, l, e, s, args, below, meth, c, Qc, XC, free, hω, hx, hb, hml, hn, hts, hown, hK, hr, hlk, htab, hst, hH0, hSt, hRet, hThr⟩ := C
  intro H locs ls hl hP hS
  refine (hω _ _ _ _ _).mpr ?_
  exact lv_null hx hb d ((hω _ _ _ _ _).mp (k0 H locs ls hl hP hS))
theorem j_ifnonnull (C : Cx x cc mL own ret tab Ts R D tys) {a : Nat} {off : Int} (d : decode cc pc = .ok (.ifnonnull off, 3)) (tgt : Nat) (ht : (pc : Int) + off = (tgt : Int)) (k0 : J x lo st σ tgt kc ns) : J x lo (.ref a :: st) σ pc kc ns := by
  obtain ⟨p, l, e, s, args, below, meth, c, Qc, XC, free, hω, hx, hb, hml, hn, hts, hown, hK, hr, hlk, htab, hst, hH0, hSt, hRet, hThr⟩ := C
  intro H locs ls hl hP hS
  refine (hω _ _ _ _ _).mpr ?_
  exact lv_ifnonnull hx hb d ht ((hω _ _ _ _ _).mp (k0 H locs ls hl hP hS))
theorem j_ifnonnullN (C : Cx x cc mL own ret tab Ts R D tys) {off : Int} (d : decode cc pc = .ok (.ifnonnull off, 3))  (k0 : J x lo st σ (pc + 3) kc ns) : J x lo (.null :: st) σ pc kc ns := by
  obtain ⟨p, l, e, s, args, below, meth, c, Qc, XC, free, hω, hx, hb, hml, hn, hts, hown, hK, hr, hlk, htab, hst, hH0, hSt, hRet, hThr⟩ := C
  intro H locs ls hl hP hS
  refine (hω _ _ _ _ _).mpr ?_
  exact lv_ifnonnullN hx hb d ((hω _ _ _ _ _).mp (k0 H locs ls hl hP hS))
theorem j_aloadN (C : Cx x cc mL own ret tab Ts R D tys) {q : Nat} (d : decode cc pc = .ok (.aload q, 2)) (i : Nat) (h : lo[i]? = some (q, .null)) (k0 : J x lo (.null :: st) σ (pc + 2) kc ns) : J x lo st σ pc kc ns := by
  obtain ⟨p, l, e, s, args, below, meth, c, Qc, XC, free, hω, hx, hb, hml, hn, hts, hown, hK, hr, hlk, htab, hst, hH0, hSt, hRet, hThr⟩ := C
  intro H locs ls hl hP hS
  refine (hω _ _ _ _ _).mpr ?_
  exact lv_aloadN hx hb d (lv_at hl i h) ((hω _ _ _ _ _).mp (k0 H locs ls hl hP hS))
theorem j_aload_nN (C : Cx x cc mL own ret tab Ts R D tys) {q : Fin 4} (d : decode cc pc = .ok (.aload_n q, 1)) (i : Nat) (h : lo[i]? = some ((q : Nat), .null)) (k0 : J x lo (.null :: st) σ (pc + 1) kc ns) : J x lo st σ pc kc ns := by
  obtain ⟨p, l, e, s, args, below, meth, c, Qc, XC, free, hω, hx, hb, hml, hn, hts, hown, hK, hr, hlk, htab, hst, hH0, hSt, hRet, hThr⟩ := C
  intro H locs ls hl hP hS
  refine (hω _ _ _ _ _).mpr ?_
  exact lv_aload_nN hx hb d rfl (lv_at hl i h) ((hω _ _ _ _ _).mp (k0 H locs ls hl hP hS))
theorem j_astore_nN (C : Cx x cc mL own ret tab Ts R D tys) {q : Fin 4} (d : decode cc pc = .ok (.astore_n q, 1)) (h : (q : Nat) < mL) (lo' : List (Nat × Value)) (hlo : lset lo q .null = lo') (k0 : J x lo' st σ (pc + 1) kc ns) : J x lo (.null :: st) σ pc kc ns := by
  obtain ⟨p, l, e, s, args, below, meth, c, Qc, XC, free, hω, hx, hb, hml, hn, hts, hown, hK, hr, hlk, htab, hst, hH0, hSt, hRet, hThr⟩ := C
  intro H locs ls hl hP hS
  refine (hω _ _ _ _ _).mpr ?_
  exact lv_astore_nN hx hb d rfl hl (by rw [hn]; exact h) hlo (fun ls hl => (hω _ _ _ _ _).mp (k0 H locs ls hl hP hS))
theorem j_astoreN (C : Cx x cc mL own ret tab Ts R D tys) {q : Nat} (d : decode cc pc = .ok (.astore q, 2)) (h : (q : Nat) < mL) (lo' : List (Nat × Value)) (hlo : lset lo q .null = lo') (k0 : J x lo' st σ (pc + 2) kc ns) : J x lo (.null :: st) σ pc kc ns := by
  obtain ⟨p, l, e, s, args, below, meth, c, Qc, XC, free, hω, hx, hb, hml, hn, hts, hown, hK, hr, hlk, htab, hst, hH0, hSt, hRet, hThr⟩ := C
  intro H locs ls hl hP hS
  refine (hω _ _ _ _ _).mpr ?_
  exact lv_astoreN hx hb d hl (by rw [hn]; exact h) hlo (fun ls hl => (hω _ _ _ _ _).mp (k0 H locs ls hl hP hS))
theorem j_sub (is : List Nat) (lo' : List (Nat × Value)) (h : lv_pick lo is = lo') (k0 : J x lo' st σ pc kc ns) : J x lo st σ pc kc ns := fun H locs ls hl hP hS => k0 H locs ls (lv_sub hl is h) hP hS
theorem j_widen (C : Cx x cc mL own ret tab Ts R D tys) {k2 n2 : Nat} (h1 : kc ≤ k2) (h2 : ns ≤ n2) (k0 : J x lo st σ pc k2 n2) : J x lo st σ pc kc ns := by
  obtain ⟨p, l, e, s, args, below, meth, c, Qc, XC, free, hω, hx, hb, hml, hn, hts, hown, hK, hr, hlk, htab, hst, hH0, hSt, hRet, hThr⟩ := C
  intro H locs ls hl hP hS
  refine (hω _ _ _ _ _).mpr ?_
  exact W.widen h1 h2 ((hω _ _ _ _ _).mp (k0 H locs ls hl hP hS))
theorem j_i2d (C : Cx x cc mL own ret tab Ts R D tys) {a : Int32} (d : decode cc pc = .ok (.i2d, 1))  (k0 : J x lo (.double (FP.i2d a) :: st) σ (pc + 1) kc ns) : J x lo (.int a :: st) σ pc kc ns := by
  obtain ⟨p, l, e, s, args, below, meth, c, Qc, XC, free, hω, hx, hb, hml, hn, hts, hown, hK, hr, hlk, htab, hst, hH0, hSt, hRet, hThr⟩ := C
  intro H locs ls hl hP hS
  refine (hω _ _ _ _ _).mpr ?_
  exact lv_i2d hx hb d ((hω _ _ _ _ _).mp (k0 H locs ls hl hP hS))
theorem j_ddiv (C : Cx x cc mL own ret tab Ts R D tys) {a b : Int32} (d : decode cc pc = .ok (.ddiv, 1)) (h : vf_n64 (dq a b)) (k0 : J x lo (.double (dq a b) :: st) σ (pc + 1) kc ns) : J x lo (.double (FP.i2d b) :: .double (FP.i2d a) :: st) σ pc kc ns := by
  obtain ⟨p, l, e, s, args, below, meth, c, Qc, XC, free, hω, hx, hb, hml, hn, hts, hown, hK, hr, hlk, htab, hst, hH0, hSt, hRet, hThr⟩ := C
  intro H locs ls hl hP hS
  refine (hω _ _ _ _ _).mpr ?_
  exact lv_ddiv hx hb d h ((hω _ _ _ _ _).mp (k0 H locs ls hl hP hS))
theorem j_dconst0 (C : Cx x cc mL own ret tab Ts R D tys)  (d : decode cc pc = .ok (.dconst 0, 1))  (k0 : J x lo (.double 0 :: st) σ (pc + 1) kc ns) : J x lo st σ pc kc ns := by
  obtain ⟨p, l, e, s, args, below, meth, c, Qc, XC, free, hω, hx, hb, hml, hn, hts, hown, hK, hr, hlk, htab, hst, hH0, hSt, hRet, hThr⟩ := C
  intro H locs ls hl hP hS
  refine (hω _ _ _ _ _).mpr ?_
  exact lv_dconst0 hx hb d ((hω _ _ _ _ _).mp (k0 H locs ls hl hP hS))
theorem j_dcmp (C : Cx x cc mL own ret tab Ts R D tys) {a b : UInt64} {op : CmpOp} (d : decode cc pc = .ok (.dcmp op, 1))  (k0 : J x lo (.int (Op.cmpValue (FP.dcmp a b) op) :: st) σ (pc + 1) kc ns) : J x lo (.double b :: .double a :: st) σ pc kc ns := by
  obtain ⟨p, l, e, s, args, below, meth, c, Qc, XC, free, hω, hx, hb, hml, hn, hts, hown, hK, hr, hlk, htab, hst, hH0, hSt, hRet, hThr⟩ := C
  intro H locs ls hl hP hS
  refine (hω _ _ _ _ _).mpr ?_
  exact lv_dcmp hx hb d ((hω _ _ _ _ _).mp (k0 H locs ls hl hP hS))
theorem j_dload (C : Cx x cc mL own ret tab Ts R D tys) {q : Nat} {a : UInt64} (d : decode cc pc = .ok (.dload q, 2)) (i : Nat) (h : lo[i]? = some (q, .double a)) (k0 : J x lo (.double a :: st) σ (pc + 2) kc ns) : J x lo st σ pc kc ns := by
  obtain ⟨p, l, e, s, args, below, meth, c, Qc, XC, free, hω, hx, hb, hml, hn, hts, hown, hK, hr, hlk, htab, hst, hH0, hSt, hRet, hThr⟩ := C
  intro H locs ls hl hP hS
  refine (hω _ _ _ _ _).mpr ?_
  exact lv_dload hx hb d (lv_at hl i h) ((hω _ _ _ _ _).mp (k0 H locs ls hl hP hS))
theorem j_dstore (C : Cx x cc mL own ret tab Ts R D tys) {q : Nat} {a : UInt64} (d : decode cc pc = .ok (.dstore q, 2)) (h : q + 1 < mL) (lo' : List (Nat × Value)) (hlo : (q, Value.double a) :: lo.filter (fun z => !(z.1 == q) && (!(z.1 == q + 1) && !(z.1 + 1 == q && z.2.category == 2))) = lo') (k0 : J x lo' st σ (pc + 2) kc ns) : J x lo (.double a :: st) σ pc kc ns := by
  obtain ⟨p, l, e, s, args, below, meth, c, Qc, XC, free, hω, hx, hb, hml, hn, hts, hown, hK, hr, hlk, htab, hst, hH0, hSt, hRet, hThr⟩ := C
  intro H locs ls hl hP hS
  refine (hω _ _ _ _ _).mpr ?_
  exact lv_dstore hx hb d hl (by rw [hn]; exact h) hlo (fun ls hl => (hω _ _ _ _ _).mp (k0 H locs ls hl hP hS))
theorem j_irem (C : Cx x cc mL own ret tab Ts R D tys) {a b : Int32} (d : decode cc pc = .ok (.irem, 1)) (h : ¬ b = 0) (k0 : J x lo (.int (a - a / b * b) :: st) σ (pc + 1) kc ns) : J x lo (.int b :: .int a :: st) σ pc kc ns := by
  obtain ⟨p, l, e, s, args, below, meth, c, Qc, XC, free, hω, hx, hb, hml, hn, hts, hown, hK, hr, hlk, htab, hst, hH0, hSt, hRet, hThr⟩ := C
  intro H locs ls hl hP hS
  refine (hω _ _ _ _ _).mpr ?_
  exact lv_irem hx hb d h ((hω _ _ _ _ _).mp (k0 H locs ls hl hP hS))
theorem j_ladd (C : Cx x cc mL own ret tab Ts R D tys) {a b : Int64} (d : decode cc pc = .ok (.ladd, 1))  (k0 : J x lo (.long (a + b) :: st) σ (pc + 1) kc ns) : J x lo (.long b :: .long a :: st) σ pc kc ns := by
  obtain ⟨p, l, e, s, args, below, meth, c, Qc, XC, free, hω, hx, hb, hml, hn, hts, hown, hK, hr, hlk, htab, hst, hH0, hSt, hRet, hThr⟩ := C
  intro H locs ls hl hP hS
  refine (hω _ _ _ _ _).mpr ?_
  exact lv_ladd hx hb d ((hω _ _ _ _ _).mp (k0 H locs ls hl hP hS))
theorem j_lmul (C : Cx x cc mL own ret tab Ts R D tys) {a b : Int64} (d : decode cc pc = .ok (.lmul, 1))  (k0 : J x lo (.long (a * b) :: st) σ (pc + 1) kc ns) : J x lo (.long b :: .long a :: st) σ pc kc ns := by
  obtain ⟨p, l, e, s, args, below, meth, c, Qc, XC, free, hω, hx, hb, hml, hn, hts, hown, hK, hr, hlk, htab, hst, hH0, hSt, hRet, hThr⟩ := C
  intro H locs ls hl hP hS
  refine (hω _ _ _ _ _).mpr ?_
  exact lv_lmul hx hb d ((hω _ _ _ _ _).mp (k0 H locs ls hl hP hS))
theorem j_lload_n (C : Cx x cc mL own ret tab Ts R D tys) {q : Fin 4} {a : Int64} (d : decode cc pc = .ok (.lload_n q, 1)) (i : Nat) (h : lo[i]? = some ((q : Nat), .long a)) (k0 : J x lo (.long a :: st) σ (pc + 1) kc ns) : J x lo st σ pc kc ns := by
  obtain ⟨p, l, e, s, args, below, meth, c, Qc, XC, free, hω, hx, hb, hml, hn, hts, hown, hK, hr, hlk, htab, hst, hH0, hSt, hRet, hThr⟩ := C
  intro H locs ls hl hP hS
  refine (hω _ _ _ _ _).mpr ?_
  exact lv_lload_n hx hb d rfl (lv_at hl i h) ((hω _ _ _ _ _).mp (k0 H locs ls hl hP hS))
theorem j_lload (C : Cx x cc mL own ret tab Ts R D tys) {q : Nat} {a : Int64} (d : decode cc pc = .ok (.lload q, 2)) (i : Nat) (h : lo[i]? = some (q, .long a)) (k0 : J x lo (.long a :: st) σ (pc + 2) kc ns) : J x lo st σ pc kc ns := by
  obtain ⟨p, l, e, s, args, below, meth, c, Qc, XC, free, hω, hx, hb, hml, hn, hts, hown, hK, hr, hlk, htab, hst, hH0, hSt, hRet, hThr⟩ := C
  intro H locs ls hl hP hS
  refine (hω _ _ _ _ _).mpr ?_
  exact lv_lload hx hb d (lv_at hl i h) ((hω _ _ _ _ _).mp (k0 H locs ls hl hP hS))
theorem j_lstore_n (C : Cx x cc mL own ret tab Ts R D tys) {q : Fin 4} {a : Int64} (d : decode cc pc = .ok (.lstore_n q, 1)) (h : (q : Nat) + 1 < mL) (lo' : List (Nat × Value)) (hlo : ((q : Nat), Value.long a) :: lo.filter (fun z => !(z.1 == (q : Nat)) && (!(z.1 == (q : Nat) + 1) && !(z.1 + 1 == (q : Nat) && z.2.category == 2))) = lo') (k0 : J x lo' st σ (pc + 1) kc ns) : J x lo (.long a :: st) σ pc kc ns := by
  obtain ⟨p, l, e, s, args, below, meth, c, Qc, XC, free, hω, hx, hb, hml, hn, hts, hown, hK, hr, hlk, htab, hst, hH0, hSt, hRet, hThr⟩ := C
  intro H locs ls hl hP hS
  refine (hω _ _ _ _ _).mpr ?_
  exact lv_lstore_n hx hb d rfl hl (by rw [hn]; exact h) hlo (fun ls hl => (hω _ _ _ _ _).mp (k0 H locs ls hl hP hS))
theorem j_lstore (C : Cx x cc mL own ret tab Ts R D tys) {q : Nat} {a : Int64} (d : decode cc pc = .ok (.lstore q, 2)) (h : (q : Nat) + 1 < mL) (lo' : List (Nat × Value)) (hlo : ((q : Nat), Value.long a) :: lo.filter (fun z => !(z.1 == (q : Nat)) && (!(z.1 == (q : Nat) + 1) && !(z.1 + 1 == (q : Nat) && z.2.category == 2))) = lo') (k0 : J x lo' st σ (pc + 2) kc ns) : J x lo (.long a :: st) σ pc kc ns := by
  obtain ⟨p, l, e, s, args, below, meth, c, Qc, XC, free, hω, hx, hb, hml, hn, hts, hown, hK, hr, hlk, htab, hst, hH0, hSt, hRet, hThr⟩ := C
  intro H locs ls hl hP hS
  refine (hω _ _ _ _ _).mpr ?_
  exact lv_lstore hx hb d hl (by rw [hn]; exact h) hlo (fun ls hl => (hω _ _ _ _ _).mp (k0 H locs ls hl hP hS))
theorem j_ldc (C : Cx x cc mL own ret tab Ts R D tys) {idx : Nat} {v : Int32} (d : decode cc pc = .ok (.ldc idx, 2)) (h : Cond.constant own idx v ∈ Ts) (k0 : J x lo (.int v :: st) σ (pc + 2) kc ns) : J x lo st σ pc kc ns := by
  obtain ⟨p, l, e, s, args, below, meth, c, Qc, XC, free, hω, hx, hb, hml, hn, hts, hown, hK, hr, hlk, htab, hst, hH0, hSt, hRet, hThr⟩ := C
  intro H locs ls hl hP hS
  refine (hω _ _ _ _ _).mpr ?_
  exact lv_ldc hx hb hown (hts _ h) d ((hω _ _ _ _ _).mp (k0 H locs ls hl hP hS))
theorem j_ldc2 (C : Cx x cc mL own ret tab Ts R D tys) {idx : Nat} {v : Int64} (d : decode cc pc = .ok (.ldc2_w idx, 3)) (h : Cond.constantLong own idx v ∈ Ts) (k0 : J x lo (.long v :: st) σ (pc + 3) kc ns) : J x lo st σ pc kc ns := by
  obtain ⟨p, l, e, s, args, below, meth, c, Qc, XC, free, hω, hx, hb, hml, hn, hts, hown, hK, hr, hlk, htab, hst, hH0, hSt, hRet, hThr⟩ := C
  intro H locs ls hl hP hS
  refine (hω _ _ _ _ _).mpr ?_
  exact lv_ldc2 hx hb hown (hts _ h) d ((hω _ _ _ _ _).mp (k0 H locs ls hl hP hS))
theorem j_ldc2d (C : Cx x cc mL own ret tab Ts R D tys) {idx : Nat} {v u : UInt64} (d : decode cc pc = .ok (.ldc2_w idx, 3)) (h : Cond.constantDouble own idx v ∈ Ts) (hv : v = u) (k0 : J x lo (.double u :: st) σ (pc + 3) kc ns) : J x lo st σ pc kc ns := by
  obtain ⟨p, l, e, s, args, below, meth, c, Qc, XC, free, hω, hx, hb, hml, hn, hts, hown, hK, hr, hlk, htab, hst, hH0, hSt, hRet, hThr⟩ := C
  intro H locs ls hl hP hS
  refine (hω _ _ _ _ _).mpr ?_
  subst hv; exact lv_ldc2d hx hb hown (hts _ h) d ((hω _ _ _ _ _).mp (k0 H locs ls hl hP hS))
theorem j_tableIn (C : Cx x cc mL own ret tab Ts R D tys) {dflt lo9 hi : Int} {offs : Array Int} {len : Nat} {v : Int32} {off : Int} {tgt : Nat} (d : decode cc pc = .ok (.tableswitch dflt lo9 hi offs, len)) (h1 : ¬ v.toInt < lo9) (h2 : ¬ hi < v.toInt) (ho : offs[(v.toInt - lo9).toNat]? = some off) (ht : (pc : Int) + off = (tgt : Int)) (k0 : J x lo st σ tgt kc ns) : J x lo (.int v :: st) σ pc kc ns := by
  obtain ⟨p, l, e, s, args, below, meth, c, Qc, XC, free, hω, hx, hb, hml, hn, hts, hown, hK, hr, hlk, htab, hst, hH0, hSt, hRet, hThr⟩ := C
  intro H locs ls hl hP hS
  refine (hω _ _ _ _ _).mpr ?_
  exact lv_tableIn hx hb d h1 h2 ho ht ((hω _ _ _ _ _).mp (k0 H locs ls hl hP hS))
theorem j_tableOut (C : Cx x cc mL own ret tab Ts R D tys) {dflt lo9 hi : Int} {offs : Array Int} {len : Nat} {v : Int32} {tgt : Nat} (d : decode cc pc = .ok (.tableswitch dflt lo9 hi offs, len)) (h : v.toInt < lo9 ∨ hi < v.toInt) (ht : (pc : Int) + dflt = (tgt : Int)) (k0 : J x lo st σ tgt kc ns) : J x lo (.int v :: st) σ pc kc ns := by
  obtain ⟨p, l, e, s, args, below, meth, c, Qc, XC, free, hω, hx, hb, hml, hn, hts, hown, hK, hr, hlk, htab, hst, hH0, hSt, hRet, hThr⟩ := C
  intro H locs ls hl hP hS
  refine (hω _ _ _ _ _).mpr ?_
  exact lv_tableOut hx hb d h ht ((hω _ _ _ _ _).mp (k0 H locs ls hl hP hS))
theorem j_mmin (C : Cx x cc mL own ret tab Ts R D tys) {a b : Int32} {idx : Nat} (d : decode cc pc = .ok (.invokestatic idx, 3)) (h1 : Cond.methodLink own idx Lib.Math.min.name ∈ Ts) (h2 : Cond.static Lib.Math.min.name ∈ Ts) (h3 : Cond.initialized "java/lang/Math" ∈ Ts) (h4 : Cond.code Lib.Math.min.name Lib.Math.min.code 2 (some .int) ∈ Ts) (hf : 1 ≤ R.frames) (hL : (st.map fun v => v.category).sum + 13 ≤ R.locals) (hc : kc ≤ R.cells) (hs : ns ≤ R.slots) (k0 : J x lo (.int (if b < a then b else a) :: st) σ (pc + 3) kc ns) : J x lo (.int b :: .int a :: st) σ pc kc ns := by
  obtain ⟨p, l, e, s, args, below, meth, c, Qc, XC, free, hω, hx, hb, hml, hn, hts, hown, hK, hr, hlk, htab, hst, hH0, hSt, hRet, hThr⟩ := C
  intro H locs ls hl hP hS
  refine (hω _ _ _ _ _).mpr ?_
  exact va_mmin hx hb (by rw [hml, ← hn]; exact hl.1.symm) hown (hts _ h1) (hts _ h2) (hts _ h3) (hts _ h4) hf hL hc hs d ((hω _ _ _ _ _).mp (k0 H locs ls hl hP hS))
theorem j_mmax (C : Cx x cc mL own ret tab Ts R D tys) {a b : Int32} {idx : Nat} (d : decode cc pc = .ok (.invokestatic idx, 3)) (h1 : Cond.methodLink own idx Lib.Math.max.name ∈ Ts) (h2 : Cond.static Lib.Math.max.name ∈ Ts) (h3 : Cond.initialized "java/lang/Math" ∈ Ts) (h4 : Cond.code Lib.Math.max.name Lib.Math.max.code 2 (some .int) ∈ Ts) (hf : 1 ≤ R.frames) (hL : (st.map fun v => v.category).sum + 13 ≤ R.locals) (hc : kc ≤ R.cells) (hs : ns ≤ R.slots) (k0 : J x lo (.int (if a < b then b else a) :: st) σ (pc + 3) kc ns) : J x lo (.int b :: .int a :: st) σ pc kc ns := by
  obtain ⟨p, l, e, s, args, below, meth, c, Qc, XC, free, hω, hx, hb, hml, hn, hts, hown, hK, hr, hlk, htab, hst, hH0, hSt, hRet, hThr⟩ := C
  intro H locs ls hl hP hS
  refine (hω _ _ _ _ _).mpr ?_
  exact va_mmax hx hb (by rw [hml, ← hn]; exact hl.1.symm) hown (hts _ h1) (hts _ h2) (hts _ h3) (hts _ h4) hf hL hc hs d ((hω _ _ _ _ _).mp (k0 H locs ls hl hP hS))
theorem j_mabs (C : Cx x cc mL own ret tab Ts R D tys) {a : Int32} {idx : Nat} (d : decode cc pc = .ok (.invokestatic idx, 3)) (h1 : Cond.methodLink own idx Lib.Math.abs.name ∈ Ts) (h2 : Cond.static Lib.Math.abs.name ∈ Ts) (h3 : Cond.initialized "java/lang/Math" ∈ Ts) (h4 : Cond.code Lib.Math.abs.name Lib.Math.abs.code 1 (some .int) ∈ Ts) (hf : 1 ≤ R.frames) (hL : (st.map fun v => v.category).sum + 13 ≤ R.locals) (hc : kc ≤ R.cells) (hs : ns ≤ R.slots) (k0 : J x lo (.int (if 0 ≤ a then a else 0 - a) :: st) σ (pc + 3) kc ns) : J x lo (.int a :: st) σ pc kc ns := by
  obtain ⟨p, l, e, s, args, below, meth, c, Qc, XC, free, hω, hx, hb, hml, hn, hts, hown, hK, hr, hlk, htab, hst, hH0, hSt, hRet, hThr⟩ := C
  intro H locs ls hl hP hS
  refine (hω _ _ _ _ _).mpr ?_
  exact va_mabs hx hb (by rw [hml, ← hn]; exact hl.1.symm) hown (hts _ h1) (hts _ h2) (hts _ h3) (hts _ h4) hf hL hc hs d ((hω _ _ _ _ _).mp (k0 H locs ls hl hP hS))
theorem j_ireturn {a : Int32} (C : Cx x cc mL own (some .int) tab Ts R D tys)  (d : decode cc pc = .ok (.ireturn, 1)) (hg : x.2.2.2.2.2.2 = (.inl (some (.int a)), σ)) (hk : kc ≤ R.cells) (hs : ns ≤ R.slots) : J x lo [.int a] σ pc kc ns := by
  obtain ⟨p, l, e, s, args, below, meth, c, Qc, XC, free, hω, hx, hb, hml, hn, hts, hown, hK, hr, hlk, htab, hst, hH0, hSt, hRet, hThr⟩ := C
  intro H locs ls hl hP hS
  refine (hω _ _ _ _ _).mpr ?_
  rw [hH0] at hS
  obtain ⟨q1, q2⟩ := hRet _ σ H locs hg hP hS
  refine W.widen hk hs (vx_ret ?_)
  exact W.iret hx hb hr q1 q2 d hlk
theorem j_zreturn {a : Int32} {ty : FieldType} (C : Cx x cc mL own (some ty) tab Ts R D tys) (hn9 : narrow ty (.int a) = .int a) (d : decode cc pc = .ok (.ireturn, 1)) (hg : x.2.2.2.2.2.2 = (.inl (some (.int a)), σ)) (hk : kc ≤ R.cells) (hs : ns ≤ R.slots) : J x lo [.int a] σ pc kc ns := by
  obtain ⟨p, l, e, s, args, below, meth, c, Qc, XC, free, hω, hx, hb, hml, hn, hts, hown, hK, hr, hlk, htab, hst, hH0, hSt, hRet, hThr⟩ := C
  intro H locs ls hl hP hS
  refine (hω _ _ _ _ _).mpr ?_
  rw [hH0] at hS
  obtain ⟨q1, q2⟩ := hRet _ σ H locs hg hP hS
  refine W.widen hk hs (vx_ret ?_)
  exact W.zret hx hb hr hn9 q1 q2 d hlk
theorem j_areturn {a : Nat} {rt : FieldType} (C : Cx x cc mL own (some rt) tab Ts R D tys) (hrt : (∃ n, rt = .object n) ∨ ∃ t, rt = .array t) (d : decode cc pc = .ok (.areturn, 1)) (hg : x.2.2.2.2.2.2 = (.inl (some (.ref a)), σ)) (hk : kc ≤ R.cells) (hs : ns ≤ R.slots) : J x lo [.ref a] σ pc kc ns := by
  obtain ⟨p, l, e, s, args, below, meth, c, Qc, XC, free, hω, hx, hb, hml, hn, hts, hown, hK, hr, hlk, htab, hst, hH0, hSt, hRet, hThr⟩ := C
  intro H locs ls hl hP hS
  refine (hω _ _ _ _ _).mpr ?_
  rw [hH0] at hS
  obtain ⟨q1, q2⟩ := hRet _ σ H locs hg hP hS
  refine W.widen hk hs (vx_ret ?_)
  exact W.aret hx hb hr hrt (Or.inr ⟨_, rfl⟩) q1 q2 d hlk
theorem j_areturnN {rt : FieldType} (C : Cx x cc mL own (some rt) tab Ts R D tys) (hrt : (∃ n, rt = .object n) ∨ ∃ t, rt = .array t) (d : decode cc pc = .ok (.areturn, 1)) (hg : x.2.2.2.2.2.2 = (.inl (some .null), σ)) (hk : kc ≤ R.cells) (hs : ns ≤ R.slots) : J x lo [.null] σ pc kc ns := by
  obtain ⟨p, l, e, s, args, below, meth, c, Qc, XC, free, hω, hx, hb, hml, hn, hts, hown, hK, hr, hlk, htab, hst, hH0, hSt, hRet, hThr⟩ := C
  intro H locs ls hl hP hS
  refine (hω _ _ _ _ _).mpr ?_
  rw [hH0] at hS
  obtain ⟨q1, q2⟩ := hRet _ σ H locs hg hP hS
  refine W.widen hk hs (vx_ret ?_)
  exact W.aret hx hb hr hrt (Or.inl rfl) q1 q2 d hlk
theorem j_dreturn {a : UInt64} (C : Cx x cc mL own (some .double) tab Ts R D tys)  (d : decode cc pc = .ok (.dreturn, 1)) (hg : x.2.2.2.2.2.2 = (.inl (some (.double a)), σ)) (hk : kc ≤ R.cells) (hs : ns ≤ R.slots) : J x lo [.double a] σ pc kc ns := by
  obtain ⟨p, l, e, s, args, below, meth, c, Qc, XC, free, hω, hx, hb, hml, hn, hts, hown, hK, hr, hlk, htab, hst, hH0, hSt, hRet, hThr⟩ := C
  intro H locs ls hl hP hS
  refine (hω _ _ _ _ _).mpr ?_
  rw [hH0] at hS
  obtain ⟨q1, q2⟩ := hRet _ σ H locs hg hP hS
  refine W.widen hk hs (vx_ret ?_)
  exact W.dret hx hb hr q1 q2 d hlk
theorem j_lreturn {a : Int64} (C : Cx x cc mL own (some .long) tab Ts R D tys)  (d : decode cc pc = .ok (.lreturn, 1)) (hg : x.2.2.2.2.2.2 = (.inl (some (.long a)), σ)) (hk : kc ≤ R.cells) (hs : ns ≤ R.slots) : J x lo [.long a] σ pc kc ns := by
  obtain ⟨p, l, e, s, args, below, meth, c, Qc, XC, free, hω, hx, hb, hml, hn, hts, hown, hK, hr, hlk, htab, hst, hH0, hSt, hRet, hThr⟩ := C
  intro H locs ls hl hP hS
  refine (hω _ _ _ _ _).mpr ?_
  rw [hH0] at hS
  obtain ⟨q1, q2⟩ := hRet _ σ H locs hg hP hS
  refine W.widen hk hs (vx_ret ?_)
  exact W.lret hx hb hr q1 q2 d hlk
theorem j_return  (C : Cx x cc mL own none tab Ts R D tys)  (d : decode cc pc = .ok (.return_, 1)) (hg : x.2.2.2.2.2.2 = (.inl (none), σ)) (hk : kc ≤ R.cells) (hs : ns ≤ R.slots) : J x lo [] σ pc kc ns := by
  obtain ⟨p, l, e, s, args, below, meth, c, Qc, XC, free, hω, hx, hb, hml, hn, hts, hown, hK, hr, hlk, htab, hst, hH0, hSt, hRet, hThr⟩ := C
  intro H locs ls hl hP hS
  refine (hω _ _ _ _ _).mpr ?_
  rw [hH0] at hS
  obtain ⟨q1, q2⟩ := hRet _ σ H locs hg hP hS
  refine W.widen hk hs (vx_ret ?_)
  exact W.vret hx hb hr q1 q2 d hlk
end JROWS
section MROWS
variable {x : Xt Mem} {G : Gt} {cc : ByteArray} {mL : Nat} {own : String} {ret : Option FieldType} {tab : List ExceptionTableEntry} {Ts : List Cond} {R : Room} {lo lo' : List (Nat × Value)} {st : List Value} {σ : Mem} {pc kc ns : Nat}
theorem j_get (C : Cx x cc mL own ret tab Ts R G.1 (tysF G)) (X : Wx x G) {idx i K : Nat} (d : decode cc pc = .ok (.getfield idx, 3)) (hi : Ok i K) {ci N : Nat} {Cn nm ds : String} {T : u_T} {fin : Bool} {fs : List Value} {v : Value} (he : EnR G i K (σ.1 i) (σ.2 i) = .inr (ci, fs)) (hc : vwCl[ci]? = some (Cn, T, N)) (k : Nat) (hk : k < N) (hT : T k = (Cn, nm, ds, fin)) (hv : fs[k]? = some v) (hin : ∀ w ∈ u_ws Cn T N, w ∈ Ts) (hl : Cond.fieldLink own idx Cn nm ds ∈ Ts) (k0 : J x lo (v :: st) σ (pc + 3) kc ns) : J x lo (.ref (G.2.2 i) :: st) σ pc kc ns := by
  obtain ⟨p, l, e, s, args, below, meth, c, Qc, XC, free, hω, hx, hb, hml, hn, hts, hown, hK, hr, hlk, htab, hst, hH0, hSt, hRet, hThr⟩ := C
  intro H locs ls hl1 hP hS
  refine (hω _ _ _ _ _).mpr ?_
  refine va_get hx hb hts hin hown hK ((X.1 σ H).mp hP) i (fs := fs) (ci := ci) ((g_at hi).trans (by rw [he])) hc k hk (ref := Cn) (by rw [hT]; exact hts _ hl) (fun y hy => by rw [hT] at hy ⊢; exact hy) hv d ((hω _ _ _ _ _).mp (k0 H locs ls hl1 hP hS))
theorem j_put (C : Cx x cc mL own ret tab Ts R G.1 (tysF G)) (X : Wx x G) {idx i K : Nat} {a : Int32} (d : decode cc pc = .ok (.putfield idx, 3)) (hi : Ok i K) {ci N : Nat} {Cn nm ds : String} {T : u_T} {fs : List Value} {ty0 : Nat → FieldType} {ty : FieldType} (he : EnR G i K (σ.1 i) (σ.2 i) = .inr (ci, fs)) (hc : vwCl[ci]? = some (Cn, T, N)) (k : Nat) (hk : k < N) (hT : T k = (Cn, nm, ds, false)) (hset : EnR G i K (upd (σ.1 i) k a) (σ.2 i) = .inr (ci, fs.set k (.int a))) (hlen : k < fs.length) (hty : ∀ k, k < N → parseFieldDescriptor (T k).2.2.1 = some (ty0 k)) (hnm : ∀ a, a < N → ∀ b, b < N → a ≠ b → (T a).2.1 ≠ (T b).2.1) (hd : ty0 k = ty) (hn9 : narrow ty (.int a) = .int a) (hf9 : fits ty (.int a) = true) (hin : ∀ w ∈ u_ws Cn T N, w ∈ Ts) (hl : Cond.fieldLink own idx Cn nm ds ∈ Ts) {σ1 : Mem} (hm : wi σ i k a = σ1) (k0 : J x lo st σ1 (pc + 3) kc ns) : J x lo (.int a :: .ref (G.2.2 i) :: st) σ pc kc ns := by
  subst hm
  obtain ⟨p, l, e, s, args, below, meth, c, Qc, XC, free, hω, hx, hb, hml, hn, hts, hown, hK, hr, hlk, htab, hst, hH0, hSt, hRet, hThr⟩ := C
  intro H locs ls hl1 hP hS
  refine (hω _ _ _ _ _).mpr ?_
  refine va_put hx hb hts hin ty0 hty hnm hown hK ((X.1 σ H).mp hP) (X.D σ) hS i (fs := fs) (ci := ci) ((g_at hi).trans (by rw [he])) hc k hk (ref := Cn) (by rw [hT]; exact hts _ hl) (fun y hy => by rw [hT] at hy ⊢; exact hy) (by rw [hT]) (ty := ty) (by rw [hty k hk, hd]) hn9 hf9 hlen d (fun H1 locs1 hP1 _ hS1 => ?_)
  rw [g_set (G := G) (σ := σ) (σ' := wi σ i k a) hi (by rw [wi_at]; exact hset) (fun j hj => ⟨wi_ne σ i k a hj, rfl⟩)] at hP1
  exact (hω _ _ _ _ _).mp (k0 H1 locs1 ls hl1 ((X.1 _ H1).mpr hP1) hS1)
/-- reference arrays: kind 7 of levels, kind 8 of requests -/
theorem j_aald (C : Cx x cc mL own ret tab Ts R G.1 (tysF G)) (X : Wx x G) {i K n : Nat} {a : Int32} (d : decode cc pc = .ok (.aaload, 1)) (hi : Ok i K) (t0 : Nat) {Cn : String} {cA : ClassId} (he : EnR G i K (σ.1 i) (σ.2 i) = .inl (cA, n, .inr (.inr (.inr (.inr (fun j => some (G.2.2 (σ.2 i j)))))))) (ht : (tysF G)[t0]? = some (cA, .object Cn)) (hin : vp_in a n) (k0 : J x lo (.ref (G.2.2 (σ.2 i a.toNatClampNeg)) :: st) σ (pc + 1) kc ns) : J x lo (.int a :: .ref (G.2.2 i) :: st) σ pc kc ns := by
  obtain ⟨p, l, e, s, args, below, meth, c, Qc, XC, free, hω, hx, hb, hml, hn, hts, hown, hK, hr, hlk, htab, hst, hH0, hSt, hRet, hThr⟩ := C
  intro H locs ls hl1 hP hS
  refine (hω _ _ _ _ _).mpr ?_
  exact va_aldq (f := fun j => some (G.2.2 (σ.2 i j))) hx hb hK ((X.1 σ H).mp hP) i t0 ((g_at hi).trans (by rw [he])) ht hin d ((hω _ _ _ _ _).mp (k0 H locs ls hl1 hP hS))
theorem j_aast (C : Cx x cc mL own ret tab Ts R G.1 (tysF G)) (X : Wx x G) {i K n j K2 : Nat} {a : Int32} (d : decode cc pc = .ok (.aastore, 1)) (hi : Ok i K) (hj : Ok j K2) (t0 : Nat) {cA : ClassId} {r : vw_C} {ci : Nat} {vs : List Value} (he : ∀ g, EnR G i K (σ.1 i) g = .inl (cA, n, .inr (.inr (.inr (.inr (fun j => some (G.2.2 (g j)))))))) (ht : (tysF G)[t0]? = some (cA, .object r.1)) (hv : EnR G j K2 (σ.1 j) (σ.2 j) = .inr (ci, vs)) (hc : vwCl[ci]? = some r) (hin : vp_in a n) {σ1 : Mem} (hm : wr σ i a.toNatClampNeg j = σ1) (k0 : J x lo st σ1 (pc + 1) kc ns) : J x lo (.ref (G.2.2 j) :: .int a :: .ref (G.2.2 i) :: st) σ pc kc ns := by
  subst hm
  obtain ⟨p, l, e, s, args, below, meth, c, Qc, XC, free, hω, hx, hb, hml, hn, hts, hown, hK, hr, hlk, htab, hst, hH0, hSt, hRet, hThr⟩ := C
  intro H locs ls hl1 hP hS
  refine (hω _ _ _ _ _).mpr ?_
  refine va_astq hx hb hK ((X.1 σ H).mp hP) (X.D σ) hS i t0 j ci ((g_at hi).trans (by rw [he])) ht ((g_at hj).trans (by rw [hv])) hc hin d (fun H1 locs1 hP1 _ hS1 => ?_)
  rw [g_set (G := G) (σ := σ) (σ' := wr σ i a.toNatClampNeg j) hi (by show EnR G i K (σ.1 i) _ = _; rw [wr_at, he]; exact congrArg (fun f => (Sum.inl (cA, n, .inr (.inr (.inr (.inr f)))) : va_E)) (funext fun q => by by_cases h : q = a.toNatClampNeg <;> simp [va_up, h])) (fun j hj => ⟨rfl, wr_ne σ i _ _ hj⟩)] at hP1
  exact (hω _ _ _ _ _).mp (k0 H1 locs1 ls hl1 ((X.1 _ H1).mpr hP1) hS1)
theorem j_alen (C : Cx x cc mL own ret tab Ts R G.1 (tysF G)) (X : Wx x G) {i K : Nat} (d : decode cc pc = .ok (.arraylength, 1)) (hi : Ok i K) (t0 : Nat) {cA : ClassId} {y : vp_A} {ty : FieldType} (he : EnR G i K (σ.1 i) (σ.2 i) = .inl (cA, y)) (ht : (tysF G)[t0]? = some (cA, ty)) (v : Int32) (hv : Int32.ofNat y.1 = v) (k0 : J x lo (.int v :: st) σ (pc + 1) kc ns) : J x lo (.ref (G.2.2 i) :: st) σ pc kc ns := by
  obtain ⟨p, l, e, s, args, below, meth, c, Qc, XC, free, hω, hx, hb, hml, hn, hts, hown, hK, hr, hlk, htab, hst, hH0, hSt, hRet, hThr⟩ := C
  intro H locs ls hl1 hP hS
  refine (hω _ _ _ _ _).mpr ?_
  exact va_alen hx hb hK ((X.1 σ H).mp hP) i t0 ((g_at hi).trans (by rw [he])) ht hv d ((hω _ _ _ _ _).mp (k0 H locs ls hl1 hP hS))
end MROWS

/-! CONTRACTS over the memory -/
def AF (G : Gt) (sz : Nat) : Addr → Prop := fun q => (∃ i, i < 41 ∧ q = G.2.2 i) ∨ sz ≤ q
def Inj (G : Gt) : Prop := ∀ i j, i < 41 → j < 41 → G.2.2 i = G.2.2 j → i = j
def PreM (G : Gt) (σ : Mem) (sz : Nat) (U : State) : Prop := U.heap.size = sz ∧ va_P G.1 vwCl (wsF G σ) U.heap ∧ va_K G.1 vwCl (tysF G) U ∧ Inj G ∧ St (AF G sz) U U.heap
def QcM (G : Gt) (o : Option Value ⊕ String) (σ' : Mem) (sz : Nat) : Array Value → State → Outcome → State → Prop := fun _ st oc t => ∃ v, o = .inl v ∧ oc = .returned v ∧ va_P G.1 vwCl (wsF G σ') t.heap ∧ va_F (AF G sz) st t
def XcM (G : Gt) (o : Option Value ⊕ String) (σ' : Mem) (sz : Nat) : String → State → State → Prop := fun E st t => o = .inr E ∧ va_P G.1 vwCl (wsF G σ') t.heap ∧ va_F (AF G sz) st t
/-- from every heap that holds σ the method comes to the outcome o, and the heap holds σ' -/
def MM (y : MethodName) (ws : List Cond) (rm : Room) (vs : List Value) (G : Gt) (σ : Mem) (o : Option Value ⊕ String) (σ' : Mem) : Prop :=
  ∀ l : Launch, l.stackTraces = false → ∀ sz, vx_Met l y ws rm (va_Pc vs (PreM G σ sz)) (QcM G o σ' sz) (XcM G o σ' sz) rm.cells rm.slots (AF G sz)
theorem St.calling {A : Nat → Prop} {U : State} {H : Heap} (h : St A U H) {g : JFrame} {mk : MethodId} {a : Array Value} : St A (U.calling g mk a) H :=
  ⟨h.1.moved (Vm.Alike.refl U.vm), h.2.1.moved (Vm.Alike.refl U.vm), SR.same rfl h.2.2.1, CS.calling h.2.2.2⟩
theorem preM_blind {vs : List Value} {G : Gt} {σ : Mem} {sz : Nat} : FrameBlind (va_Pc vs (PreM G σ sz)) := by
  intro a U g mk h
  obtain ⟨h1, h2, h3, h4, h5, h6⟩ := h
  exact ⟨h1, h2, h3, va_K.moved (u := U) (U := U.calling g mk a) (Vm.Alike.refl U.vm) h4, h5, St.calling h6⟩
theorem af_sub {x : Xt Mem} {G : Gt} (X : Wx x G) {H : Heap} {locs : List Loc} (hS : va_S x.2.2.2.2.1 x.2.2.2.2.2.1 H locs) : ∀ q : Nat, AF G H.size q → x.2.2.2.2.1 q := by
  intro q h
  rcases h with ⟨i, hi, e⟩ | h
  · rw [e]
    exact X.2.2.1 i hi
  · exact X.2.2.2 q (Nat.le_trans hS.1 h)
/-- the callee's start, at the caller's state -/
theorem preM_at {x : Xt Mem} {G : Gt} (X : Wx x G) {s : State} {H : Heap} {locs : List Loc} {σ : Mem} {vs : List Value} (hH0 : x.2.2.2.2.2.1 = s.heap) (hK : va_K G.1 vwCl (tysF G) s) (hSt : St x.2.2.2.2.1 s s.heap) (hP : x.2.2.2.1 σ H) (hS : va_S x.2.2.2.2.1 x.2.2.2.2.2.1 H locs) :
    ∀ U : State, U.heap = H → s.WarmedH U.vm → va_Pc vs (PreM G σ H.size) vs.toArray U := by
  intro U hU hW
  have hsub := af_sub X hS
  rw [hH0] at hS
  refine ⟨rfl, by rw [hU], by rw [hU]; exact (X.1 σ H).mp hP, va_K.moved hW.alike hK, X.2.1, ?_⟩
  rw [hU]
  exact ⟨((hSt.1.kept hS.2.1).narrow hsub).moved hW.alike, ((hSt.2.1.kept hS.2.1).narrow hsub).moved hW.alike, SR.warm hW hSt.2.2.1, CS.warm hW hSt.2.2.2⟩
section CALLS
variable {x : Xt Mem} {G : Gt} {cc : ByteArray} {mL : Nat} {own : String} {ret : Option FieldType} {tab : List ExceptionTableEntry} {Ts : List Cond} {R : Room} {lo lo' : List (Nat × Value)} {st st0 : List Value} {σ σ1 : Mem} {pc kc ns : Nat}
abbrev hyOk (y : MethodName) (n : Nat) : Prop := y.cls ≠ "java/lang/invoke/MethodHandle" ∧ y.cls ≠ "java/lang/invoke/VarHandle" ∧ (parseMethodDescriptor y.desc).map (fun d => d.parameters.length) = some n
theorem j_callV (C : Cx x cc mL own ret tab Ts R G.1 (tysF G)) (X : Wx x G) {y : MethodName} {bytes : ByteArray} {maxL idx b K n : Nat} {ret' : Option FieldType} {ws ws' : List Cond} {rm : Room} {vs : List Value} {v : Option Value} (M : MM y ws rm (.ref (G.2.2 b) :: vs) G σ (.inl v) σ1) (d : decode cc pc = .ok (.invokevirtual idx, 3)) (g : GoodIn Ts (wsV own idx y.cls y ws)) (hw : ws = Cond.code y bytes maxL ret' :: ws') (hy : hyOk y n) (hlen : vs.length = n) (hi : Ok b K) {ci : Nat} {q : vw_C} {fs : List Value} (he : EnR G b K (σ.1 b) (σ.2 b) = .inr (ci, fs)) (hc : vwCl[ci]? = some q) (hq : q.1 = y.cls) (hstk : st0 = vs.reverse ++ .ref (G.2.2 b) :: st) (hR : rm.frames + 1 ≤ R.frames ∧ 8 + (maxL + 11) + rm.locals ≤ R.locals) (hsum : (st.map fun v => v.category).sum ≤ 8) (hf : kc + rm.cells ≤ R.cells ∧ ns + rm.slots ≤ R.slots) (k0 : J x lo (v.toList ++ st) σ1 (pc + 3) (kc + rm.cells) (ns + rm.slots)) : J x lo st0 σ pc kc ns := by
  obtain ⟨p, l, e, s, args, below, meth, c, Qc, XC, free, hω, hx, hb, hml, hn, hts, hown, hK, hr, hlk, htab, hst, hH0, hSt, hRet, hThr⟩ := C
  intro H locs ls hl1 hP hS
  refine (hω _ _ _ _ _).mpr ?_
  have hrv := va_recv hK ((X.1 σ H).mp hP) hc ((g_at hi).trans (by rw [he]))
  rw [hq] at hrv
  have run : vx_Run p l e R s x.2.1 args below meth c H locs kc ns rm.cells rm.slots (F0 x.2.1 pc ls st0) st (QcM G (.inl v) σ1 H.size (Value.ref (G.2.2 b) :: vs).toArray) (XcM G (.inl v) σ1 H.size) (AF G H.size) := vx_runV (g := F0 x.2.1 pc ls st0) ⟨hx, hb, hml, hown, hts⟩ (M l hst H.size) (cwV n hts g hw rfl rfl ⟨rfl, hy.1, hy.2.1, hy.2.2⟩ hR) ⟨preM_blind, hrv, preM_at X hH0 hK hSt hP hS⟩ rfl hlen (hl1.1.trans hn) hstk (lv_room (m := x.2.1) (pc := pc) (ls := ls) (rest := st) hsum) d hf
  intro T hT Y
  rcases run T hT Y with ⟨v2, st₀, t, T', L, h0, Y', hL, e1, e2, ⟨v3, ho, hv, hP1, hF⟩, stp⟩ | ⟨q2, st₀, t, T', L, E, ce, h0, Y', hL, e1, e2, ⟨ho, hP1, hF⟩, hce, hcv, hcl, stp⟩
  · cases ho
    cases hv
    obtain ⟨k1, k2, k3⟩ := vx_keep h0 e1 hS (fun q _ h => af_sub X hS q h) (af_sub X hS) hL hF
    obtain ⟨t2, a1, b1⟩ := (hω _ _ _ _ _).mp (k0 T'.heap (locs ++ L) ls hl1 ((X.1 _ _).mpr (by rw [e1]; exact hP1)) k3) T' rfl Y'
    exact ⟨t2, stp t2 a1, b1⟩
  · cases ho
theorem j_callS (C : Cx x cc mL own ret tab Ts R G.1 (tysF G)) (X : Wx x G) {y : MethodName} {bytes : ByteArray} {maxL idx n : Nat} {ret' : Option FieldType} {ws ws' : List Cond} {rm : Room} {vs : List Value} {v : Option Value} (M : MM y ws rm vs G σ (.inl v) σ1) (d : decode cc pc = .ok (.invokestatic idx, 3)) (g : GoodIn Ts (va_wsS own idx y ws)) (hw : ws = Cond.code y bytes maxL ret' :: ws') (hy : hyOk y n) (hlen : vs.length = n) (hstk : st0 = vs.reverse ++ st) (hR : rm.frames + 1 ≤ R.frames ∧ 8 + (maxL + 11) + rm.locals ≤ R.locals) (hsum : (st.map fun v => v.category).sum ≤ 8) (hf : kc + rm.cells ≤ R.cells ∧ ns + rm.slots ≤ R.slots) (k0 : J x lo (v.toList ++ st) σ1 (pc + 3) (kc + rm.cells) (ns + rm.slots)) : J x lo st0 σ pc kc ns := by
  obtain ⟨p, l, e, s, args, below, meth, c, Qc, XC, free, hω, hx, hb, hml, hn, hts, hown, hK, hr, hlk, htab, hst, hH0, hSt, hRet, hThr⟩ := C
  intro H locs ls hl1 hP hS
  refine (hω _ _ _ _ _).mpr ?_
  have run : vx_Run p l e R s x.2.1 args below meth c H locs kc ns rm.cells rm.slots (F0 x.2.1 pc ls st0) st (QcM G (.inl v) σ1 H.size vs.toArray) (XcM G (.inl v) σ1 H.size) (AF G H.size) := vx_runS (g := F0 x.2.1 pc ls st0) ⟨hx, hb, hml, hown, hts⟩ (M l hst H.size) (va_cwS n hts g hw rfl rfl ⟨hy.1, hy.2.1, hy.2.2⟩ hR) ⟨preM_blind, preM_at X hH0 hK hSt hP hS⟩ rfl hlen (hl1.1.trans hn) hstk (lv_room (m := x.2.1) (pc := pc) (ls := ls) (rest := st) hsum) d hf
  intro T hT Y
  rcases run T hT Y with ⟨v2, st₀, t, T', L, h0, Y', hL, e1, e2, ⟨v3, ho, hv, hP1, hF⟩, stp⟩ | ⟨q2, st₀, t, T', L, E, ce, h0, Y', hL, e1, e2, ⟨ho, hP1, hF⟩, hce, hcv, hcl, stp⟩
  · cases ho
    cases hv
    obtain ⟨k1, k2, k3⟩ := vx_keep h0 e1 hS (fun q _ h => af_sub X hS q h) (af_sub X hS) hL hF
    obtain ⟨t2, a1, b1⟩ := (hω _ _ _ _ _).mp (k0 T'.heap (locs ++ L) ls hl1 ((X.1 _ _).mpr (by rw [e1]; exact hP1)) k3) T' rfl Y'
    exact ⟨t2, stp t2 a1, b1⟩
  · cases ho
theorem j_callSX (C : Cx x cc mL own ret tab Ts R G.1 (tysF G)) (X : Wx x G) {y : MethodName} {bytes : ByteArray} {maxL idx n : Nat} {ret' : Option FieldType} {ws ws' : List Cond} {hh : List (Nat × Nat × Nat × Nat)} {rm : Room} {vs : List Value} {v : Option Value} (M : MM y ws rm vs G σ (.inl v) σ1) (d : decode cc pc = .ok (.invokestatic idx, 3)) (g : GoodIn Ts (va_wsS own idx y ws)) (hw : ws = Cond.codeWith y bytes maxL ret' hh :: ws') (hy : hyOk y n) (hlen : vs.length = n) (hstk : st0 = vs.reverse ++ st) (hR : rm.frames + 1 ≤ R.frames ∧ 8 + (maxL + 11) + rm.locals ≤ R.locals) (hsum : (st.map fun v => v.category).sum ≤ 8) (hf : kc + rm.cells ≤ R.cells ∧ ns + rm.slots ≤ R.slots) (k0 : J x lo (v.toList ++ st) σ1 (pc + 3) (kc + rm.cells) (ns + rm.slots)) : J x lo st0 σ pc kc ns := by
  obtain ⟨p, l, e, s, args, below, meth, c, Qc, XC, free, hω, hx, hb, hml, hn, hts, hown, hK, hr, hlk, htab, hst, hH0, hSt, hRet, hThr⟩ := C
  intro H locs ls hl1 hP hS
  refine (hω _ _ _ _ _).mpr ?_
  have run : vx_Run p l e R s x.2.1 args below meth c H locs kc ns rm.cells rm.slots (F0 x.2.1 pc ls st0) st (QcM G (.inl v) σ1 H.size vs.toArray) (XcM G (.inl v) σ1 H.size) (AF G H.size) := vx_runSX (g := F0 x.2.1 pc ls st0) ⟨hx, hb, hml, hown, hts⟩ (M l hst H.size) (vx_cwSW n hts g hw rfl rfl ⟨hy.1, hy.2.1, hy.2.2⟩ hR) ⟨preM_blind, preM_at X hH0 hK hSt hP hS⟩ rfl hlen (hl1.1.trans hn) hstk (lv_room (m := x.2.1) (pc := pc) (ls := ls) (rest := st) hsum) d hf
  intro T hT Y
  rcases run T hT Y with ⟨v2, st₀, t, T', L, h0, Y', hL, e1, e2, ⟨v3, ho, hv, hP1, hF⟩, stp⟩ | ⟨q2, st₀, t, T', L, E, ce, h0, Y', hL, e1, e2, ⟨ho, hP1, hF⟩, hce, hcv, hcl, stp⟩
  · cases ho
    cases hv
    obtain ⟨k1, k2, k3⟩ := vx_keep h0 e1 hS (fun q _ h => af_sub X hS q h) (af_sub X hS) hL hF
    obtain ⟨t2, a1, b1⟩ := (hω _ _ _ _ _).mp (k0 T'.heap (locs ++ L) ls hl1 ((X.1 _ _).mpr (by rw [e1]; exact hP1)) k3) T' rfl Y'
    exact ⟨t2, stp t2 a1, b1⟩
  · cases ho
/-- the callee throws, and nothing here catches it -/
theorem j_escV (C : Cx x cc mL own ret [] Ts R G.1 (tysF G)) (X : Wx x G) {y : MethodName} {bytes : ByteArray} {maxL idx b K n : Nat} {ret' : Option FieldType} {ws ws' : List Cond} {rm : Room} {vs : List Value} {E0 : String} (M : MM y ws rm (.ref (G.2.2 b) :: vs) G σ (.inr E0) σ1) (d : decode cc pc = .ok (.invokevirtual idx, 3)) (g : GoodIn Ts (wsV own idx y.cls y ws)) (hw : ws = Cond.code y bytes maxL ret' :: ws') (hy : hyOk y n) (hlen : vs.length = n) (hi : Ok b K) {ci : Nat} {q : vw_C} {fs : List Value} (he : EnR G b K (σ.1 b) (σ.2 b) = .inr (ci, fs)) (hc : vwCl[ci]? = some q) (hq : q.1 = y.cls) (hstk : st0 = vs.reverse ++ .ref (G.2.2 b) :: st) (hR : rm.frames + 1 ≤ R.frames ∧ 8 + (maxL + 11) + rm.locals ≤ R.locals) (hsum : (st.map fun v => v.category).sum ≤ 8) (hf : kc + rm.cells ≤ R.cells ∧ ns + rm.slots ≤ R.slots) (hg : x.2.2.2.2.2.2 = (.inr E0, σ1)) : J x lo st0 σ pc kc ns := by
  obtain ⟨p, l, e, s, args, below, meth, c, Qc, XC, free, hω, hx, hb, hml, hn, hts, hown, hK, hr, hlk, htab, hst, hH0, hSt, hRet, hThr⟩ := C
  intro H locs ls hl1 hP hS
  refine (hω _ _ _ _ _).mpr ?_
  have hrv := va_recv hK ((X.1 σ H).mp hP) hc ((g_at hi).trans (by rw [he]))
  rw [hq] at hrv
  have run : vx_Run p l e R s x.2.1 args below meth c H locs kc ns rm.cells rm.slots (F0 x.2.1 pc ls st0) st (QcM G (.inr E0) σ1 H.size (Value.ref (G.2.2 b) :: vs).toArray) (XcM G (.inr E0) σ1 H.size) (AF G H.size) := vx_runV (g := F0 x.2.1 pc ls st0) ⟨hx, hb, hml, hown, hts⟩ (M l hst H.size) (cwV n hts g hw rfl rfl ⟨rfl, hy.1, hy.2.1, hy.2.2⟩ hR) ⟨preM_blind, hrv, preM_at X hH0 hK hSt hP hS⟩ rfl hlen (hl1.1.trans hn) hstk (lv_room (m := x.2.1) (pc := pc) (ls := ls) (rest := st) hsum) d hf
  intro T hT Y
  rcases run T hT Y with ⟨v2, st₀, t, T', L, h0, Y', hL, e1, e2, ⟨v3, ho, hv, hP1, hF⟩, stp⟩ | ⟨q2, st₀, t, T', L, E, ce, h0, Y', hL, e1, e2, ⟨ho, hP1, hF⟩, hce, hcv, hcl, stp⟩
  · cases ho
  · cases ho
    obtain ⟨k1, k2, k3⟩ := vx_keep h0 e1 hS (fun q _ h => af_sub X hS q h) (af_sub X hS) hL hF
    rw [hH0] at k3
    obtain ⟨r1, r2⟩ := hThr E0 σ1 T'.heap (locs ++ L) hg ((X.1 _ _).mpr (by rw [e1]; exact hP1)) k3
    obtain ⟨t2, a1, b1⟩ := vx_out (pc := pc) (ls := ls) (rest := st) (p := p) (l := l) (e := e) (below := below) (Qc := Qc) (XC := XC) (args := args) (free := free) (mc := R.cells) (ms := R.slots) (by rw [htab]; intro z hz; cases hz) hlk (by rw [e1]; exact hce) hcv hcl (fun t ht hal => r1 t hal (by rw [ht]; exact Nat.le_refl _) (fun q _ => by rw [ht])) r2 hf.1 hf.2 T' rfl Y'
    exact ⟨t2, stp.trans a1, b1⟩
theorem j_escS (C : Cx x cc mL own ret [] Ts R G.1 (tysF G)) (X : Wx x G) {y : MethodName} {bytes : ByteArray} {maxL idx n : Nat} {ret' : Option FieldType} {ws ws' : List Cond} {rm : Room} {vs : List Value} {E0 : String} (M : MM y ws rm vs G σ (.inr E0) σ1) (d : decode cc pc = .ok (.invokestatic idx, 3)) (g : GoodIn Ts (va_wsS own idx y ws)) (hw : ws = Cond.code y bytes maxL ret' :: ws') (hy : hyOk y n) (hlen : vs.length = n) (hstk : st0 = vs.reverse ++ st) (hR : rm.frames + 1 ≤ R.frames ∧ 8 + (maxL + 11) + rm.locals ≤ R.locals) (hsum : (st.map fun v => v.category).sum ≤ 8) (hf : kc + rm.cells ≤ R.cells ∧ ns + rm.slots ≤ R.slots) (hg : x.2.2.2.2.2.2 = (.inr E0, σ1)) : J x lo st0 σ pc kc ns := by
  obtain ⟨p, l, e, s, args, below, meth, c, Qc, XC, free, hω, hx, hb, hml, hn, hts, hown, hK, hr, hlk, htab, hst, hH0, hSt, hRet, hThr⟩ := C
  intro H locs ls hl1 hP hS
  refine (hω _ _ _ _ _).mpr ?_
  have run : vx_Run p l e R s x.2.1 args below meth c H locs kc ns rm.cells rm.slots (F0 x.2.1 pc ls st0) st (QcM G (.inr E0) σ1 H.size vs.toArray) (XcM G (.inr E0) σ1 H.size) (AF G H.size) := vx_runS (g := F0 x.2.1 pc ls st0) ⟨hx, hb, hml, hown, hts⟩ (M l hst H.size) (va_cwS n hts g hw rfl rfl ⟨hy.1, hy.2.1, hy.2.2⟩ hR) ⟨preM_blind, preM_at X hH0 hK hSt hP hS⟩ rfl hlen (hl1.1.trans hn) hstk (lv_room (m := x.2.1) (pc := pc) (ls := ls) (rest := st) hsum) d hf
  intro T hT Y
  rcases run T hT Y with ⟨v2, st₀, t, T', L, h0, Y', hL, e1, e2, ⟨v3, ho, hv, hP1, hF⟩, stp⟩ | ⟨q2, st₀, t, T', L, E, ce, h0, Y', hL, e1, e2, ⟨ho, hP1, hF⟩, hce, hcv, hcl, stp⟩
  · cases ho
  · cases ho
    obtain ⟨k1, k2, k3⟩ := vx_keep h0 e1 hS (fun q _ h => af_sub X hS q h) (af_sub X hS) hL hF
    rw [hH0] at k3
    obtain ⟨r1, r2⟩ := hThr E0 σ1 T'.heap (locs ++ L) hg ((X.1 _ _).mpr (by rw [e1]; exact hP1)) k3
    obtain ⟨t2, a1, b1⟩ := vx_out (pc := pc) (ls := ls) (rest := st) (p := p) (l := l) (e := e) (below := below) (Qc := Qc) (XC := XC) (args := args) (free := free) (mc := R.cells) (ms := R.slots) (by rw [htab]; intro z hz; cases hz) hlk (by rw [e1]; exact hce) hcv hcl (fun t ht hal => r1 t hal (by rw [ht]; exact Nat.le_refl _) (fun q _ => by rw [ht])) r2 hf.1 hf.2 T' rfl Y'
    exact ⟨t2, stp.trans a1, b1⟩
/-- the callee throws, and a row of the table here takes it -/
theorem j_catV (C : Cx x cc mL own ret tab Ts R G.1 (tysF G)) (X : Wx x G) {y : MethodName} {bytes : ByteArray} {maxL idx b K n : Nat} {ret' : Option FieldType} {ws ws' : List Cond} {rm : Room} {vs : List Value} {E0 : String} (M : MM y ws rm (.ref (G.2.2 b) :: vs) G σ (.inr E0) σ1) (d : decode cc pc = .ok (.invokevirtual idx, 3)) (g : GoodIn Ts (wsV own idx y.cls y ws)) (hw : ws = Cond.code y bytes maxL ret' :: ws') (hy : hyOk y n) (hlen : vs.length = n) (hi : Ok b K) {ci : Nat} {q : vw_C} {fs : List Value} (he : EnR G b K (σ.1 b) (σ.2 b) = .inr (ci, fs)) (hc : vwCl[ci]? = some q) (hq : q.1 = y.cls) (hstk : st0 = vs.reverse ++ .ref (G.2.2 b) :: st) (hR : rm.frames + 1 ≤ R.frames ∧ 8 + (maxL + 11) + rm.locals ≤ R.locals) (hsum : (st.map fun v => v.category).sum ≤ 8) (hf : kc + rm.cells ≤ R.cells ∧ ns + rm.slots ≤ R.slots) (pre : List ExceptionTableEntry) (e0 : ExceptionTableEntry) (suf : List ExceptionTableEntry) (hsp : tab = pre ++ e0 :: suf) (hpass : ∀ z ∈ pre, covers z pc = false ∨ (z.catchType ≠ 0 ∧ ∃ nm : String, Cond.classLink own z.catchType nm ∈ Ts ∧ nm ∈ excs ∧ E0 ≠ nm)) (hcov : covers e0 pc = true) (hct : e0.catchType ≠ 0) (hl9 : Cond.classLink own e0.catchType E0 ∈ Ts) (hex : E0 ∈ excs) (k0 : ∀ q : Nat, J x lo [.ref q] σ1 e0.handlerPc (kc + rm.cells) (ns + rm.slots)) : J x lo st0 σ pc kc ns := by
  obtain ⟨p, l, e, s, args, below, meth, c, Qc, XC, free, hω, hx, hb, hml, hn, hts, hown, hK, hr, hlk, htab, hst, hH0, hSt, hRet, hThr⟩ := C
  intro H locs ls hl1 hP hS
  refine (hω _ _ _ _ _).mpr ?_
  have hrv := va_recv hK ((X.1 σ H).mp hP) hc ((g_at hi).trans (by rw [he]))
  rw [hq] at hrv
  have run : vx_Run p l e R s x.2.1 args below meth c H locs kc ns rm.cells rm.slots (F0 x.2.1 pc ls st0) st (QcM G (.inr E0) σ1 H.size (Value.ref (G.2.2 b) :: vs).toArray) (XcM G (.inr E0) σ1 H.size) (AF G H.size) := vx_runV (g := F0 x.2.1 pc ls st0) ⟨hx, hb, hml, hown, hts⟩ (M l hst H.size) (cwV n hts g hw rfl rfl ⟨rfl, hy.1, hy.2.1, hy.2.2⟩ hR) ⟨preM_blind, hrv, preM_at X hH0 hK hSt hP hS⟩ rfl hlen (hl1.1.trans hn) hstk (lv_room (m := x.2.1) (pc := pc) (ls := ls) (rest := st) hsum) d hf
  intro T hT Y
  rcases run T hT Y with ⟨v2, st₀, t, T', L, h0, Y', hL, e1, e2, ⟨v3, ho, hv, hP1, hF⟩, stp⟩ | ⟨q2, st₀, t, T', L, E, ce, h0, Y', hL, e1, e2, ⟨ho, hP1, hF⟩, hce, hcv, hcl, stp⟩
  · cases ho
  · cases ho
    obtain ⟨k1, k2, k3⟩ := vx_keep h0 e1 hS (fun q _ h => af_sub X hS q h) (af_sub X hS) hL hF
    obtain ⟨t2, a1, b1⟩ := vx_catch (pc := pc) (ls := ls) (rest := st) (p := p) (l := l) (e := e) (below := below) (R := R) (args := args) (cells := kc + rm.cells) (slots := ns + rm.slots) (locs := locs ++ L) (H := T'.heap) (Q := vx_MQ below Qc XC args s R.cells R.slots free) (meth := meth) hown pre e0 suf (by rw [htab, hsp]) (fun z hz => by
      rcases hpass z hz with hno | ⟨z1, nm, z2, z3, z4⟩
      · exact Or.inl hno
      exact Or.inr ⟨z1, nm, hts _ z2, hSt.2.2.2.2.2 _ hex _ z3 z4⟩) hcov hct (hts _ hl9) (va_Nw.use (A := args) rfl (hSt.2.2.2.1 _ hex)) (by rw [e1]; exact hce) hcv hcl ((hω _ _ _ _ _).mp (k0 q2 T'.heap (locs ++ L) ls hl1 ((X.1 _ _).mpr (by rw [e1]; exact hP1)) k3)) T' rfl Y'
    exact ⟨t2, stp.trans a1, b1⟩
/-- throw new cls(text) -/
theorem j_throw {S : Type} {x : Xt S} {D : va_G} {tys : List (ClassId × FieldType)} {σ : S} (C : Cx x cc mL own ret [] Ts R D tys) {ik is ic : Nat} {cls text : String} (names : List String) (d0 : decode cc pc = .ok (.new ik, 3)) (d3 : decode cc (pc + 3) = .ok (.dup, 1)) (d4 : decode cc (pc + 4) = .ok (.ldc is, 2)) (d6 : decode cc (pc + 6) = .ok (.invokespecial ic, 3)) (d9 : decode cc (pc + 9) = .ok (.athrow, 1)) (hcls : Bundle.fit cls = true) (hnames : ∀ n ∈ names, Bundle.fit n = true) (hk : Cond.classLink own ik cls ∈ Ts) (hini : Cond.initialized cls ∈ Ts) (hstr : (own, is, text) ∈ strs) (hat : ∀ w ∈ (vx_atS own ic cls names).filter goodWord, w ∈ Ts) (hat2 : ∀ w ∈ (vx_atS own ic cls names).filter (fun w => !goodWord w), w ∈ [Cond.castable cls cls, Cond.declares (Bundle.initS "java/lang/RuntimeException"), Cond.declares (Bundle.initS "java/lang/Exception"), Cond.declares (Bundle.initS "java/lang/Throwable")]) (hex : cls ∈ excs) (hgood : ∀ w ∈ Cond.classLink own ik cls :: Cond.initialized cls :: vx_atS own ic cls names, vx_ot w = true) (hRf : names.length + 3 < R.frames) (hRl : (st.map fun v => v.category).sum + (13 * (names.length + 1) + 43) ≤ R.locals) (hRc : kc + 1 ≤ R.cells) (hRs : ns + 6 ≤ R.slots) (hP1 : ∀ (τ : S) (H H1 : Heap), x.2.2.2.1 τ H → H.size ≤ H1.size → (∀ q : Nat, q < H.size → H1[q]? = H[q]?) → x.2.2.2.1 τ H1) (hg : x.2.2.2.2.2.2 = (.inr cls, σ)) : J x lo st σ pc kc ns := by
  obtain ⟨p, l, e, s, args, below, meth, c, Qc, XC, free, hω, hx, hb, hml, hn, hts, hown, hK, hr, hlk, htab, hst, hH0, hSt, hRet, hThr⟩ := C
  intro H locs ls hl1 hP hS
  refine (hω _ _ _ _ _).mpr ?_
  rw [hH0] at hS
  obtain ⟨sa, hsa⟩ := hSt.2.2.1 (own, is, text) hstr
  obtain ⟨r1, r2⟩ := hThr cls σ H locs hg hP hS
  exact vx_throwS hx hb hst hown hcls hnames (hts _ hk) (hts _ hini) hsa (vx_hat (fun w hw => hts w (hat w hw)) hat2 (vx_c (va_Nw.use (A := args) rfl (hSt.2.2.2.1 cls hex)) (vx_c (va_Nw.use (A := args) rfl (hSt.2.2.2.2.1 _ (by decide))) (vx_c (va_Nw.use (A := args) rfl (hSt.2.2.2.2.1 _ (by decide))) (vx_c (va_Nw.use (A := args) rfl (hSt.2.2.2.2.1 _ (by decide))) vx_n))))) hgood hSt.1 hSt.2.1 hS (by rw [hml, ← hn]; exact hl1.1) d0 d3 d4 d6 d9 (by rw [htab]; intro z hz; cases hz) hRf hRl hRc hRs hlk (fun t h1 h2 h3 => r1 t h1 h2 h3) r2 hRc hRs
/-- throw new cls(text) -/
theorem j_throwW {S : Type} {x : Xt S} {D : va_G} {tys : List (ClassId × FieldType)} {σ : S} (C : Cx x cc mL own ret [] Ts R D tys) {ik is ic : Nat} {cls text : String} (names : List String) (d0 : decode cc pc = .ok (.new ik, 3)) (d3 : decode cc (pc + 3) = .ok (.dup, 1)) (d4 : decode cc (pc + 4) = .ok (.ldc_w is, 3)) (d7 : decode cc (pc + 7) = .ok (.invokespecial ic, 3)) (d10 : decode cc (pc + 10) = .ok (.athrow, 1)) (hcls : Bundle.fit cls = true) (hnames : ∀ n ∈ names, Bundle.fit n = true) (hk : Cond.classLink own ik cls ∈ Ts) (hini : Cond.initialized cls ∈ Ts) (hstr : (own, is, text) ∈ strs) (hat : ∀ w ∈ (vx_atS own ic cls names).filter goodWord, w ∈ Ts) (hat2 : ∀ w ∈ (vx_atS own ic cls names).filter (fun w => !goodWord w), w ∈ [Cond.castable cls cls, Cond.declares (Bundle.initS "java/lang/RuntimeException"), Cond.declares (Bundle.initS "java/lang/Exception"), Cond.declares (Bundle.initS "java/lang/Throwable")]) (hex : cls ∈ excs) (hgood : ∀ w ∈ Cond.classLink own ik cls :: Cond.initialized cls :: vx_atS own ic cls names, vx_ot w = true) (hRf : names.length + 3 < R.frames) (hRl : (st.map fun v => v.category).sum + (13 * (names.length + 1) + 43) ≤ R.locals) (hRc : kc + 1 ≤ R.cells) (hRs : ns + 6 ≤ R.slots) (hP1 : ∀ (τ : S) (H H1 : Heap), x.2.2.2.1 τ H → H.size ≤ H1.size → (∀ q : Nat, q < H.size → H1[q]? = H[q]?) → x.2.2.2.1 τ H1) (hg : x.2.2.2.2.2.2 = (.inr cls, σ)) : J x lo st σ pc kc ns := by
  obtain ⟨p, l, e, s, args, below, meth, c, Qc, XC, free, hω, hx, hb, hml, hn, hts, hown, hK, hr, hlk, htab, hst, hH0, hSt, hRet, hThr⟩ := C
  intro H locs ls hl1 hP hS
  refine (hω _ _ _ _ _).mpr ?_
  rw [hH0] at hS
  obtain ⟨sa, hsa⟩ := hSt.2.2.1 (own, is, text) hstr
  obtain ⟨r1, r2⟩ := hThr cls σ H locs hg hP hS
  exact vx_throwSW hx hb hst hown hcls hnames (hts _ hk) (hts _ hini) hsa (vx_hat (fun w hw => hts w (hat w hw)) hat2 (vx_c (va_Nw.use (A := args) rfl (hSt.2.2.2.1 cls hex)) (vx_c (va_Nw.use (A := args) rfl (hSt.2.2.2.2.1 _ (by decide))) (vx_c (va_Nw.use (A := args) rfl (hSt.2.2.2.2.1 _ (by decide))) (vx_c (va_Nw.use (A := args) rfl (hSt.2.2.2.2.1 _ (by decide))) vx_n))))) hgood hSt.1 hSt.2.1 hS (by rw [hml, ← hn]; exact hl1.1) d0 d3 d4 d7 d10 (by rw [htab]; intro z hz; cases hz) hRf hRl hRc hRs hlk (fun t h1 h2 h3 => r1 t h1 h2 h3) r2 hRc hRs
theorem j_throwX {S : Type} {x : Xt S} {D : va_G} {tys : List (ClassId × FieldType)} {σ : S} (C : Cx x cc mL own ret [] Ts R D tys) {ik is ic : Nat} {cls text : String} (names : List String) {ix : Nat} {rx : ByteArray} (x0 : decode rx 0 = .ok (.aload_n 0, 1)) (x1 : decode rx 1 = .ok (.aload_n 1, 1)) (x2 : decode rx 2 = .ok (.invokespecial ix, 3)) (x5 : decode rx 5 = .ok (.return_, 1)) (d0 : decode cc pc = .ok (.new ik, 3)) (d3 : decode cc (pc + 3) = .ok (.dup, 1)) (d4 : decode cc (pc + 4) = .ok (.ldc is, 2)) (d6 : decode cc (pc + 6) = .ok (.invokespecial ic, 3)) (d9 : decode cc (pc + 9) = .ok (.athrow, 1)) (hcls : Bundle.fit cls = true) (hnames : ∀ n ∈ names, Bundle.fit n = true) (hk : Cond.classLink own ik cls ∈ Ts) (hini : Cond.initialized cls ∈ Ts) (hstr : (own, is, text) ∈ strs) (hat : ∀ w ∈ (vx_atX own ic cls ix rx names).filter goodWord, w ∈ Ts) (hat2 : ∀ w ∈ (vx_atX own ic cls ix rx names).filter (fun w => !goodWord w), w ∈ [Cond.castable cls cls, Cond.declares (Bundle.initS "java/lang/RuntimeException"), Cond.declares (Bundle.initS "java/lang/Exception"), Cond.declares (Bundle.initS "java/lang/Throwable")]) (hex : cls ∈ excs) (hgood : ∀ w ∈ Cond.classLink own ik cls :: Cond.initialized cls :: vx_atX own ic cls ix rx names, vx_ot w = true) (hRf : names.length + 3 < R.frames) (hRl : (st.map fun v => v.category).sum + (13 * (names.length + 1) + 43) ≤ R.locals) (hRc : kc + 1 ≤ R.cells) (hRs : ns + 6 ≤ R.slots) (hP1 : ∀ (τ : S) (H H1 : Heap), x.2.2.2.1 τ H → H.size ≤ H1.size → (∀ q : Nat, q < H.size → H1[q]? = H[q]?) → x.2.2.2.1 τ H1) (hg : x.2.2.2.2.2.2 = (.inr cls, σ)) : J x lo st σ pc kc ns := by
  obtain ⟨p, l, e, s, args, below, meth, c, Qc, XC, free, hω, hx, hb, hml, hn, hts, hown, hK, hr, hlk, htab, hst, hH0, hSt, hRet, hThr⟩ := C
  intro H locs ls hl1 hP hS
  refine (hω _ _ _ _ _).mpr ?_
  rw [hH0] at hS
  obtain ⟨sa, hsa⟩ := hSt.2.2.1 (own, is, text) hstr
  obtain ⟨r1, r2⟩ := hThr cls σ H locs hg hP hS
  exact vx_throwX hx hb hst x0 x1 x2 x5 hown hcls hnames (hts _ hk) (hts _ hini) hsa (vx_hat (fun w hw => hts w (hat w hw)) hat2 (vx_c (va_Nw.use (A := args) rfl (hSt.2.2.2.1 cls hex)) (vx_c (va_Nw.use (A := args) rfl (hSt.2.2.2.2.1 _ (by decide))) (vx_c (va_Nw.use (A := args) rfl (hSt.2.2.2.2.1 _ (by decide))) (vx_c (va_Nw.use (A := args) rfl (hSt.2.2.2.2.1 _ (by decide))) vx_n))))) hgood hSt.1 hSt.2.1 hS (by rw [hml, ← hn]; exact hl1.1) d0 d3 d4 d6 d9 (by rw [htab]; intro z hz; cases hz) hRf hRl hRc hRs hlk (fun t h1 h2 h3 => r1 t h1 h2 h3) r2 hRc hRs
theorem j_throwXW {S : Type} {x : Xt S} {D : va_G} {tys : List (ClassId × FieldType)} {σ : S} (C : Cx x cc mL own ret [] Ts R D tys) {ik is ic : Nat} {cls text : String} (names : List String) {ix : Nat} {rx : ByteArray} (x0 : decode rx 0 = .ok (.aload_n 0, 1)) (x1 : decode rx 1 = .ok (.aload_n 1, 1)) (x2 : decode rx 2 = .ok (.invokespecial ix, 3)) (x5 : decode rx 5 = .ok (.return_, 1)) (d0 : decode cc pc = .ok (.new ik, 3)) (d3 : decode cc (pc + 3) = .ok (.dup, 1)) (d4 : decode cc (pc + 4) = .ok (.ldc_w is, 3)) (d7 : decode cc (pc + 7) = .ok (.invokespecial ic, 3)) (d10 : decode cc (pc + 10) = .ok (.athrow, 1)) (hcls : Bundle.fit cls = true) (hnames : ∀ n ∈ names, Bundle.fit n = true) (hk : Cond.classLink own ik cls ∈ Ts) (hini : Cond.initialized cls ∈ Ts) (hstr : (own, is, text) ∈ strs) (hat : ∀ w ∈ (vx_atX own ic cls ix rx names).filter goodWord, w ∈ Ts) (hat2 : ∀ w ∈ (vx_atX own ic cls ix rx names).filter (fun w => !goodWord w), w ∈ [Cond.castable cls cls, Cond.declares (Bundle.initS "java/lang/RuntimeException"), Cond.declares (Bundle.initS "java/lang/Exception"), Cond.declares (Bundle.initS "java/lang/Throwable")]) (hex : cls ∈ excs) (hgood : ∀ w ∈ Cond.classLink own ik cls :: Cond.initialized cls :: vx_atX own ic cls ix rx names, vx_ot w = true) (hRf : names.length + 3 < R.frames) (hRl : (st.map fun v => v.category).sum + (13 * (names.length + 1) + 43) ≤ R.locals) (hRc : kc + 1 ≤ R.cells) (hRs : ns + 6 ≤ R.slots) (hP1 : ∀ (τ : S) (H H1 : Heap), x.2.2.2.1 τ H → H.size ≤ H1.size → (∀ q : Nat, q < H.size → H1[q]? = H[q]?) → x.2.2.2.1 τ H1) (hg : x.2.2.2.2.2.2 = (.inr cls, σ)) : J x lo st σ pc kc ns := by
  obtain ⟨p, l, e, s, args, below, meth, c, Qc, XC, free, hω, hx, hb, hml, hn, hts, hown, hK, hr, hlk, htab, hst, hH0, hSt, hRet, hThr⟩ := C
  intro H locs ls hl1 hP hS
  refine (hω _ _ _ _ _).mpr ?_
  rw [hH0] at hS
  obtain ⟨sa, hsa⟩ := hSt.2.2.1 (own, is, text) hstr
  obtain ⟨r1, r2⟩ := hThr cls σ H locs hg hP hS
  exact vx_throwXW hx hb hst x0 x1 x2 x5 hown hcls hnames (hts _ hk) (hts _ hini) hsa (vx_hat (fun w hw => hts w (hat w hw)) hat2 (vx_c (va_Nw.use (A := args) rfl (hSt.2.2.2.1 cls hex)) (vx_c (va_Nw.use (A := args) rfl (hSt.2.2.2.2.1 _ (by decide))) (vx_c (va_Nw.use (A := args) rfl (hSt.2.2.2.2.1 _ (by decide))) (vx_c (va_Nw.use (A := args) rfl (hSt.2.2.2.2.1 _ (by decide))) vx_n))))) hgood hSt.1 hSt.2.1 hS (by rw [hml, ← hn]; exact hl1.1) d0 d3 d4 d7 d10 (by rw [htab]; intro z hz; cases hz) hRf hRl hRc hRs hlk (fun t h1 h2 h3 => r1 t h1 h2 h3) r2 hRc hRs
end CALLS
theorem va_P_kept {D : va_G} {cl : List vw_C} {ws : va_W} {H H1 : Heap} (h : va_P D cl ws H) (hq : ∀ q : Nat, q < H.size → H1[q]? = H[q]?) : va_P D cl ws H1 := fun k q hk => (h k q hk).kept (hq q.1 (h k q hk).lt)
theorem Wx.grow {x : Xt Mem} {G : Gt} (X : Wx x G) : ∀ (τ : Mem) (H H1 : Heap), x.2.2.2.1 τ H → H.size ≤ H1.size → (∀ q : Nat, q < H.size → H1[q]? = H[q]?) → x.2.2.2.1 τ H1 := fun τ H H1 h _ hq => (X.1 τ H1).mpr (va_P_kept ((X.1 τ H).mp h) hq)
/-- a contract out of a walk -/
theorem mm_of {y : MethodName} {ws ws' : List Cond} {cc : ByteArray} {maxL : Nat} {ret : Option FieldType} {rm : Room} {vs : List Value} {G : Gt} {σ : Mem} {o : Option Value ⊕ String} {σ' : Mem} (hy : plainName y.cls = true) (hw : ws = Cond.code y cc maxL ret :: ws') (hlen : (lg_sl vs).length ≤ maxL)
    (body : ∀ x : Xt Mem, Cx x cc maxL y.cls ret [] ws rm G.1 (tysF G) → Wx x G → x.2.2.2.2.2.2 = (o, σ') → J x (lv_args 0 vs) [] σ 0 0 0) : MM y ws rm vs G σ o σ' := by
  intro l hst sz
  refine vx_ofW (cc := cc) (maxL := maxL) (ret := ret) hy hw ?_
  intro p e s m args below meth c s₁ B hml htab hv
  obtain ⟨rfl, hsz, hP, hK, hI, hSt⟩ := hv
  have hts := atoms_spec (ws := ws) B.pre
  have hX : Wx (((fun H locs k n g => W p l e (headSpec ws rm).room s m vs.toArray below meth c H locs k n (vx_MQ below (QcM G o σ' sz) (XcM G o σ' sz) vs.toArray s rm.cells rm.slots (AF G sz)) g), m, maxL, (fun τ H => va_P G.1 vwCl (wsF G τ) H), AF G sz, s.heap, (o, σ')) : Xt Mem) G :=
    ⟨fun _ _ => Iff.rfl, hI, fun i hi => Or.inl ⟨i, hi, rfl⟩, fun q hq => Or.inr (by rw [← hsz]; exact hq)⟩
  have htab' : c.exceptionTable.toList = [] := by
    cases h : c.exceptionTable.toList with
    | nil => rfl
    | cons a t => exact absurd (htab a (by rw [h]; exact List.mem_cons_self)) id
  have K := body _ ⟨p, l, e, s, vs.toArray, below, meth, c, QcM G o σ' sz, XcM G o σ' sz, AF G sz, fun _ _ _ _ _ => Iff.rfl, B.exec, B.bytes, hml, rfl, hts, findClass_of_methodNamed B.named, hK, B.returns, B.notSynchronized, htab', hst, rfl, hSt,
    (fun v τ H locs hg hp hS => ⟨fun t ht _ => ⟨v, (Prod.mk.inj hg).1, rfl, by rw [(Prod.mk.inj hg).2, ht]; exact hp, hS.F ht⟩, hS.2.2⟩),
    (fun E τ H locs hg hp hS => ⟨fun t _ h2 h3 => ⟨(Prod.mk.inj hg).1, by rw [(Prod.mk.inj hg).2]; exact va_P_kept hp h3, Nat.le_trans hS.1 h2, fun q h4 h5 => (h3 q (Nat.lt_of_lt_of_le h4 hS.1)).trans (hS.2.1 q h4 h5)⟩, hS.2.2⟩)⟩ hX rfl
  have hl := lv_entry vs (n := maxL) hlen
  rw [lg_entry_eq]
  exact K s.heap [] _ hl hP va_S.rf
/-- a contract out of a walk -/
theorem mm_ofW {y : MethodName} {ws ws' : List Cond} {cc : ByteArray} {maxL : Nat} {ret : Option FieldType} {hh : List (Nat × Nat × Nat × Nat)} {rm : Room} {vs : List Value} {G : Gt} {σ : Mem} {o : Option Value ⊕ String} {σ' : Mem} (hy : plainName y.cls = true) (hw : ws = Cond.codeWith y cc maxL ret hh :: ws') (hlen : (lg_sl vs).length ≤ maxL)
    (body : ∀ x : Xt Mem, Cx x cc maxL y.cls ret (tableOf hh) ws rm G.1 (tysF G) → Wx x G → x.2.2.2.2.2.2 = (o, σ') → J x (lv_args 0 vs) [] σ 0 0 0) : MM y ws rm vs G σ o σ' := by
  intro l hst sz
  refine vx_ofWH (cc := cc) (maxL := maxL) (ret := ret) hy hw ?_
  intro p e s m args below meth c s₁ B hml hv
  obtain ⟨rfl, hsz, hP, hK, hI, hSt⟩ := hv
  have hts := atoms_spec (ws := ws) B.pre
  have hX : Wx (((fun H locs k n g => W p l e (headSpec ws rm).room s m vs.toArray below meth c H locs k n (vx_MQ below (QcM G o σ' sz) (XcM G o σ' sz) vs.toArray s rm.cells rm.slots (AF G sz)) g), m, maxL, (fun τ H => va_P G.1 vwCl (wsF G τ) H), AF G sz, s.heap, (o, σ')) : Xt Mem) G :=
    ⟨fun _ _ => Iff.rfl, hI, fun i hi => Or.inl ⟨i, hi, rfl⟩, fun q hq => Or.inr (by rw [← hsz]; exact hq)⟩
  have htab' : c.exceptionTable.toList = tableOf hh := vx_table (x := y) B (hts _ (by rw [hw]; exact List.mem_cons_self))
  have K := body _ ⟨p, l, e, s, vs.toArray, below, meth, c, QcM G o σ' sz, XcM G o σ' sz, AF G sz, fun _ _ _ _ _ => Iff.rfl, B.exec, B.bytes, hml, rfl, hts, findClass_of_methodNamed B.named, hK, B.returns, B.notSynchronized, htab', hst, rfl, hSt,
    (fun v τ H locs hg hp hS => ⟨fun t ht _ => ⟨v, (Prod.mk.inj hg).1, rfl, by rw [(Prod.mk.inj hg).2, ht]; exact hp, hS.F ht⟩, hS.2.2⟩),
    (fun E τ H locs hg hp hS => ⟨fun t _ h2 h3 => ⟨(Prod.mk.inj hg).1, by rw [(Prod.mk.inj hg).2]; exact va_P_kept hp h3, Nat.le_trans hS.1 h2, fun q h4 h5 => (h3 q (Nat.lt_of_lt_of_le h4 hS.1)).trans (hS.2.1 q h4 h5)⟩, hS.2.2⟩)⟩ hX rfl
  have hl := lv_entry vs (n := maxL) hlen
  rw [lg_entry_eq]
  exact K s.heap [] _ hl hP va_S.rf
/-- pure words of the walks -/
theorem ob {α β : Type} {o : Option α} {f : α → Option β} {b : β} (h : o.bind f = some b) : ∃ a, o = some a ∧ f a = some b := by
  cases o with
  | none => cases h
  | some a => exact ⟨a, rfl, h⟩
theorem sg {α : Type} {c : Prop} [Decidable c] {A : Option α} {r : α} (h : (if c then A else none) = some r) : c ∧ A = some r := by
  by_cases hc : c
  · rw [if_pos hc] at h
    exact ⟨hc, h⟩
  · rw [if_neg hc] at h
    cases h
def lm {α : Type} (m : Mem) (f : Mem → Option α) : Option α := f m
theorem lm_e {α : Type} {m : Mem} {f : Mem → Option α} {b : α} (h : lm m f = some b) : ∃ s, m = s ∧ f s = some b := ⟨m, rfl, h⟩
/-- outcomes: of a method that returns or throws -/
def oc (o : Int32 ⊕ String) : Option Value ⊕ String := match o with
  | .inl r => .inl (some (.int r))
  | .inr E => .inr E
def ocv (o : Unit ⊕ String) : Option Value ⊕ String := match o with
  | .inl _ => .inl none
  | .inr E => .inr E
abbrev inR (a : Int32) (n : Nat) : Prop := ¬ (a < 0 ∨ n ≤ a.toNatClampNeg)
theorem nar_c {v : Int32} (h : 0 ≤ v ∧ v ≤ 65535) : narrow .char (.int v) = .int v ∧ fits .char (.int v) = true := by
  obtain ⟨j, hj, e⟩ := nI_of2 (M := 65535) (n := 65535) (by decide) (Int32.not_lt.mpr h.1) h.2
  rw [e]
  exact pk_charN (by omega)
theorem nar_z {v : Int32} (h : v = 0 ∨ v = 1) : narrow .boolean (.int v) = .int v ∧ fits .boolean (.int v) = true := by
  rcases h with h | h <;> (subst h; decide)
/-- a quotient of two ints is never NaN -/
theorem dq_q1 (n : Nat) (h : n < 2 ^ 32) : FP.Core.leading n 1 ≤ 32 := by
  unfold FP.Core.leading
  have h1 : n.log2 < 33 := by
    by_cases h0 : n = 0
    · subst h0; decide
    · exact (Nat.log2_lt h0).mpr (by omega)
  have h2 : (1 : Nat).log2 = 0 := by decide
  simp only [h2]
  split <;> omega
/-- an int, rounded: a finite number, zero for zero alone -/
theorem dq_fin (s : Bool) (c : Nat) (hc : c < 2 ^ 32) : ∃ c' q', FP.Core.roundRatio FP.Core.b64 s c 1 0 = .fin s c' q' ∧ (c ≠ 0 → c' ≠ 0) := by
  unfold FP.Core.roundRatio
  by_cases h0 : c = 0
  · rw [if_pos h0]
    exact ⟨_, _, rfl, fun h => absurd h0 h⟩
  · rw [if_neg h0]
    have hq : FP.Core.quantum FP.Core.b64 c 1 0 ≤ -20 := by
      unfold FP.Core.quantum
      have := dq_q1 c hc
      have e1 : FP.Core.b64.qmin = -1074 := by decide
      have e2 : ((FP.Core.b64.p : Nat) : Int) = 53 := by decide
      rw [e1, e2]
      omega
    generalize FP.Core.quantum FP.Core.b64 c 1 0 = q at hq
    have hmax : FP.Core.b64.qmax = 971 := by decide
    have ht : FP.Core.b64.tails ≠ 0 := by decide
    unfold FP.Core.roundAt FP.Core.settle FP.Core.bound
    have hn : FP.Core.nearest (FP.Core.unitsNum c 0 q) (FP.Core.unitsDen 1 0 q) ≠ 0 := by
      have hd : FP.Core.unitsDen 1 0 q = 1 := by
        unfold FP.Core.unitsDen
        rw [show (q - 0).toNat = 0 by omega]
      have hu : FP.Core.unitsNum c 0 q ≠ 0 := by
        unfold FP.Core.unitsNum
        exact Nat.mul_ne_zero h0 (Nat.ne_of_gt (Nat.two_pow_pos _))
      rw [hd]
      unfold FP.Core.nearest
      rw [Nat.mod_one, if_pos (by decide), Nat.div_one]
      exact hu
    split
    · rw [if_pos (by rw [hmax]; omega)]
      exact ⟨_, _, rfl, fun _ => hn⟩
    · rw [if_pos (by rw [hmax]; omega)]
      exact ⟨_, _, rfl, fun _ => ht⟩
theorem dq_val (a : Int32) : ∃ s c q, FP.Core.val64 (FP.i2d a) = .fin s c q ∧ (a ≠ 0 → c ≠ 0) := by
  have hb : a.toInt.natAbs < 2 ^ 32 := by
    have h1 := Int32.toInt_lt a
    have h2 := Int32.le_toInt a
    omega
  obtain ⟨c', q', e1, e2⟩ := dq_fin (decide (a.toInt < 0)) a.toInt.natAbs hb
  refine ⟨decide (a.toInt < 0), c', q', ?_, fun ha => e2 (fun h => ha ?_)⟩
  · rw [show FP.Core.val64 (FP.i2d a) = FP.Core.round FP.Core.b64 (FP.Core.ofInt a.toInt) from FP.Core.val64_i2d a]
    exact e1
  · have : a.toInt = 0 := by omega
    exact Int32.toInt_inj.mp (by rw [this]; rfl)
theorem dq_nn (s : Bool) (c d : Nat) (e : Int) : FP.Core.roundRatio FP.Core.b64 s c d e ≠ .nan := by
  unfold FP.Core.roundRatio
  split
  · intro h; cases h
  · unfold FP.Core.roundAt FP.Core.settle FP.Core.bound
    split <;> split <;> (intro h; cases h)
theorem dq_bits {r : UInt64} (h : FP.Core.val64 r ≠ .nan) : vf_n64 r := by
  unfold vf_n64
  have hm : (r &&& 0x7fffffffffffffff).toNat = r.toNat % 2 ^ 63 := by
    rw [UInt64.toNat_and]
    exact Nat.and_two_pow_sub_one_eq_mod r.toNat 63
  rw [UInt64.le_iff_toNat_le, hm, show (0x7ff0000000000000 : UInt64).toNat = 2047 * 2 ^ 52 from by decide]
  unfold FP.Core.val64 FP.Core.decode FP.Core.fieldE FP.Core.fieldT at h
  have e1 : FP.Core.b64.tails = 2 ^ 52 := by decide
  have e2 : FP.Core.b64.exps = 2048 := by decide
  rw [e1, e2] at h
  have hr : r.toNat < 2 ^ 64 := r.toNat_lt
  generalize r.toNat = n at h hr
  by_cases c1 : n / 2 ^ 52 % 2048 = 2047
  · rw [if_pos (show n / 2 ^ 52 % 2048 = 2048 - 1 from c1)] at h
    by_cases c2 : n % 2 ^ 52 = 0
    · omega
    · rw [if_neg c2] at h
      exact absurd rfl h
  · omega
theorem dq_ok {a b : Int32} (h : ¬ b = 0) : vf_n64 (dq a b) := by
  apply dq_bits
  obtain ⟨s, c, q, e1, -⟩ := dq_val a
  obtain ⟨t, d, r, e2, e3⟩ := dq_val b
  unfold dq
  rw [show FP.Core.val64 (FP.ddiv (FP.i2d a) (FP.i2d b)) = FP.Core.quotient FP.Core.b64 (FP.Core.val64 (FP.i2d a)) (FP.Core.val64 (FP.i2d b)) from FP.Core.val64_ddiv _ _, e1, e2]
  unfold FP.Core.quotient
  simp only []
  rw [if_neg (e3 h)]
  exact dq_nn _ _ _ _
theorem vp01 : vp_in 0 1 := by show ¬ ((0 : Int32) < 0 ∨ 1 ≤ (0 : Int32).toNatClampNeg); decide
theorem dqm1 : (13830554455654793216 : UInt64) = dq (-1) 1 := by decide +kernel
theorem ts_out8 {a : Int32} (c0 : ¬ a = 0) (c1 : ¬ a = 1) (c2 : ¬ a = 2) (c3 : ¬ a = 3) (c4 : ¬ a = 4) (c5 : ¬ a = 5) (c6 : ¬ a = 6) (c7 : ¬ a = 7) (c8 : ¬ a = 8) : a.toInt < 0 ∨ 8 < a.toInt := by
  rw [← Int32.toInt_inj] at c0 c1 c2 c3 c4 c5 c6 c7 c8
  have e0 : (0 : Int32).toInt = 0 := rfl
  have e1 : (1 : Int32).toInt = 1 := rfl
  have e2 : (2 : Int32).toInt = 2 := rfl
  have e3 : (3 : Int32).toInt = 3 := rfl
  have e4 : (4 : Int32).toInt = 4 := rfl
  have e5 : (5 : Int32).toInt = 5 := rfl
  have e6 : (6 : Int32).toInt = 6 := rfl
  have e7 : (7 : Int32).toInt = 7 := rfl
  have e8 : (8 : Int32).toInt = 8 := rfl
  omega
theorem dq01 : dq 0 1 = 0 := by decide +kernel
def od (o : (Int32 × Int32) ⊕ String) : Option Value ⊕ String := match o with
  | .inl r => .inl (some (.double (dq r.1 r.2)))
  | .inr E => .inr E
def rq (G : Gt) (r : Option Nat) : Value := match r with
  | none => .null
  | some j => .ref (G.2.2 j)
section ENDS
variable {x : Xt Mem} {m σ' : Mem}
theorem e_i {v r : Int32} (h : some (v, m) = some (r, σ')) (hg : x.2.2.2.2.2.2 = (.inl (some (.int r)), σ')) : x.2.2.2.2.2.2 = (.inl (some (.int v)), m) := by cases h; exact hg
theorem e_v {r : Unit} (h : some ((), m) = some (r, σ')) (hg : x.2.2.2.2.2.2 = (.inl none, σ')) : x.2.2.2.2.2.2 = (.inl none, m) := by cases h; exact hg
theorem e_r {G : Gt} {v r : Nat} (h : some (v, m) = some (r, σ')) (hg : x.2.2.2.2.2.2 = (.inl (some (.ref (G.2.2 r))), σ')) : x.2.2.2.2.2.2 = (.inl (some (.ref (G.2.2 v))), m) := by cases h; exact hg
theorem e_qn {G : Gt} {r : Option Nat} (h : some (none, m) = some (r, σ')) (hg : x.2.2.2.2.2.2 = (.inl (some (rq G r)), σ')) : x.2.2.2.2.2.2 = (.inl (some .null), m) := by cases h; exact hg
theorem e_q {G : Gt} {v : Nat} {r : Option Nat} (h : some (some v, m) = some (r, σ')) (hg : x.2.2.2.2.2.2 = (.inl (some (rq G r)), σ')) : x.2.2.2.2.2.2 = (.inl (some (.ref (G.2.2 v))), m) := by cases h; exact hg
theorem e_oi {v : Int32} {r : Int32 ⊕ String} (h : some (.inl v, m) = some (r, σ')) (hg : x.2.2.2.2.2.2 = (oc r, σ')) : x.2.2.2.2.2.2 = (.inl (some (.int v)), m) := by cases h; exact hg
theorem e_ov {u : Unit} {r : Unit ⊕ String} (h : some (.inl u, m) = some (r, σ')) (hg : x.2.2.2.2.2.2 = (ocv r, σ')) : x.2.2.2.2.2.2 = (.inl none, m) := by cases h; exact hg
theorem e_l {v r : Int64} (h : some (v, m) = some (r, σ')) (hg : x.2.2.2.2.2.2 = (.inl (some (.long r)), σ')) : x.2.2.2.2.2.2 = (.inl (some (.long v)), m) := by
  cases h; exact hg
theorem e_d {a b : Int32} {r : Int32 × Int32} (h : some ((a, b), m) = some (r, σ')) (hg : x.2.2.2.2.2.2 = (.inl (some (.double (dq r.1 r.2))), σ')) : x.2.2.2.2.2.2 = (.inl (some (.double (dq a b))), m) := by cases h; exact hg
theorem e_od {a b : Int32} {r : (Int32 × Int32) ⊕ String} (h : some (.inl (a, b), m) = some (r, σ')) (hg : x.2.2.2.2.2.2 = (od r, σ')) : x.2.2.2.2.2.2 = (.inl (some (.double (dq a b))), m) := by cases h; exact hg
theorem e_xd {E : String} {r : (Int32 × Int32) ⊕ String} (h : some (.inr E, m) = some (r, σ')) (hg : x.2.2.2.2.2.2 = (od r, σ')) : x.2.2.2.2.2.2 = (.inr E, m) := by cases h; exact hg
theorem e_x {E : String} {r : Int32 ⊕ String} (h : some (.inr E, m) = some (r, σ')) (hg : x.2.2.2.2.2.2 = (oc r, σ')) : x.2.2.2.2.2.2 = (.inr E, m) := by cases h; exact hg
theorem e_xv {E : String} {r : Unit ⊕ String} (h : some (.inr E, m) = some (r, σ')) (hg : x.2.2.2.2.2.2 = (ocv r, σ')) : x.2.2.2.2.2.2 = (.inr E, m) := by cases h; exact hg
end ENDS
theorem j_dconst0q {S : Type} {x : Xt S} {cc : ByteArray} {mL : Nat} {own : String} {ret : Option FieldType} {tab : List ExceptionTableEntry} {Ts : List Cond} {R : Room} {D : va_G} {tys : List (ClassId × FieldType)} {lo : List (Nat × Value)} {st : List Value} {σ : S} {pc kc ns : Nat} (C : Cx x cc mL own ret tab Ts R D tys) (d : decode cc pc = .ok (.dconst 0, 1)) (k0 : J x lo (.double (dq 0 1) :: st) σ (pc + 1) kc ns) : J x lo st σ pc kc ns := by
  rw [dq01] at k0
  exact j_dconst0 C d k0

