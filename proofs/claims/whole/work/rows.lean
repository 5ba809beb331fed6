section
/-! THE ROWS. A state of both systems is one memory: ints by (object, slot), references by (object, slot); objects have fixed numbers (ids), 'ad' gives their addresses.
ids: 0..6 levels of mine 0 (0 the surface), 7 Mine, 8 Trip, 9 Waiting; 10..19 the same of the trial; 20..27, 28..35 requests; 36, 37 places; 38, 39 rows; 40 MineHoist; 41 MineHoistModel; 42.. its arrays -/
abbrev Gt : Type := va_G × (Nat → ClassId) × (Nat → Nat)
abbrev Mem : Type := (Nat → Nat → Int32) × (Nat → Nat → Nat)
def kdL : List Nat := [0,0,0,0,0,0,0,1,3,4, 0,0,0,0,0,0,0,1,3,4, 2,2,2,2,2,2,2,2, 2,2,2,2,2,2,2,2, 7,7,8,8,5,6,9,9,9,9,10,11,11,12,13]
def kd (i : Nat) : Nat := kdL.getD i 99
def rf (i k : Nat) : Nat := match i with
  | 7 => (match k with | 0 => 0 | 1 => 36 | 2 => 9 | _ => 8)
  | 17 => (match k with | 0 => 10 | 1 => 37 | 2 => 19 | _ => 18)
  | 9 => 38
  | 19 => 39
  | 40 => (match k with | 0 => 7 | _ => 17)
  | _ => (match k with | 1 => 42 | 2 => 43 | 3 => 44 | 4 => 45 | 5 => 46 | 11 => 47 | _ => 48)
abbrev Ok (i K : Nat) : Prop := i < 51 ∧ kd i = K
theorem ok_all {P : Nat → Prop} {K : Nat} (h : ∀ i, i < 51 → kd i = K → P i) : ∀ i, Ok i K → P i := fun i o => h i o.1 o.2
theorem sh_1_0 {i : Nat} (h : Ok i 1) : Ok (rf i 0) 0 := ok_all (P := fun i => Ok (rf i 0) 0) (by decide +kernel) i h
theorem sh_1_1 {i : Nat} (h : Ok i 1) : Ok (rf i 1) 7 := ok_all (P := fun i => Ok (rf i 1) 7) (by decide +kernel) i h
theorem sh_1_2 {i : Nat} (h : Ok i 1) : Ok (rf i 2) 4 := ok_all (P := fun i => Ok (rf i 2) 4) (by decide +kernel) i h
theorem sh_1_3 {i : Nat} (h : Ok i 1) : Ok (rf i 3) 3 := ok_all (P := fun i => Ok (rf i 3) 3) (by decide +kernel) i h
theorem sh_4_0 {i : Nat} (h : Ok i 4) : Ok (rf i 0) 8 := ok_all (P := fun i => Ok (rf i 0) 8) (by decide +kernel) i h
theorem sh_5_0 {i : Nat} (h : Ok i 5) : Ok (rf i 0) 1 := ok_all (P := fun i => Ok (rf i 0) 1) (by decide +kernel) i h
theorem sh_5_1 {i : Nat} (h : Ok i 5) : Ok (rf i 1) 1 := ok_all (P := fun i => Ok (rf i 1) 1) (by decide +kernel) i h
theorem sh_6_1 {i : Nat} (h : Ok i 6) : Ok (rf i 1) 9 := ok_all (P := fun i => Ok (rf i 1) 9) (by decide +kernel) i h
theorem sh_6_2 {i : Nat} (h : Ok i 6) : Ok (rf i 2) 9 := ok_all (P := fun i => Ok (rf i 2) 9) (by decide +kernel) i h
theorem sh_6_3 {i : Nat} (h : Ok i 6) : Ok (rf i 3) 9 := ok_all (P := fun i => Ok (rf i 3) 9) (by decide +kernel) i h
theorem sh_6_4 {i : Nat} (h : Ok i 6) : Ok (rf i 4) 9 := ok_all (P := fun i => Ok (rf i 4) 9) (by decide +kernel) i h
theorem sh_6_5 {i : Nat} (h : Ok i 6) : Ok (rf i 5) 10 := ok_all (P := fun i => Ok (rf i 5) 10) (by decide +kernel) i h
theorem sh_6_11 {i : Nat} (h : Ok i 6) : Ok (rf i 11) 11 := ok_all (P := fun i => Ok (rf i 11) 11) (by decide +kernel) i h
theorem sh_6_12 {i : Nat} (h : Ok i 6) : Ok (rf i 12) 11 := ok_all (P := fun i => Ok (rf i 12) 11) (by decide +kernel) i h
def wi (σ : Mem) (i k : Nat) (v : Int32) : Mem := (fun a => if a = i then upd (σ.1 i) k v else σ.1 a, σ.2)
def wr (σ : Mem) (i k j : Nat) : Mem := (σ.1, fun a => if a = i then va_up (σ.2 i) k j else σ.2 a)
/-- a quotient of two ints as doubles -/
def dq (a b : Int32) : UInt64 := FP.ddiv (FP.i2d a) (FP.i2d b)
/-- what an object holds, by its kind -/
def EnR (G : Gt) (i K : Nat) (f : Nat → Int32) (g : Nat → Nat) : va_E := match K with
  | 0 => .inr (4, [.int (f 0), .int (f 1), .int (f 2), .int (f 3), .int (f 4), .int (f 5), .int (f 6), .int (f 7), .int (f 8), .int (f 9), .int (f 10)])
  | 1 => .inr (5, [.ref (G.2.2 (rf i 0)), .ref (G.2.2 (rf i 1)), .ref (G.2.2 (rf i 2)), .ref (G.2.2 (rf i 3)), .int (f 4), .int (f 5), .int (f 6), .int (f 7), .int (f 8), .int (f 9), .int (f 10), .int (f 11), .int (f 12), .int (f 13), .int (f 14), .int (f 15)])
  | 2 => .inr (6, [.int (f 0), .int (f 1), .int (f 2), .int (f 3)])
  | 3 => .inr (7, [.int (f 0), .int (f 1), .int (f 2), .int (f 3), .int (f 4)])
  | 4 => .inr (8, [.ref (G.2.2 (rf i 0)), .int (f 1)])
  | 5 => .inr (9, [.ref (G.2.2 (rf i 0)), .ref (G.2.2 (rf i 1)), .ref (g 2)])
  | 6 => .inr (10, [.int (f 0), .ref (G.2.2 (rf i 1)), .ref (G.2.2 (rf i 2)), .ref (G.2.2 (rf i 3)), .ref (G.2.2 (rf i 4)), .ref (G.2.2 (rf i 5)), .int (f 6), .int (f 7), .int (f 8), .int (f 9), .int (f 10), .ref (G.2.2 (rf i 11)), .ref (G.2.2 (rf i 12)), .ref (g 13), .int (f 14)])
  | 7 => .inl (G.2.1 0, 7, .inr (.inr (.inr (.inr (fun j => some (G.2.2 (g j)))))))
  | 8 => .inl (G.2.1 1, 8, .inr (.inr (.inr (.inr (fun j => some (G.2.2 (g j)))))))
  | 9 => .inl (G.2.1 2, 7, .inl f)
  | 10 => .inl (G.2.1 3, 7, .inl f)
  | 11 => .inl (G.2.1 2, 73, .inl f)
  | 12 => .inl (G.2.1 4, 1, .inr (.inl (fun j => (f j).toInt64)))
  | _ => .inl (G.2.1 5, 1, .inr (.inr (.inr (.inl (fun j => if j = 0 then dq (f 0) (f 1) else 0)))))
def En (G : Gt) (σ : Mem) (i : Nat) : va_E := EnR G i (kd i) (σ.1 i) (σ.2 i)
def wsF (G : Gt) (σ : Mem) : va_W := (List.range 51).map (fun i => (G.2.2 i, En G σ i))
abbrev tysF (G : Gt) : List (ClassId × FieldType) := [(G.2.1 0, .object RX0), (G.2.1 1, .object RX2), (G.2.1 2, .int), (G.2.1 3, .boolean), (G.2.1 4, .long), (G.2.1 5, .double)]
theorem g_in {G : Gt} {σ : Mem} {i : Nat} (h : i < 51) : (wsF G σ)[i]? = some (G.2.2 i, En G σ i) := by
  simp [wsF, h]
theorem g_out {G : Gt} {σ : Mem} {i : Nat} (h : ¬ i < 51) : (wsF G σ)[i]? = none := by
  simp [wsF]; omega
theorem g_at {G : Gt} {σ : Mem} {i K : Nat} (h : Ok i K) : (wsF G σ)[i]? = some (G.2.2 i, EnR G i K (σ.1 i) (σ.2 i)) := by
  rw [g_in h.1]
  unfold En
  rw [h.2]
theorem g_len {G : Gt} {σ : Mem} : (wsF G σ).length = 51 := by simp [wsF]
theorem g_set {G : Gt} {σ σ' : Mem} {i K : Nat} (h : Ok i K) {e : va_E} (h1 : EnR G i K (σ'.1 i) (σ'.2 i) = e) (h2 : ∀ j, j ≠ i → σ'.1 j = σ.1 j ∧ σ'.2 j = σ.2 j) : (wsF G σ).set i (G.2.2 i, e) = wsF G σ' := by
  apply List.ext_getElem?
  intro j
  by_cases hj : j = i
  · subst hj
    rw [g_at h, h1, List.getElem?_set_self (by rw [g_len]; exact h.1)]
  · rw [List.getElem?_set_ne (Ne.symm hj)]
    by_cases hl : j < 51
    · rw [g_in hl, g_in hl]
      unfold En
      rw [(h2 j hj).1, (h2 j hj).2]
    · rw [g_out hl, g_out hl]
theorem wi_at (σ : Mem) (i k : Nat) (v : Int32) : (wi σ i k v).1 i = upd (σ.1 i) k v := by simp [wi]
theorem wi_ne (σ : Mem) (i k : Nat) (v : Int32) {j : Nat} (h : j ≠ i) : (wi σ i k v).1 j = σ.1 j := by simp [wi, h]
theorem wr_at (σ : Mem) (i k v : Nat) : (wr σ i k v).2 i = va_up (σ.2 i) k v := by simp [wr]
theorem wr_ne (σ : Mem) (i k v : Nat) {j : Nat} (h : j ≠ i) : (wr σ i k v).2 j = σ.2 j := by simp [wr, h]
/-- contexts: the walk's judgement as a word of heap, places written, cells, slots and frame; the method; its locals; what the heap holds; what may change; the heap at the start; what the method owes -/
abbrev Xt (S : Type) : Type := (Heap → List Loc → Nat → Nat → JFrame → Prop) × MethodId × Nat × (S → Heap → Prop) × (Addr → Prop) × Heap × ((Option Value ⊕ String) × S)
def strs : List (String × Nat × String) := [(RX5, 110, "no levels"), (RX5, 123, "no alarm so soon"), (RX5, 129, "too many people"), (RX5, 144, "the level is closed"), (RX5, 158, "people or the hoist are in the way"), (RX5, 171, "nobody may go there now"), (RX5, 186, "no such request is waiting"), (RX5, 196, "no such position"), (RX5, 203, "the clock would be too great"), (RX5, 236, "the request is neither waiting nor on its way"), (RX5, 241, "no trip for the request would end so soon"), (RX5, 264, " L"), (RX5, 266, "min"), (RX5, 271, "no such character"), (RX5, 277, "out of range"), (RX5, 279, "the surface is no level"), (RX5, 281, "no such level"), (RX5, 283, "the hoist has no trip"), (RX5, 285, "too many requests are waiting"), (RX5, 45, "not deeper than the level above"), (RX5, 55, "no more levels can be added"), (RX3, 36, "flight"), (RX3, 38, "down"), (RX3, 40, "up"), (RX3, 42, "ore"), (RX3, 44, "none"), (RX6, 156, "none"), (RX6, 162, "flight"), (RX6, 164, "down"), (RX6, 166, "up"), (RX6, 168, "ore"), (RX6, 176, " L"), (RX6, 178, "min"), (RX6, 42, "")]
/-- what throwing needs of the JVM: two statics of Throwable, the texts, each exception's class castable to itself -/
def excs : List String := ["java/lang/IllegalArgumentException", "java/lang/IllegalStateException", "java/lang/IndexOutOfBoundsException", "java/lang/ArithmeticException", "java/lang/UnsupportedOperationException", "java/util/NoSuchElementException"]
def CS (U : State) : Prop := (∀ X ∈ excs, va_Nw (.castable X X) U) ∧ (∀ Y ∈ ["java/lang/RuntimeException", "java/lang/Exception", "java/lang/Throwable"], va_Nw (.declares (Bundle.initS Y)) U) ∧ ∀ E ∈ excs, ∀ T ∈ excs, E ≠ T → va_Nc E T U
theorem nw_warmD {y : MethodName} {s U : State} (hW : s.WarmedH U.vm) (hZ : va_Nw (.declares y) s) : va_Nw (.declares y) U := va_tabs rfl (rfl : (s.setVm U.vm).vm = U.vm) (by rw [Cond.declares_setVm hW.alike]; exact hZ)
theorem CS.warm {s U : State} (hW : s.WarmedH U.vm) (h : CS s) : CS U := ⟨fun X hX => va_Nw.warmC hW (h.1 X hX), fun Y hY => nw_warmD hW (h.2.1 Y hY), fun E hE T hT n => va_Nc.moved hW.alike (h.2.2 E hE T hT n)⟩
theorem CS.calling {U : State} {g : JFrame} {mk : MethodId} {a : Array Value} (h : CS U) : CS (U.calling g mk a) := CS.warm (U := U.calling g mk a) (State.WarmedH.refl U) h
def SR (U : State) : Prop := ∀ q ∈ strs, ∃ a, vk_R q.1 q.2.1 q.2.2 a U
def St (A : Nat → Prop) (U : State) (H : Heap) : Prop := vx_Zq Bundle.tN "UNASSIGNED_STACK" Bundle.steD A U H ∧ vx_Zq Bundle.tN "SUPPRESSED_SENTINEL" Bundle.listD A U H ∧ SR U ∧ CS U
theorem SR.warm {s U : State} (hW : s.WarmedH U.vm) (h : SR s) : SR U := fun q hq => by
  obtain ⟨a, ha⟩ := h q hq
  exact ⟨a, vk_R.warm hW ha⟩
theorem SR.same {u U : State} (hv : U.vm = u.vm) (h : SR u) : SR U := fun q hq => by
  obtain ⟨a, ha⟩ := h q hq
  exact ⟨a, vk_R.same hv ha⟩
def Cx {S : Type} (x : Xt S) (cc : ByteArray) (mL : Nat) (own : String) (ret : Option FieldType) (tab : List ExceptionTableEntry) (Ts : List Cond) (R : Room) (D : va_G) (tys : List (ClassId × FieldType)) : Prop :=
  ∃ (p : Program) (l : Launch) (e : Env) (s : State) (args : Array Value) (below : List Frame) (meth : Method) (c : Code) (Qc : Array Value → State → Outcome → State → Prop) (XC : String → State → State → Prop) (free : Addr → Prop),
    (∀ H locs k n g, x.1 H locs k n g ↔ W p l e R s x.2.1 args below meth c H locs k n (vx_MQ below Qc XC args s R.cells R.slots free) g) ∧
    p.tables.exec = Jvm.exec ∧ c.code = cc ∧ c.maxLocals = mL ∧ x.2.2.1 = mL ∧ (∀ w ∈ Ts, w.before args s = true) ∧ s.vm.findClass own = some x.2.1.cls ∧ va_K D vwCl tys s ∧
    meth.sig.returnType = ret ∧ meth.locks = false ∧ c.exceptionTable.toList = tab ∧ l.stackTraces = false ∧ x.2.2.2.2.2.1 = s.heap ∧ St x.2.2.2.2.1 s s.heap ∧
    (∀ (v : Option Value) (σ : S) (H : Heap) (locs : List Loc), x.2.2.2.2.2.2 = (.inl v, σ) → x.2.2.2.1 σ H → va_S x.2.2.2.2.1 s.heap H locs → (∀ t : State, t.heap = H → s.WarmedH t.vm → Qc args s (.returned v) t) ∧ ∀ q ∈ locs, free q.base) ∧
    (∀ (E : String) (σ : S) (H : Heap) (locs : List Loc), x.2.2.2.2.2.2 = (.inr E, σ) → x.2.2.2.1 σ H → va_S x.2.2.2.2.1 s.heap H locs → (∀ t : State, s.vm.Alike t.vm → H.size ≤ t.heap.size → (∀ q : Nat, q < H.size → t.heap[q]? = H[q]?) → XC E s t) ∧ ∀ q ∈ locs, free q.base)
/-- the fixed world -/
def Wx (x : Xt Mem) (G : Gt) : Prop := (∀ σ H, x.2.2.2.1 σ H ↔ va_P G.1 vwCl (wsF G σ) H) ∧ (∀ i j, i < 51 → j < 51 → G.2.2 i = G.2.2 j → i = j) ∧ (∀ i, i < 51 → x.2.2.2.2.1 (G.2.2 i)) ∧ (∀ q : Nat, x.2.2.2.2.2.1.size ≤ q → x.2.2.2.2.1 q)
theorem Wx.D {x : Xt Mem} {G : Gt} (h : Wx x G) (σ : Mem) : va_D x.2.2.2.2.1 (wsF G σ) := by
  refine ⟨fun i j a b ha hb hab => ?_, fun k q hq => ?_⟩
  · by_cases hi : i < 51
    · by_cases hj : j < 51
      · rw [g_in hi] at ha
        rw [g_in hj] at hb
        cases ha
        cases hb
        exact h.2.1 i j hi hj hab
      · rw [g_out hj] at hb
        cases hb
    · rw [g_out hi] at ha
      cases ha
  · by_cases hk : k < 51
    · rw [g_in hk] at hq
      cases hq
      exact h.2.2.1 k hk
    · rw [g_out hk] at hq
      cases hq
def J {S : Type} (x : Xt S) (lo : List (Nat × Value)) (st : List Value) (σ : S) (pc k n : Nat) : Prop :=
  ∀ (H : Heap) (locs : List Loc) (ls : Array Slot), lv_has ls x.2.2.1 lo → x.2.2.2.1 σ H → va_S x.2.2.2.2.1 x.2.2.2.2.2.1 H locs → x.1 H locs k n (F0 x.2.1 pc ls st)
section JROWS
variable {S : Type} {x : Xt S} {cc : ByteArray} {mL : Nat} {own : String} {ret : Option FieldType} {tab : List ExceptionTableEntry} {Ts : List Cond} {R : Room} {D : va_G} {tys : List (ClassId × FieldType)} {lo lo' : List (Nat × Value)} {st : List Value} {σ : S} {pc kc ns : Nat}
abbrev lset (lo : List (Nat × Value)) (i : Nat) (v : Value) : List (Nat × Value) := (i, v) :: lo.filter (fun q => !(q.1 == i) && !(q.1 + 1 == i && q.2.category == 2))
theorem lv_lset {ls : Array Slot} {nL : Nat} (hl : lv_has ls nL lo) : lv_has ls nL lo := hl

theorem j_iconst (C : Cx x cc mL own ret tab Ts R D tys) {m : Int} (d : decode cc pc = .ok (.iconst m, 1)) (v : Int32) (hv : Int32.ofInt m = v) (k0 : J x lo (.int v :: st) σ (pc + 1) kc ns) : J x lo st σ pc kc ns := by
  obtain ⟨p, l, e, s, args, below, meth, c, Qc, XC, free, hω, hx, hb, hml, hn, hts, hown, hK, hr, hlk, htab, hst, hH0, hSt, hRet, hThr⟩ := C
  intro H locs ls hl hP hS
  refine (hω _ _ _ _ _).mpr ?_
  exact lv_iconst hx hb d hv ((hω _ _ _ _ _).mp (k0 H locs ls hl hP hS))
theorem j_bipush (C : Cx x cc mL own ret tab Ts R D tys) {m : Int} (d : decode cc pc = .ok (.bipush m, 2)) (v : Int32) (hv : (Int8.ofInt m).toInt32 = v) (k0 : J x lo (.int v :: st) σ (pc + 2) kc ns) : J x lo st σ pc kc ns := by
  obtain ⟨p, l, e, s, args, below, meth, c, Qc, XC, free, hω, hx, hb, hml, hn, hts, hown, hK, hr, hlk, htab, hst, hH0, hSt, hRet, hThr⟩ := C
  intro H locs ls hl hP hS
  refine (hω _ _ _ _ _).mpr ?_
  exact lv_bipush hx hb d hv ((hω _ _ _ _ _).mp (k0 H locs ls hl hP hS))
theorem j_sipush (C : Cx x cc mL own ret tab Ts R D tys) {m : Int} (d : decode cc pc = .ok (.sipush m, 3)) (v : Int32) (hv : (Int16.ofInt m).toInt32 = v) (k0 : J x lo (.int v :: st) σ (pc + 3) kc ns) : J x lo st σ pc kc ns := by
  obtain ⟨p, l, e, s, args, below, meth, c, Qc, XC, free, hω, hx, hb, hml, hn, hts, hown, hK, hr, hlk, htab, hst, hH0, hSt, hRet, hThr⟩ := C
  intro H locs ls hl hP hS
  refine (hω _ _ _ _ _).mpr ?_
  exact lv_sipush hx hb d hv ((hω _ _ _ _ _).mp (k0 H locs ls hl hP hS))
theorem j_lconst (C : Cx x cc mL own ret tab Ts R D tys) {m : Fin 2} (d : decode cc pc = .ok (.lconst m, 1)) (v : Int64) (hv : Int64.ofNat m = v) (k0 : J x lo (.long v :: st) σ (pc + 1) kc ns) : J x lo st σ pc kc ns := by
  obtain ⟨p, l, e, s, args, below, meth, c, Qc, XC, free, hω, hx, hb, hml, hn, hts, hown, hK, hr, hlk, htab, hst, hH0, hSt, hRet, hThr⟩ := C
  intro H locs ls hl hP hS
  refine (hω _ _ _ _ _).mpr ?_
  exact lv_lconst hx hb d hv ((hω _ _ _ _ _).mp (k0 H locs ls hl hP hS))
theorem j_iload_n (C : Cx x cc mL own ret tab Ts R D tys) {q : Fin 4} {a : Int32} (d : decode cc pc = .ok (.iload_n q, 1)) (i : Nat) (h : lo[i]? = some ((q : Nat), .int a)) (k0 : J x lo (.int a :: st) σ (pc + 1) kc ns) : J x lo st σ pc kc ns := by
  obtain ⟨p, l, e, s, args, below, meth, c, Qc, XC, free, hω, hx, hb, hml, hn, hts, hown, hK, hr, hlk, htab, hst, hH0, hSt, hRet, hThr⟩ := C
  intro H locs ls hl hP hS
  refine (hω _ _ _ _ _).mpr ?_
  exact lv_iload_n hx hb d rfl (lv_at hl i h) ((hω _ _ _ _ _).mp (k0 H locs ls hl hP hS))
theorem j_iload (C : Cx x cc mL own ret tab Ts R D tys) {q : Nat} {a : Int32} (d : decode cc pc = .ok (.iload q, 2)) (i : Nat) (h : lo[i]? = some (q, .int a)) (k0 : J x lo (.int a :: st) σ (pc + 2) kc ns) : J x lo st σ pc kc ns := by
  obtain ⟨p, l, e, s, args, below, meth, c, Qc, XC, free, hω, hx, hb, hml, hn, hts, hown, hK, hr, hlk, htab, hst, hH0, hSt, hRet, hThr⟩ := C
  intro H locs ls hl hP hS
  refine (hω _ _ _ _ _).mpr ?_
  exact lv_iload hx hb d (lv_at hl i h) ((hω _ _ _ _ _).mp (k0 H locs ls hl hP hS))
theorem j_aload_n (C : Cx x cc mL own ret tab Ts R D tys) {q : Fin 4} {a : Nat} (d : decode cc pc = .ok (.aload_n q, 1)) (i : Nat) (h : lo[i]? = some ((q : Nat), .ref a)) (k0 : J x lo (.ref a :: st) σ (pc + 1) kc ns) : J x lo st σ pc kc ns := by
  obtain ⟨p, l, e, s, args, below, meth, c, Qc, XC, free, hω, hx, hb, hml, hn, hts, hown, hK, hr, hlk, htab, hst, hH0, hSt, hRet, hThr⟩ := C
  intro H locs ls hl hP hS
  refine (hω _ _ _ _ _).mpr ?_
  exact lv_aload_n hx hb d rfl (lv_at hl i h) ((hω _ _ _ _ _).mp (k0 H locs ls hl hP hS))
theorem j_aload (C : Cx x cc mL own ret tab Ts R D tys) {q : Nat} {a : Nat} (d : decode cc pc = .ok (.aload q, 2)) (i : Nat) (h : lo[i]? = some (q, .ref a)) (k0 : J x lo (.ref a :: st) σ (pc + 2) kc ns) : J x lo st σ pc kc ns := by
  obtain ⟨p, l, e, s, args, below, meth, c, Qc, XC, free, hω, hx, hb, hml, hn, hts, hown, hK, hr, hlk, htab, hst, hH0, hSt, hRet, hThr⟩ := C
  intro H locs ls hl hP hS
  refine (hω _ _ _ _ _).mpr ?_
  exact lv_aload hx hb d (lv_at hl i h) ((hω _ _ _ _ _).mp (k0 H locs ls hl hP hS))
theorem j_istore_n (C : Cx x cc mL own ret tab Ts R D tys) {q : Fin 4} {a : Int32} (d : decode cc pc = .ok (.istore_n q, 1)) (h : (q : Nat) < mL) (lo' : List (Nat × Value)) (hlo : lset lo q (.int a) = lo') (k0 : J x lo' st σ (pc + 1) kc ns) : J x lo (.int a :: st) σ pc kc ns := by
  obtain ⟨p, l, e, s, args, below, meth, c, Qc, XC, free, hω, hx, hb, hml, hn, hts, hown, hK, hr, hlk, htab, hst, hH0, hSt, hRet, hThr⟩ := C
  intro H locs ls hl hP hS
  refine (hω _ _ _ _ _).mpr ?_
  exact lv_istore_n hx hb d rfl hl (by rw [hn]; exact h) hlo (fun ls hl => (hω _ _ _ _ _).mp (k0 H locs ls hl hP hS))
theorem j_istore (C : Cx x cc mL own ret tab Ts R D tys) {q : Nat} {a : Int32} (d : decode cc pc = .ok (.istore q, 2)) (h : (q : Nat) < mL) (lo' : List (Nat × Value)) (hlo : lset lo q (.int a) = lo') (k0 : J x lo' st σ (pc + 2) kc ns) : J x lo (.int a :: st) σ pc kc ns := by
  obtain ⟨p, l, e, s, args, below, meth, c, Qc, XC, free, hω, hx, hb, hml, hn, hts, hown, hK, hr, hlk, htab, hst, hH0, hSt, hRet, hThr⟩ := C
  intro H locs ls hl hP hS
  refine (hω _ _ _ _ _).mpr ?_
  exact lv_istore hx hb d hl (by rw [hn]; exact h) hlo (fun ls hl => (hω _ _ _ _ _).mp (k0 H locs ls hl hP hS))
theorem j_astore_n (C : Cx x cc mL own ret tab Ts R D tys) {q : Fin 4} {a : Nat} (d : decode cc pc = .ok (.astore_n q, 1)) (h : (q : Nat) < mL) (lo' : List (Nat × Value)) (hlo : lset lo q (.ref a) = lo') (k0 : J x lo' st σ (pc + 1) kc ns) : J x lo (.ref a :: st) σ pc kc ns := by
  obtain ⟨p, l, e, s, args, below, meth, c, Qc, XC, free, hω, hx, hb, hml, hn, hts, hown, hK, hr, hlk, htab, hst, hH0, hSt, hRet, hThr⟩ := C
  intro H locs ls hl hP hS
  refine (hω _ _ _ _ _).mpr ?_
  exact lv_astore_n hx hb d rfl hl (by rw [hn]; exact h) hlo (fun ls hl => (hω _ _ _ _ _).mp (k0 H locs ls hl hP hS))
theorem j_astore (C : Cx x cc mL own ret tab Ts R D tys) {q : Nat} {a : Nat} (d : decode cc pc = .ok (.astore q, 2)) (h : (q : Nat) < mL) (lo' : List (Nat × Value)) (hlo : lset lo q (.ref a) = lo') (k0 : J x lo' st σ (pc + 2) kc ns) : J x lo (.ref a :: st) σ pc kc ns := by
  obtain ⟨p, l, e, s, args, below, meth, c, Qc, XC, free, hω, hx, hb, hml, hn, hts, hown, hK, hr, hlk, htab, hst, hH0, hSt, hRet, hThr⟩ := C
  intro H locs ls hl hP hS
  refine (hω _ _ _ _ _).mpr ?_
  exact lv_astore hx hb d hl (by rw [hn]; exact h) hlo (fun ls hl => (hω _ _ _ _ _).mp (k0 H locs ls hl hP hS))
theorem j_iinc (C : Cx x cc mL own ret tab Ts R D tys) {q : Nat} {m : Int} {a : Int32} (d : decode cc pc = .ok (.iinc q m, 3)) (i : Nat) (hq : lo[i]? = some (q, .int a)) (v : Int32) (hv : Int32.ofInt m = v) (h : q < mL) (lo' : List (Nat × Value)) (hlo : lset lo q (.int (a + v)) = lo') (k0 : J x lo' st σ (pc + 3) kc ns) : J x lo st σ pc kc ns := by
  obtain ⟨p, l, e, s, args, below, meth, c, Qc, XC, free, hω, hx, hb, hml, hn, hts, hown, hK, hr, hlk, htab, hst, hH0, hSt, hRet, hThr⟩ := C
  intro H locs ls hl hP hS
  refine (hω _ _ _ _ _).mpr ?_
  exact lv_iinc hx hb d hl (k := i) hq (by rw [hv]) (by rw [hn]; exact h) hlo (fun ls hl => (hω _ _ _ _ _).mp (k0 H locs ls hl hP hS))
theorem j_iadd (C : Cx x cc mL own ret tab Ts R D tys) {a b : Int32} (d : decode cc pc = .ok (.iadd, 1))  (k0 : J x lo (.int (a + b) :: st) σ (pc + 1) kc ns) : J x lo (.int b :: .int a :: st) σ pc kc ns := by
  obtain ⟨p, l, e, s, args, below, meth, c, Qc, XC, free, hω, hx, hb, hml, hn, hts, hown, hK, hr, hlk, htab, hst, hH0, hSt, hRet, hThr⟩ := C
  intro H locs ls hl hP hS
  refine (hω _ _ _ _ _).mpr ?_
  exact lv_iadd hx hb d ((hω _ _ _ _ _).mp (k0 H locs ls hl hP hS))
theorem j_isub (C : Cx x cc mL own ret tab Ts R D tys) {a b : Int32} (d : decode cc pc = .ok (.isub, 1))  (k0 : J x lo (.int (a - b) :: st) σ (pc + 1) kc ns) : J x lo (.int b :: .int a :: st) σ pc kc ns := by
  obtain ⟨p, l, e, s, args, below, meth, c, Qc, XC, free, hω, hx, hb, hml, hn, hts, hown, hK, hr, hlk, htab, hst, hH0, hSt, hRet, hThr⟩ := C
  intro H locs ls hl hP hS
  refine (hω _ _ _ _ _).mpr ?_
  exact lv_isub hx hb d ((hω _ _ _ _ _).mp (k0 H locs ls hl hP hS))
theorem j_imul (C : Cx x cc mL own ret tab Ts R D tys) {a b : Int32} (d : decode cc pc = .ok (.imul, 1))  (k0 : J x lo (.int (a * b) :: st) σ (pc + 1) kc ns) : J x lo (.int b :: .int a :: st) σ pc kc ns := by
  obtain ⟨p, l, e, s, args, below, meth, c, Qc, XC, free, hω, hx, hb, hml, hn, hts, hown, hK, hr, hlk, htab, hst, hH0, hSt, hRet, hThr⟩ := C
  intro H locs ls hl hP hS
  refine (hω _ _ _ _ _).mpr ?_
  exact lv_imul hx hb d ((hω _ _ _ _ _).mp (k0 H locs ls hl hP hS))
theorem j_iand (C : Cx x cc mL own ret tab Ts R D tys) {a b : Int32} (d : decode cc pc = .ok (.iand, 1))  (k0 : J x lo (.int (a &&& b) :: st) σ (pc + 1) kc ns) : J x lo (.int b :: .int a :: st) σ pc kc ns := by
  obtain ⟨p, l, e, s, args, below, meth, c, Qc, XC, free, hω, hx, hb, hml, hn, hts, hown, hK, hr, hlk, htab, hst, hH0, hSt, hRet, hThr⟩ := C
  intro H locs ls hl hP hS
  refine (hω _ _ _ _ _).mpr ?_
  exact lv_iand hx hb d ((hω _ _ _ _ _).mp (k0 H locs ls hl hP hS))
theorem j_ineg (C : Cx x cc mL own ret tab Ts R D tys) {a : Int32} (d : decode cc pc = .ok (.ineg, 1))  (k0 : J x lo (.int (-a) :: st) σ (pc + 1) kc ns) : J x lo (.int a :: st) σ pc kc ns := by
  obtain ⟨p, l, e, s, args, below, meth, c, Qc, XC, free, hω, hx, hb, hml, hn, hts, hown, hK, hr, hlk, htab, hst, hH0, hSt, hRet, hThr⟩ := C
  intro H locs ls hl hP hS
  refine (hω _ _ _ _ _).mpr ?_
  exact lv_ineg hx hb d ((hω _ _ _ _ _).mp (k0 H locs ls hl hP hS))
theorem j_idiv (C : Cx x cc mL own ret tab Ts R D tys) {a b : Int32} (d : decode cc pc = .ok (.idiv, 1)) (h : ¬ b = 0) (k0 : J x lo (.int (a / b) :: st) σ (pc + 1) kc ns) : J x lo (.int b :: .int a :: st) σ pc kc ns := by
  obtain ⟨p, l, e, s, args, below, meth, c, Qc, XC, free, hω, hx, hb, hml, hn, hts, hown, hK, hr, hlk, htab, hst, hH0, hSt, hRet, hThr⟩ := C
  intro H locs ls hl hP hS
  refine (hω _ _ _ _ _).mpr ?_
  exact lv_idiv hx hb d h ((hω _ _ _ _ _).mp (k0 H locs ls hl hP hS))
theorem j_i2l (C : Cx x cc mL own ret tab Ts R D tys) {a : Int32} (d : decode cc pc = .ok (.i2l, 1))  (k0 : J x lo (.long a.toInt64 :: st) σ (pc + 1) kc ns) : J x lo (.int a :: st) σ pc kc ns := by
  obtain ⟨p, l, e, s, args, below, meth, c, Qc, XC, free, hω, hx, hb, hml, hn, hts, hown, hK, hr, hlk, htab, hst, hH0, hSt, hRet, hThr⟩ := C
  intro H locs ls hl hP hS
  refine (hω _ _ _ _ _).mpr ?_
  exact lv_i2l hx hb d rfl ((hω _ _ _ _ _).mp (k0 H locs ls hl hP hS))
theorem j_i2c (C : Cx x cc mL own ret tab Ts R D tys) {a : Int32} (d : decode cc pc = .ok (.i2c, 1))  (k0 : J x lo (.int (a.toUInt32 % 65536).toInt32 :: st) σ (pc + 1) kc ns) : J x lo (.int a :: st) σ pc kc ns := by
  obtain ⟨p, l, e, s, args, below, meth, c, Qc, XC, free, hω, hx, hb, hml, hn, hts, hown, hK, hr, hlk, htab, hst, hH0, hSt, hRet, hThr⟩ := C
  intro H locs ls hl hP hS
  refine (hω _ _ _ _ _).mpr ?_
  exact lv_i2c hx hb d rfl ((hω _ _ _ _ _).mp (k0 H locs ls hl hP hS))
theorem j_dup (C : Cx x cc mL own ret tab Ts R D tys) {a : Value} (d : decode cc pc = .ok (.dup, 1)) (h : a.category = 1) (k0 : J x lo (a :: a :: st) σ (pc + 1) kc ns) : J x lo (a :: st) σ pc kc ns := by
  obtain ⟨p, l, e, s, args, below, meth, c, Qc, XC, free, hω, hx, hb, hml, hn, hts, hown, hK, hr, hlk, htab, hst, hH0, hSt, hRet, hThr⟩ := C
  intro H locs ls hl hP hS
  refine (hω _ _ _ _ _).mpr ?_
  exact lv_dup hx hb d h ((hω _ _ _ _ _).mp (k0 H locs ls hl hP hS))
theorem j_pop (C : Cx x cc mL own ret tab Ts R D tys) {a : Value} (d : decode cc pc = .ok (.pop, 1)) (h : a.category = 1) (k0 : J x lo st σ (pc + 1) kc ns) : J x lo (a :: st) σ pc kc ns := by
  obtain ⟨p, l, e, s, args, below, meth, c, Qc, XC, free, hω, hx, hb, hml, hn, hts, hown, hK, hr, hlk, htab, hst, hH0, hSt, hRet, hThr⟩ := C
  intro H locs ls hl hP hS
  refine (hω _ _ _ _ _).mpr ?_
  exact lv_pop hx hb d h ((hω _ _ _ _ _).mp (k0 H locs ls hl hP hS))
theorem j_dup2 (C : Cx x cc mL own ret tab Ts R D tys) {a b : Value} (d : decode cc pc = .ok (.dup2, 1)) (h : a.category = 1) (h2 : b.category = 1) (k0 : J x lo (a :: b :: a :: b :: st) σ (pc + 1) kc ns) : J x lo (a :: b :: st) σ pc kc ns := by
  obtain ⟨p, l, e, s, args, below, meth, c, Qc, XC, free, hω, hx, hb, hml, hn, hts, hown, hK, hr, hlk, htab, hst, hH0, hSt, hRet, hThr⟩ := C
  intro H locs ls hl hP hS
  refine (hω _ _ _ _ _).mpr ?_
  exact lv_dup2_11 hx hb d h h2 ((hω _ _ _ _ _).mp (k0 H locs ls hl hP hS))
theorem j_icmp_eq (C : Cx x cc mL own ret tab Ts R D tys) {a b : Int32} {off : Int} (d : decode cc pc = .ok (.if_icmp .eq off, 3)) (tgt : Nat) (ht : (pc : Int) + off = (tgt : Int)) (k0 : a = b → J x lo st σ tgt kc ns) (k1 : ¬ a = b → J x lo st σ (pc + 3) kc ns) : J x lo (.int b :: .int a :: st) σ pc kc ns := by
  obtain ⟨p, l, e, s, args, below, meth, c, Qc, XC, free, hω, hx, hb, hml, hn, hts, hown, hK, hr, hlk, htab, hst, hH0, hSt, hRet, hThr⟩ := C
  intro H locs ls hl hP hS
  refine (hω _ _ _ _ _).mpr ?_
  exact lv_icmp_eq hx hb d ht (fun z => (hω _ _ _ _ _).mp (k0 z H locs ls hl hP hS)) (fun z => (hω _ _ _ _ _).mp (k1 z H locs ls hl hP hS))
theorem j_icmp_ne (C : Cx x cc mL own ret tab Ts R D tys) {a b : Int32} {off : Int} (d : decode cc pc = .ok (.if_icmp .ne off, 3)) (tgt : Nat) (ht : (pc : Int) + off = (tgt : Int)) (k0 : ¬ a = b → J x lo st σ tgt kc ns) (k1 : a = b → J x lo st σ (pc + 3) kc ns) : J x lo (.int b :: .int a :: st) σ pc kc ns := by
  obtain ⟨p, l, e, s, args, below, meth, c, Qc, XC, free, hω, hx, hb, hml, hn, hts, hown, hK, hr, hlk, htab, hst, hH0, hSt, hRet, hThr⟩ := C
  intro H locs ls hl hP hS
  refine (hω _ _ _ _ _).mpr ?_
  exact lv_icmp_ne hx hb d ht (fun z => (hω _ _ _ _ _).mp (k0 z H locs ls hl hP hS)) (fun z => (hω _ _ _ _ _).mp (k1 z H locs ls hl hP hS))
theorem j_icmp_lt (C : Cx x cc mL own ret tab Ts R D tys) {a b : Int32} {off : Int} (d : decode cc pc = .ok (.if_icmp .lt off, 3)) (tgt : Nat) (ht : (pc : Int) + off = (tgt : Int)) (k0 : a < b → J x lo st σ tgt kc ns) (k1 : ¬ a < b → J x lo st σ (pc + 3) kc ns) : J x lo (.int b :: .int a :: st) σ pc kc ns := by
  obtain ⟨p, l, e, s, args, below, meth, c, Qc, XC, free, hω, hx, hb, hml, hn, hts, hown, hK, hr, hlk, htab, hst, hH0, hSt, hRet, hThr⟩ := C
  intro H locs ls hl hP hS
  refine (hω _ _ _ _ _).mpr ?_
  exact lv_icmp_lt hx hb d ht (fun z => (hω _ _ _ _ _).mp (k0 z H locs ls hl hP hS)) (fun z => (hω _ _ _ _ _).mp (k1 z H locs ls hl hP hS))
theorem j_icmp_ge (C : Cx x cc mL own ret tab Ts R D tys) {a b : Int32} {off : Int} (d : decode cc pc = .ok (.if_icmp .ge off, 3)) (tgt : Nat) (ht : (pc : Int) + off = (tgt : Int)) (k0 : b ≤ a → J x lo st σ tgt kc ns) (k1 : ¬ b ≤ a → J x lo st σ (pc + 3) kc ns) : J x lo (.int b :: .int a :: st) σ pc kc ns := by
  obtain ⟨p, l, e, s, args, below, meth, c, Qc, XC, free, hω, hx, hb, hml, hn, hts, hown, hK, hr, hlk, htab, hst, hH0, hSt, hRet, hThr⟩ := C
  intro H locs ls hl hP hS
  refine (hω _ _ _ _ _).mpr ?_
  exact lv_icmp_ge hx hb d ht (fun z => (hω _ _ _ _ _).mp (k0 z H locs ls hl hP hS)) (fun z => (hω _ _ _ _ _).mp (k1 z H locs ls hl hP hS))
theorem j_icmp_gt (C : Cx x cc mL own ret tab Ts R D tys) {a b : Int32} {off : Int} (d : decode cc pc = .ok (.if_icmp .gt off, 3)) (tgt : Nat) (ht : (pc : Int) + off = (tgt : Int)) (k0 : b < a → J x lo st σ tgt kc ns) (k1 : ¬ b < a → J x lo st σ (pc + 3) kc ns) : J x lo (.int b :: .int a :: st) σ pc kc ns := by
  obtain ⟨p, l, e, s, args, below, meth, c, Qc, XC, free, hω, hx, hb, hml, hn, hts, hown, hK, hr, hlk, htab, hst, hH0, hSt, hRet, hThr⟩ := C
  intro H locs ls hl hP hS
  refine (hω _ _ _ _ _).mpr ?_
  exact lv_icmp_gt hx hb d ht (fun z => (hω _ _ _ _ _).mp (k0 z H locs ls hl hP hS)) (fun z => (hω _ _ _ _ _).mp (k1 z H locs ls hl hP hS))
theorem j_icmp_le (C : Cx x cc mL own ret tab Ts R D tys) {a b : Int32} {off : Int} (d : decode cc pc = .ok (.if_icmp .le off, 3)) (tgt : Nat) (ht : (pc : Int) + off = (tgt : Int)) (k0 : a ≤ b → J x lo st σ tgt kc ns) (k1 : ¬ a ≤ b → J x lo st σ (pc + 3) kc ns) : J x lo (.int b :: .int a :: st) σ pc kc ns := by
  obtain ⟨p, l, e, s, args, below, meth, c, Qc, XC, free, hω, hx, hb, hml, hn, hts, hown, hK, hr, hlk, htab, hst, hH0, hSt, hRet, hThr⟩ := C
  intro H locs ls hl hP hS
  refine (hω _ _ _ _ _).mpr ?_
  exact lv_icmp_le hx hb d ht (fun z => (hω _ _ _ _ _).mp (k0 z H locs ls hl hP hS)) (fun z => (hω _ _ _ _ _).mp (k1 z H locs ls hl hP hS))
theorem j_if_eq (C : Cx x cc mL own ret tab Ts R D tys) {a : Int32} {off : Int} (d : decode cc pc = .ok (.ifCond .eq off, 3)) (tgt : Nat) (ht : (pc : Int) + off = (tgt : Int)) (k0 : a = 0 → J x lo st σ tgt kc ns) (k1 : ¬ a = 0 → J x lo st σ (pc + 3) kc ns) : J x lo (.int a :: st) σ pc kc ns := by
  obtain ⟨p, l, e, s, args, below, meth, c, Qc, XC, free, hω, hx, hb, hml, hn, hts, hown, hK, hr, hlk, htab, hst, hH0, hSt, hRet, hThr⟩ := C
  intro H locs ls hl hP hS
  refine (hω _ _ _ _ _).mpr ?_
  exact lv_if_eq hx hb d ht (fun z => (hω _ _ _ _ _).mp (k0 z H locs ls hl hP hS)) (fun z => (hω _ _ _ _ _).mp (k1 z H locs ls hl hP hS))
theorem j_if_ne (C : Cx x cc mL own ret tab Ts R D tys) {a : Int32} {off : Int} (d : decode cc pc = .ok (.ifCond .ne off, 3)) (tgt : Nat) (ht : (pc : Int) + off = (tgt : Int)) (k0 : ¬ a = 0 → J x lo st σ tgt kc ns) (k1 : a = 0 → J x lo st σ (pc + 3) kc ns) : J x lo (.int a :: st) σ pc kc ns := by
  obtain ⟨p, l, e, s, args, below, meth, c, Qc, XC, free, hω, hx, hb, hml, hn, hts, hown, hK, hr, hlk, htab, hst, hH0, hSt, hRet, hThr⟩ := C
  intro H locs ls hl hP hS
  refine (hω _ _ _ _ _).mpr ?_
  exact lv_if_ne hx hb d ht (fun z => (hω _ _ _ _ _).mp (k0 z H locs ls hl hP hS)) (fun z => (hω _ _ _ _ _).mp (k1 z H locs ls hl hP hS))
theorem j_if_lt (C : Cx x cc mL own ret tab Ts R D tys) {a : Int32} {off : Int} (d : decode cc pc = .ok (.ifCond .lt off, 3)) (tgt : Nat) (ht : (pc : Int) + off = (tgt : Int)) (k0 : a < 0 → J x lo st σ tgt kc ns) (k1 : ¬ a < 0 → J x lo st σ (pc + 3) kc ns) : J x lo (.int a :: st) σ pc kc ns := by
  obtain ⟨p, l, e, s, args, below, meth, c, Qc, XC, free, hω, hx, hb, hml, hn, hts, hown, hK, hr, hlk, htab, hst, hH0, hSt, hRet, hThr⟩ := C
  intro H locs ls hl hP hS
  refine (hω _ _ _ _ _).mpr ?_
  exact lv_if_lt hx hb d ht (fun z => (hω _ _ _ _ _).mp (k0 z H locs ls hl hP hS)) (fun z => (hω _ _ _ _ _).mp (k1 z H locs ls hl hP hS))
theorem j_if_ge (C : Cx x cc mL own ret tab Ts R D tys) {a : Int32} {off : Int} (d : decode cc pc = .ok (.ifCond .ge off, 3)) (tgt : Nat) (ht : (pc : Int) + off = (tgt : Int)) (k0 : 0 ≤ a → J x lo st σ tgt kc ns) (k1 : ¬ 0 ≤ a → J x lo st σ (pc + 3) kc ns) : J x lo (.int a :: st) σ pc kc ns := by
  obtain ⟨p, l, e, s, args, below, meth, c, Qc, XC, free, hω, hx, hb, hml, hn, hts, hown, hK, hr, hlk, htab, hst, hH0, hSt, hRet, hThr⟩ := C
  intro H locs ls hl hP hS
  refine (hω _ _ _ _ _).mpr ?_
  exact lv_if_ge hx hb d ht (fun z => (hω _ _ _ _ _).mp (k0 z H locs ls hl hP hS)) (fun z => (hω _ _ _ _ _).mp (k1 z H locs ls hl hP hS))
theorem j_if_gt (C : Cx x cc mL own ret tab Ts R D tys) {a : Int32} {off : Int} (d : decode cc pc = .ok (.ifCond .gt off, 3)) (tgt : Nat) (ht : (pc : Int) + off = (tgt : Int)) (k0 : 0 < a → J x lo st σ tgt kc ns) (k1 : ¬ 0 < a → J x lo st σ (pc + 3) kc ns) : J x lo (.int a :: st) σ pc kc ns := by
  obtain ⟨p, l, e, s, args, below, meth, c, Qc, XC, free, hω, hx, hb, hml, hn, hts, hown, hK, hr, hlk, htab, hst, hH0, hSt, hRet, hThr⟩ := C
  intro H locs ls hl hP hS
  refine (hω _ _ _ _ _).mpr ?_
  exact lv_if_gt hx hb d ht (fun z => (hω _ _ _ _ _).mp (k0 z H locs ls hl hP hS)) (fun z => (hω _ _ _ _ _).mp (k1 z H locs ls hl hP hS))
theorem j_if_le (C : Cx x cc mL own ret tab Ts R D tys) {a : Int32} {off : Int} (d : decode cc pc = .ok (.ifCond .le off, 3)) (tgt : Nat) (ht : (pc : Int) + off = (tgt : Int)) (k0 : a ≤ 0 → J x lo st σ tgt kc ns) (k1 : ¬ a ≤ 0 → J x lo st σ (pc + 3) kc ns) : J x lo (.int a :: st) σ pc kc ns := by
  obtain ⟨p, l, e, s, args, below, meth, c, Qc, XC, free, hω, hx, hb, hml, hn, hts, hown, hK, hr, hlk, htab, hst, hH0, hSt, hRet, hThr⟩ := C
  intro H locs ls hl hP hS
  refine (hω _ _ _ _ _).mpr ?_
  exact lv_if_le hx hb d ht (fun z => (hω _ _ _ _ _).mp (k0 z H locs ls hl hP hS)) (fun z => (hω _ _ _ _ _).mp (k1 z H locs ls hl hP hS))
theorem j_goto (C : Cx x cc mL own ret tab Ts R D tys) {off : Int} (d : decode cc pc = .ok (.goto off, 3)) (tgt : Nat) (ht : (pc : Int) + off = (tgt : Int)) (k0 : J x lo st σ tgt kc ns) : J x lo st σ pc kc ns := by
  obtain ⟨p, l, e, s, args, below, meth, c, Qc, XC, free, hω, hx, hb, hml, hn, hts, hown, hK, hr, hlk, htab, hst, hH0, hSt, hRet, hThr⟩ := C
  intro H locs ls hl hP hS
  refine (hω _ _ _ _ _).mpr ?_
  exact lv_goto hx hb d ht ((hω _ _ _ _ _).mp (k0 H locs ls hl hP hS))
theorem j_lcmp (C : Cx x cc mL own ret tab Ts R D tys) {a b : Int64} (d : decode cc pc = .ok (.lcmp, 1))  (k0 : J x lo (.int (lg_cmp a b) :: st) σ (pc + 1) kc ns) : J x lo (.long b :: .long a :: st) σ pc kc ns := by
  obtain ⟨p, l, e, s, args, below, meth, c, Qc, XC, free, hω, hx, hb, hml, hn, hts, hown, hK, hr, hlk, htab, hst, hH0, hSt, hRet, hThr⟩ := C
  intro H locs ls hl hP hS
  refine (hω _ _ _ _ _).mpr ?_
  exact W.lcmp hx hb d ((hω _ _ _ _ _).mp (k0 H locs ls hl hP hS))
theorem j_null (C : Cx x cc mL own ret tab Ts R D tys)  (d : decode cc pc = .ok (.aconst_null, 1))  (k0 : J x lo (.null :: st) σ (pc + 1) kc ns) : J x lo st σ pc kc ns := by
  obtain ⟨p, l, e, s, args, below, meth, c, Qc, XC, free, hω, hx, hb, hml, hn, hts, hown, hK, hr, hlk, htab, hst, hH0, hSt, hRet, hThr⟩ := C
  intro H locs ls hl hP hS
  refine (hω _ _ _ _ _).mpr ?_
  exact lv_null hx hb d ((hω _ _ _ _ _).mp (k0 H locs ls hl hP hS))
theorem j_ifnonnull (C : Cx x cc mL own ret tab Ts R D tys) {a : Nat} {off : Int} (d : decode cc pc = .ok (.ifnonnull off, 3)) (tgt : Nat) (ht : (pc : Int) + off = (tgt : Int)) (k0 : J x lo st σ tgt kc ns) : J x lo (.ref a :: st) σ pc kc ns := by
  obtain ⟨p, l, e, s, args, below, meth, c, Qc, XC, free, hω, hx, hb, hml, hn, hts, hown, hK, hr, hlk, htab, hst, hH0, hSt, hRet, hThr⟩ := C
  intro H locs ls hl hP hS
  refine (hω _ _ _ _ _).mpr ?_
  exact lv_ifnonnull hx hb d ht ((hω _ _ _ _ _).mp (k0 H locs ls hl hP hS))
theorem j_ifnonnullN (C : Cx x cc mL own ret tab Ts R D tys) {off : Int} (d : decode cc pc = .ok (.ifnonnull off, 3))  (k0 : J x lo st σ (pc + 3) kc ns) : J x lo (.null :: st) σ pc kc ns := by
  obtain ⟨p, l, e, s, args, below, meth, c, Qc, XC, free, hω, hx, hb, hml, hn, hts, hown, hK, hr, hlk, htab, hst, hH0, hSt, hRet, hThr⟩ := C
  intro H locs ls hl hP hS
  refine (hω _ _ _ _ _).mpr ?_
  exact lv_ifnonnullN hx hb d ((hω _ _ _ _ _).mp (k0 H locs ls hl hP hS))
theorem j_aloadN (C : Cx x cc mL own ret tab Ts R D tys) {q : Nat} (d : decode cc pc = .ok (.aload q, 2)) (i : Nat) (h : lo[i]? = some (q, .null)) (k0 : J x lo (.null :: st) σ (pc + 2) kc ns) : J x lo st σ pc kc ns := by
  obtain ⟨p, l, e, s, args, below, meth, c, Qc, XC, free, hω, hx, hb, hml, hn, hts, hown, hK, hr, hlk, htab, hst, hH0, hSt, hRet, hThr⟩ := C
  intro H locs ls hl hP hS
  refine (hω _ _ _ _ _).mpr ?_
  exact lv_aloadN hx hb d (lv_at hl i h) ((hω _ _ _ _ _).mp (k0 H locs ls hl hP hS))
theorem j_aload_nN (C : Cx x cc mL own ret tab Ts R D tys) {q : Fin 4} (d : decode cc pc = .ok (.aload_n q, 1)) (i : Nat) (h : lo[i]? = some ((q : Nat), .null)) (k0 : J x lo (.null :: st) σ (pc + 1) kc ns) : J x lo st σ pc kc ns := by
  obtain ⟨p, l, e, s, args, below, meth, c, Qc, XC, free, hω, hx, hb, hml, hn, hts, hown, hK, hr, hlk, htab, hst, hH0, hSt, hRet, hThr⟩ := C
  intro H locs ls hl hP hS
  refine (hω _ _ _ _ _).mpr ?_
  exact lv_aload_nN hx hb d rfl (lv_at hl i h) ((hω _ _ _ _ _).mp (k0 H locs ls hl hP hS))
theorem j_astore_nN (C : Cx x cc mL own ret tab Ts R D tys) {q : Fin 4} (d : decode cc pc = .ok (.astore_n q, 1)) (h : (q : Nat) < mL) (lo' : List (Nat × Value)) (hlo : lset lo q .null = lo') (k0 : J x lo' st σ (pc + 1) kc ns) : J x lo (.null :: st) σ pc kc ns := by
  obtain ⟨p, l, e, s, args, below, meth, c, Qc, XC, free, hω, hx, hb, hml, hn, hts, hown, hK, hr, hlk, htab, hst, hH0, hSt, hRet, hThr⟩ := C
  intro H locs ls hl hP hS
  refine (hω _ _ _ _ _).mpr ?_
  exact lv_astore_nN hx hb d rfl hl (by rw [hn]; exact h) hlo (fun ls hl => (hω _ _ _ _ _).mp (k0 H locs ls hl hP hS))
theorem j_astoreN (C : Cx x cc mL own ret tab Ts R D tys) {q : Nat} (d : decode cc pc = .ok (.astore q, 2)) (h : (q : Nat) < mL) (lo' : List (Nat × Value)) (hlo : lset lo q .null = lo') (k0 : J x lo' st σ (pc + 2) kc ns) : J x lo (.null :: st) σ pc kc ns := by
  obtain ⟨p, l, e, s, args, below, meth, c, Qc, XC, free, hω, hx, hb, hml, hn, hts, hown, hK, hr, hlk, htab, hst, hH0, hSt, hRet, hThr⟩ := C
  intro H locs ls hl hP hS
  refine (hω _ _ _ _ _).mpr ?_
  exact lv_astoreN hx hb d hl (by rw [hn]; exact h) hlo (fun ls hl => (hω _ _ _ _ _).mp (k0 H locs ls hl hP hS))
theorem j_sub (is : List Nat) (lo' : List (Nat × Value)) (h : lv_pick lo is = lo') (k0 : J x lo' st σ pc kc ns) : J x lo st σ pc kc ns := fun H locs ls hl hP hS => k0 H locs ls (lv_sub hl is h) hP hS
theorem j_widen (C : Cx x cc mL own ret tab Ts R D tys) {k2 n2 : Nat} (h1 : kc ≤ k2) (h2 : ns ≤ n2) (k0 : J x lo st σ pc k2 n2) : J x lo st σ pc kc ns := by
  obtain ⟨p, l, e, s, args, below, meth, c, Qc, XC, free, hω, hx, hb, hml, hn, hts, hown, hK, hr, hlk, htab, hst, hH0, hSt, hRet, hThr⟩ := C
  intro H locs ls hl hP hS
  refine (hω _ _ _ _ _).mpr ?_
  exact W.widen h1 h2 ((hω _ _ _ _ _).mp (k0 H locs ls hl hP hS))
theorem j_i2d (C : Cx x cc mL own ret tab Ts R D tys) {a : Int32} (d : decode cc pc = .ok (.i2d, 1))  (k0 : J x lo (.double (FP.i2d a) :: st) σ (pc + 1) kc ns) : J x lo (.int a :: st) σ pc kc ns := by
  obtain ⟨p, l, e, s, args, below, meth, c, Qc, XC, free, hω, hx, hb, hml, hn, hts, hown, hK, hr, hlk, htab, hst, hH0, hSt, hRet, hThr⟩ := C
  intro H locs ls hl hP hS
  refine (hω _ _ _ _ _).mpr ?_
  exact lv_i2d hx hb d ((hω _ _ _ _ _).mp (k0 H locs ls hl hP hS))
theorem j_ddiv (C : Cx x cc mL own ret tab Ts R D tys) {a b : Int32} (d : decode cc pc = .ok (.ddiv, 1)) (h : vf_n64 (dq a b)) (k0 : J x lo (.double (dq a b) :: st) σ (pc + 1) kc ns) : J x lo (.double (FP.i2d b) :: .double (FP.i2d a) :: st) σ pc kc ns := by
  obtain ⟨p, l, e, s, args, below, meth, c, Qc, XC, free, hω, hx, hb, hml, hn, hts, hown, hK, hr, hlk, htab, hst, hH0, hSt, hRet, hThr⟩ := C
  intro H locs ls hl hP hS
  refine (hω _ _ _ _ _).mpr ?_
  exact lv_ddiv hx hb d h ((hω _ _ _ _ _).mp (k0 H locs ls hl hP hS))
theorem j_dconst0 (C : Cx x cc mL own ret tab Ts R D tys)  (d : decode cc pc = .ok (.dconst 0, 1))  (k0 : J x lo (.double 0 :: st) σ (pc + 1) kc ns) : J x lo st σ pc kc ns := by
  obtain ⟨p, l, e, s, args, below, meth, c, Qc, XC, free, hω, hx, hb, hml, hn, hts, hown, hK, hr, hlk, htab, hst, hH0, hSt, hRet, hThr⟩ := C
  intro H locs ls hl hP hS
  refine (hω _ _ _ _ _).mpr ?_
  exact lv_dconst0 hx hb d ((hω _ _ _ _ _).mp (k0 H locs ls hl hP hS))
theorem j_dcmp (C : Cx x cc mL own ret tab Ts R D tys) {a b : UInt64} {op : CmpOp} (d : decode cc pc = .ok (.dcmp op, 1))  (k0 : J x lo (.int (Op.cmpValue (FP.dcmp a b) op) :: st) σ (pc + 1) kc ns) : J x lo (.double b :: .double a :: st) σ pc kc ns := by
  obtain ⟨p, l, e, s, args, below, meth, c, Qc, XC, free, hω, hx, hb, hml, hn, hts, hown, hK, hr, hlk, htab, hst, hH0, hSt, hRet, hThr⟩ := C
  intro H locs ls hl hP hS
  refine (hω _ _ _ _ _).mpr ?_
  exact lv_dcmp hx hb d ((hω _ _ _ _ _).mp (k0 H locs ls hl hP hS))
theorem j_dload (C : Cx x cc mL own ret tab Ts R D tys) {q : Nat} {a : UInt64} (d : decode cc pc = .ok (.dload q, 2)) (i : Nat) (h : lo[i]? = some (q, .double a)) (k0 : J x lo (.double a :: st) σ (pc + 2) kc ns) : J x lo st σ pc kc ns := by
  obtain ⟨p, l, e, s, args, below, meth, c, Qc, XC, free, hω, hx, hb, hml, hn, hts, hown, hK, hr, hlk, htab, hst, hH0, hSt, hRet, hThr⟩ := C
  intro H locs ls hl hP hS
  refine (hω _ _ _ _ _).mpr ?_
  exact lv_dload hx hb d (lv_at hl i h) ((hω _ _ _ _ _).mp (k0 H locs ls hl hP hS))
theorem j_dstore (C : Cx x cc mL own ret tab Ts R D tys) {q : Nat} {a : UInt64} (d : decode cc pc = .ok (.dstore q, 2)) (h : q + 1 < mL) (lo' : List (Nat × Value)) (hlo : (q, Value.double a) :: lo.filter (fun z => !(z.1 == q) && (!(z.1 == q + 1) && !(z.1 + 1 == q && z.2.category == 2))) = lo') (k0 : J x lo' st σ (pc + 2) kc ns) : J x lo (.double a :: st) σ pc kc ns := by
  obtain ⟨p, l, e, s, args, below, meth, c, Qc, XC, free, hω, hx, hb, hml, hn, hts, hown, hK, hr, hlk, htab, hst, hH0, hSt, hRet, hThr⟩ := C
  intro H locs ls hl hP hS
  refine (hω _ _ _ _ _).mpr ?_
  exact lv_dstore hx hb d hl (by rw [hn]; exact h) hlo (fun ls hl => (hω _ _ _ _ _).mp (k0 H locs ls hl hP hS))
theorem j_mmin (C : Cx x cc mL own ret tab Ts R D tys) {a b : Int32} {idx : Nat} (d : decode cc pc = .ok (.invokestatic idx, 3)) (h1 : Cond.methodLink own idx Lib.Math.min.name ∈ Ts) (h2 : Cond.static Lib.Math.min.name ∈ Ts) (h3 : Cond.initialized "java/lang/Math" ∈ Ts) (h4 : Cond.code Lib.Math.min.name Lib.Math.min.code 2 (some .int) ∈ Ts) (hf : 1 ≤ R.frames) (hL : (st.map fun v => v.category).sum + 13 ≤ R.locals) (hc : kc ≤ R.cells) (hs : ns ≤ R.slots) (k0 : J x lo (.int (if b < a then b else a) :: st) σ (pc + 3) kc ns) : J x lo (.int b :: .int a :: st) σ pc kc ns := by
  obtain ⟨p, l, e, s, args, below, meth, c, Qc, XC, free, hω, hx, hb, hml, hn, hts, hown, hK, hr, hlk, htab, hst, hH0, hSt, hRet, hThr⟩ := C
  intro H locs ls hl hP hS
  refine (hω _ _ _ _ _).mpr ?_
  exact va_mmin hx hb (by rw [hml, ← hn]; exact hl.1.symm) hown (hts _ h1) (hts _ h2) (hts _ h3) (hts _ h4) hf hL hc hs d ((hω _ _ _ _ _).mp (k0 H locs ls hl hP hS))
theorem j_mabs (C : Cx x cc mL own ret tab Ts R D tys) {a : Int32} {idx : Nat} (d : decode cc pc = .ok (.invokestatic idx, 3)) (h1 : Cond.methodLink own idx Lib.Math.abs.name ∈ Ts) (h2 : Cond.static Lib.Math.abs.name ∈ Ts) (h3 : Cond.initialized "java/lang/Math" ∈ Ts) (h4 : Cond.code Lib.Math.abs.name Lib.Math.abs.code 1 (some .int) ∈ Ts) (hf : 1 ≤ R.frames) (hL : (st.map fun v => v.category).sum + 13 ≤ R.locals) (hc : kc ≤ R.cells) (hs : ns ≤ R.slots) (k0 : J x lo (.int (if 0 ≤ a then a else 0 - a) :: st) σ (pc + 3) kc ns) : J x lo (.int a :: st) σ pc kc ns := by
  obtain ⟨p, l, e, s, args, below, meth, c, Qc, XC, free, hω, hx, hb, hml, hn, hts, hown, hK, hr, hlk, htab, hst, hH0, hSt, hRet, hThr⟩ := C
  intro H locs ls hl hP hS
  refine (hω _ _ _ _ _).mpr ?_
  exact va_mabs hx hb (by rw [hml, ← hn]; exact hl.1.symm) hown (hts _ h1) (hts _ h2) (hts _ h3) (hts _ h4) hf hL hc hs d ((hω _ _ _ _ _).mp (k0 H locs ls hl hP hS))
theorem j_ireturn {a : Int32} (C : Cx x cc mL own (some .int) tab Ts R D tys)  (d : decode cc pc = .ok (.ireturn, 1)) (hg : x.2.2.2.2.2.2 = (.inl (some (.int a)), σ)) (hk : kc ≤ R.cells) (hs : ns ≤ R.slots) : J x lo [.int a] σ pc kc ns := by
  obtain ⟨p, l, e, s, args, below, meth, c, Qc, XC, free, hω, hx, hb, hml, hn, hts, hown, hK, hr, hlk, htab, hst, hH0, hSt, hRet, hThr⟩ := C
  intro H locs ls hl hP hS
  refine (hω _ _ _ _ _).mpr ?_
  rw [hH0] at hS
  obtain ⟨q1, q2⟩ := hRet _ σ H locs hg hP hS
  refine W.widen hk hs (vx_ret ?_)
  exact W.iret hx hb hr q1 q2 d hlk
theorem j_zreturn {a : Int32} {ty : FieldType} (C : Cx x cc mL own (some ty) tab Ts R D tys) (hn9 : narrow ty (.int a) = .int a) (d : decode cc pc = .ok (.ireturn, 1)) (hg : x.2.2.2.2.2.2 = (.inl (some (.int a)), σ)) (hk : kc ≤ R.cells) (hs : ns ≤ R.slots) : J x lo [.int a] σ pc kc ns := by
  obtain ⟨p, l, e, s, args, below, meth, c, Qc, XC, free, hω, hx, hb, hml, hn, hts, hown, hK, hr, hlk, htab, hst, hH0, hSt, hRet, hThr⟩ := C
  intro H locs ls hl hP hS
  refine (hω _ _ _ _ _).mpr ?_
  rw [hH0] at hS
  obtain ⟨q1, q2⟩ := hRet _ σ H locs hg hP hS
  refine W.widen hk hs (vx_ret ?_)
  exact W.zret hx hb hr hn9 q1 q2 d hlk
theorem j_areturn {a : Nat} {rt : FieldType} (C : Cx x cc mL own (some rt) tab Ts R D tys) (hrt : (∃ n, rt = .object n) ∨ ∃ t, rt = .array t) (d : decode cc pc = .ok (.areturn, 1)) (hg : x.2.2.2.2.2.2 = (.inl (some (.ref a)), σ)) (hk : kc ≤ R.cells) (hs : ns ≤ R.slots) : J x lo [.ref a] σ pc kc ns := by
  obtain ⟨p, l, e, s, args, below, meth, c, Qc, XC, free, hω, hx, hb, hml, hn, hts, hown, hK, hr, hlk, htab, hst, hH0, hSt, hRet, hThr⟩ := C
  intro H locs ls hl hP hS
  refine (hω _ _ _ _ _).mpr ?_
  rw [hH0] at hS
  obtain ⟨q1, q2⟩ := hRet _ σ H locs hg hP hS
  refine W.widen hk hs (vx_ret ?_)
  exact W.aret hx hb hr hrt (Or.inr ⟨_, rfl⟩) q1 q2 d hlk
theorem j_areturnN {rt : FieldType} (C : Cx x cc mL own (some rt) tab Ts R D tys) (hrt : (∃ n, rt = .object n) ∨ ∃ t, rt = .array t) (d : decode cc pc = .ok (.areturn, 1)) (hg : x.2.2.2.2.2.2 = (.inl (some .null), σ)) (hk : kc ≤ R.cells) (hs : ns ≤ R.slots) : J x lo [.null] σ pc kc ns := by
  obtain ⟨p, l, e, s, args, below, meth, c, Qc, XC, free, hω, hx, hb, hml, hn, hts, hown, hK, hr, hlk, htab, hst, hH0, hSt, hRet, hThr⟩ := C
  intro H locs ls hl hP hS
  refine (hω _ _ _ _ _).mpr ?_
  rw [hH0] at hS
  obtain ⟨q1, q2⟩ := hRet _ σ H locs hg hP hS
  refine W.widen hk hs (vx_ret ?_)
  exact W.aret hx hb hr hrt (Or.inl rfl) q1 q2 d hlk
theorem j_dreturn {a : UInt64} (C : Cx x cc mL own (some .double) tab Ts R D tys)  (d : decode cc pc = .ok (.dreturn, 1)) (hg : x.2.2.2.2.2.2 = (.inl (some (.double a)), σ)) (hk : kc ≤ R.cells) (hs : ns ≤ R.slots) : J x lo [.double a] σ pc kc ns := by
  obtain ⟨p, l, e, s, args, below, meth, c, Qc, XC, free, hω, hx, hb, hml, hn, hts, hown, hK, hr, hlk, htab, hst, hH0, hSt, hRet, hThr⟩ := C
  intro H locs ls hl hP hS
  refine (hω _ _ _ _ _).mpr ?_
  rw [hH0] at hS
  obtain ⟨q1, q2⟩ := hRet _ σ H locs hg hP hS
  refine W.widen hk hs (vx_ret ?_)
  exact W.dret hx hb hr q1 q2 d hlk
theorem j_return  (C : Cx x cc mL own none tab Ts R D tys)  (d : decode cc pc = .ok (.return_, 1)) (hg : x.2.2.2.2.2.2 = (.inl (none), σ)) (hk : kc ≤ R.cells) (hs : ns ≤ R.slots) : J x lo [] σ pc kc ns := by
  obtain ⟨p, l, e, s, args, below, meth, c, Qc, XC, free, hω, hx, hb, hml, hn, hts, hown, hK, hr, hlk, htab, hst, hH0, hSt, hRet, hThr⟩ := C
  intro H locs ls hl hP hS
  refine (hω _ _ _ _ _).mpr ?_
  rw [hH0] at hS
  obtain ⟨q1, q2⟩ := hRet _ σ H locs hg hP hS
  refine W.widen hk hs (vx_ret ?_)
  exact W.vret hx hb hr q1 q2 d hlk
end JROWS
section MROWS
variable {x : Xt Mem} {G : Gt} {cc : ByteArray} {mL : Nat} {own : String} {ret : Option FieldType} {tab : List ExceptionTableEntry} {Ts : List Cond} {R : Room} {lo lo' : List (Nat × Value)} {st : List Value} {σ : Mem} {pc kc ns : Nat}
theorem j_get (C : Cx x cc mL own ret tab Ts R G.1 (tysF G)) (X : Wx x G) {idx i K : Nat} (d : decode cc pc = .ok (.getfield idx, 3)) (hi : Ok i K) {ci N : Nat} {Cn nm ds : String} {T : u_T} {fin : Bool} {fs : List Value} {v : Value} (he : EnR G i K (σ.1 i) (σ.2 i) = .inr (ci, fs)) (hc : vwCl[ci]? = some (Cn, T, N)) (k : Nat) (hk : k < N) (hT : T k = (Cn, nm, ds, fin)) (hv : fs[k]? = some v) (hin : ∀ w ∈ u_ws Cn T N, w ∈ Ts) (hl : Cond.fieldLink own idx Cn nm ds ∈ Ts) (k0 : J x lo (v :: st) σ (pc + 3) kc ns) : J x lo (.ref (G.2.2 i) :: st) σ pc kc ns := by
  obtain ⟨p, l, e, s, args, below, meth, c, Qc, XC, free, hω, hx, hb, hml, hn, hts, hown, hK, hr, hlk, htab, hst, hH0, hSt, hRet, hThr⟩ := C
  intro H locs ls hl1 hP hS
  refine (hω _ _ _ _ _).mpr ?_
  refine va_get hx hb hts hin hown hK ((X.1 σ H).mp hP) i (fs := fs) (ci := ci) ((g_at hi).trans (by rw [he])) hc k hk (ref := Cn) (by rw [hT]; exact hts _ hl) (fun y hy => by rw [hT] at hy ⊢; exact hy) hv d ((hω _ _ _ _ _).mp (k0 H locs ls hl1 hP hS))
theorem j_put (C : Cx x cc mL own ret tab Ts R G.1 (tysF G)) (X : Wx x G) {idx i K : Nat} {a : Int32} (d : decode cc pc = .ok (.putfield idx, 3)) (hi : Ok i K) {ci N : Nat} {Cn nm ds : String} {T : u_T} {fs : List Value} {ty0 : Nat → FieldType} {ty : FieldType} (he : EnR G i K (σ.1 i) (σ.2 i) = .inr (ci, fs)) (hc : vwCl[ci]? = some (Cn, T, N)) (k : Nat) (hk : k < N) (hT : T k = (Cn, nm, ds, false)) (hset : EnR G i K (upd (σ.1 i) k a) (σ.2 i) = .inr (ci, fs.set k (.int a))) (hlen : k < fs.length) (hty : ∀ k, k < N → parseFieldDescriptor (T k).2.2.1 = some (ty0 k)) (hnm : ∀ a, a < N → ∀ b, b < N → a ≠ b → (T a).2.1 ≠ (T b).2.1) (hd : ty0 k = ty) (hn9 : narrow ty (.int a) = .int a) (hf9 : fits ty (.int a) = true) (hin : ∀ w ∈ u_ws Cn T N, w ∈ Ts) (hl : Cond.fieldLink own idx Cn nm ds ∈ Ts) {σ1 : Mem} (hm : wi σ i k a = σ1) (k0 : J x lo st σ1 (pc + 3) kc ns) : J x lo (.int a :: .ref (G.2.2 i) :: st) σ pc kc ns := by
  subst hm
  obtain ⟨p, l, e, s, args, below, meth, c, Qc, XC, free, hω, hx, hb, hml, hn, hts, hown, hK, hr, hlk, htab, hst, hH0, hSt, hRet, hThr⟩ := C
  intro H locs ls hl1 hP hS
  refine (hω _ _ _ _ _).mpr ?_
  refine va_put hx hb hts hin ty0 hty hnm hown hK ((X.1 σ H).mp hP) (X.D σ) hS i (fs := fs) (ci := ci) ((g_at hi).trans (by rw [he])) hc k hk (ref := Cn) (by rw [hT]; exact hts _ hl) (fun y hy => by rw [hT] at hy ⊢; exact hy) (by rw [hT]) (ty := ty) (by rw [hty k hk, hd]) hn9 hf9 hlen d (fun H1 locs1 hP1 _ hS1 => ?_)
  rw [g_set (G := G) (σ := σ) (σ' := wi σ i k a) hi (by rw [wi_at]; exact hset) (fun j hj => ⟨wi_ne σ i k a hj, rfl⟩)] at hP1
  exact (hω _ _ _ _ _).mp (k0 H1 locs1 ls hl1 ((X.1 _ H1).mpr hP1) hS1)
theorem j_iald (C : Cx x cc mL own ret tab Ts R G.1 (tysF G)) (X : Wx x G) {i K n : Nat} {a : Int32} (d : decode cc pc = .ok (.iaload, 1)) (hi : Ok i K) (he : EnR G i K (σ.1 i) (σ.2 i) = .inl (G.2.1 2, n, .inl (σ.1 i))) (hin : vp_in a n) (k0 : J x lo (.int (σ.1 i a.toNatClampNeg) :: st) σ (pc + 1) kc ns) : J x lo (.int a :: .ref (G.2.2 i) :: st) σ pc kc ns := by
  obtain ⟨p, l, e, s, args, below, meth, c, Qc, XC, free, hω, hx, hb, hml, hn, hts, hown, hK, hr, hlk, htab, hst, hH0, hSt, hRet, hThr⟩ := C
  intro H locs ls hl1 hP hS
  refine (hω _ _ _ _ _).mpr ?_
  exact va_iald hx hb hK ((X.1 σ H).mp hP) i 2 ((g_at hi).trans (by rw [he])) rfl hin d ((hω _ _ _ _ _).mp (k0 H locs ls hl1 hP hS))
theorem j_zald (C : Cx x cc mL own ret tab Ts R G.1 (tysF G)) (X : Wx x G) {i K n : Nat} {a : Int32} (d : decode cc pc = .ok (.baload, 1)) (hi : Ok i K) (he : EnR G i K (σ.1 i) (σ.2 i) = .inl (G.2.1 3, n, .inl (σ.1 i))) (hin : vp_in a n) (k0 : J x lo (.int (σ.1 i a.toNatClampNeg) :: st) σ (pc + 1) kc ns) : J x lo (.int a :: .ref (G.2.2 i) :: st) σ pc kc ns := by
  obtain ⟨p, l, e, s, args, below, meth, c, Qc, XC, free, hω, hx, hb, hml, hn, hts, hown, hK, hr, hlk, htab, hst, hH0, hSt, hRet, hThr⟩ := C
  intro H locs ls hl1 hP hS
  refine (hω _ _ _ _ _).mpr ?_
  exact va_zald hx hb hK ((X.1 σ H).mp hP) i 3 ((g_at hi).trans (by rw [he])) rfl hin d ((hω _ _ _ _ _).mp (k0 H locs ls hl1 hP hS))
theorem j_iast (C : Cx x cc mL own ret tab Ts R G.1 (tysF G)) (X : Wx x G) {i K n : Nat} {a v : Int32} (d : decode cc pc = .ok (.iastore, 1)) (hi : Ok i K) (he : ∀ f, EnR G i K f (σ.2 i) = .inl (G.2.1 2, n, .inl f)) (hin : vp_in a n) {σ1 : Mem} (hm : wi σ i a.toNatClampNeg v = σ1) (k0 : J x lo st σ1 (pc + 1) kc ns) : J x lo (.int v :: .int a :: .ref (G.2.2 i) :: st) σ pc kc ns := by
  subst hm
  obtain ⟨p, l, e, s, args, below, meth, c, Qc, XC, free, hω, hx, hb, hml, hn, hts, hown, hK, hr, hlk, htab, hst, hH0, hSt, hRet, hThr⟩ := C
  intro H locs ls hl1 hP hS
  refine (hω _ _ _ _ _).mpr ?_
  refine va_iast hx hb hK ((X.1 σ H).mp hP) (X.D σ) hS i 2 ((g_at hi).trans (by rw [he])) rfl hin d (fun H1 locs1 hP1 _ hS1 => ?_)
  rw [g_set (G := G) (σ := σ) (σ' := wi σ i a.toNatClampNeg v) hi (by rw [wi_at]; exact he _) (fun j hj => ⟨wi_ne σ i _ _ hj, rfl⟩)] at hP1
  exact (hω _ _ _ _ _).mp (k0 H1 locs1 ls hl1 ((X.1 _ H1).mpr hP1) hS1)
theorem j_zast (C : Cx x cc mL own ret tab Ts R G.1 (tysF G)) (X : Wx x G) {i K n : Nat} {a v : Int32} (d : decode cc pc = .ok (.bastore, 1)) (hi : Ok i K) (he : ∀ f, EnR G i K f (σ.2 i) = .inl (G.2.1 3, n, .inl f)) (hin : vp_in a n) {σ1 : Mem} (hm : wi σ i a.toNatClampNeg (vp_nar .boolean v) = σ1) (k0 : J x lo st σ1 (pc + 1) kc ns) : J x lo (.int v :: .int a :: .ref (G.2.2 i) :: st) σ pc kc ns := by
  subst hm
  obtain ⟨p, l, e, s, args, below, meth, c, Qc, XC, free, hω, hx, hb, hml, hn, hts, hown, hK, hr, hlk, htab, hst, hH0, hSt, hRet, hThr⟩ := C
  intro H locs ls hl1 hP hS
  refine (hω _ _ _ _ _).mpr ?_
  refine va_zast hx hb hK ((X.1 σ H).mp hP) (X.D σ) hS i 3 ((g_at hi).trans (by rw [he])) rfl hin d (fun H1 locs1 hP1 _ hS1 => ?_)
  rw [g_set (G := G) (σ := σ) (σ' := wi σ i a.toNatClampNeg (vp_nar .boolean v)) hi (by rw [wi_at]; exact he _) (fun j hj => ⟨wi_ne σ i _ _ hj, rfl⟩)] at hP1
  exact (hω _ _ _ _ _).mp (k0 H1 locs1 ls hl1 ((X.1 _ H1).mpr hP1) hS1)
/-- reference arrays: kind 7 of levels, kind 8 of requests -/
theorem j_aald (C : Cx x cc mL own ret tab Ts R G.1 (tysF G)) (X : Wx x G) {i K n : Nat} {a : Int32} (d : decode cc pc = .ok (.aaload, 1)) (hi : Ok i K) (t0 : Nat) {Cn : String} {cA : ClassId} (he : EnR G i K (σ.1 i) (σ.2 i) = .inl (cA, n, .inr (.inr (.inr (.inr (fun j => some (G.2.2 (σ.2 i j)))))))) (ht : (tysF G)[t0]? = some (cA, .object Cn)) (hin : vp_in a n) (k0 : J x lo (.ref (G.2.2 (σ.2 i a.toNatClampNeg)) :: st) σ (pc + 1) kc ns) : J x lo (.int a :: .ref (G.2.2 i) :: st) σ pc kc ns := by
  obtain ⟨p, l, e, s, args, below, meth, c, Qc, XC, free, hω, hx, hb, hml, hn, hts, hown, hK, hr, hlk, htab, hst, hH0, hSt, hRet, hThr⟩ := C
  intro H locs ls hl1 hP hS
  refine (hω _ _ _ _ _).mpr ?_
  exact va_aldq (f := fun j => some (G.2.2 (σ.2 i j))) hx hb hK ((X.1 σ H).mp hP) i t0 ((g_at hi).trans (by rw [he])) ht hin d ((hω _ _ _ _ _).mp (k0 H locs ls hl1 hP hS))
theorem j_aast (C : Cx x cc mL own ret tab Ts R G.1 (tysF G)) (X : Wx x G) {i K n j K2 : Nat} {a : Int32} (d : decode cc pc = .ok (.aastore, 1)) (hi : Ok i K) (hj : Ok j K2) (t0 : Nat) {cA : ClassId} {r : vw_C} {ci : Nat} {vs : List Value} (he : ∀ g, EnR G i K (σ.1 i) g = .inl (cA, n, .inr (.inr (.inr (.inr (fun j => some (G.2.2 (g j)))))))) (ht : (tysF G)[t0]? = some (cA, .object r.1)) (hv : EnR G j K2 (σ.1 j) (σ.2 j) = .inr (ci, vs)) (hc : vwCl[ci]? = some r) (hin : vp_in a n) {σ1 : Mem} (hm : wr σ i a.toNatClampNeg j = σ1) (k0 : J x lo st σ1 (pc + 1) kc ns) : J x lo (.ref (G.2.2 j) :: .int a :: .ref (G.2.2 i) :: st) σ pc kc ns := by
  subst hm
  obtain ⟨p, l, e, s, args, below, meth, c, Qc, XC, free, hω, hx, hb, hml, hn, hts, hown, hK, hr, hlk, htab, hst, hH0, hSt, hRet, hThr⟩ := C
  intro H locs ls hl1 hP hS
  refine (hω _ _ _ _ _).mpr ?_
  refine va_astq hx hb hK ((X.1 σ H).mp hP) (X.D σ) hS i t0 j ci ((g_at hi).trans (by rw [he])) ht ((g_at hj).trans (by rw [hv])) hc hin d (fun H1 locs1 hP1 _ hS1 => ?_)
  rw [g_set (G := G) (σ := σ) (σ' := wr σ i a.toNatClampNeg j) hi (by show EnR G i K (σ.1 i) _ = _; rw [wr_at, he]; exact congrArg (fun f => (Sum.inl (cA, n, .inr (.inr (.inr (.inr f)))) : va_E)) (funext fun q => by by_cases h : q = a.toNatClampNeg <;> simp [va_up, h])) (fun j hj => ⟨rfl, wr_ne σ i _ _ hj⟩)] at hP1
  exact (hω _ _ _ _ _).mp (k0 H1 locs1 ls hl1 ((X.1 _ H1).mpr hP1) hS1)
theorem j_alen (C : Cx x cc mL own ret tab Ts R G.1 (tysF G)) (X : Wx x G) {i K : Nat} (d : decode cc pc = .ok (.arraylength, 1)) (hi : Ok i K) (t0 : Nat) {cA : ClassId} {y : vp_A} {ty : FieldType} (he : EnR G i K (σ.1 i) (σ.2 i) = .inl (cA, y)) (ht : (tysF G)[t0]? = some (cA, ty)) (v : Int32) (hv : Int32.ofNat y.1 = v) (k0 : J x lo (.int v :: st) σ (pc + 1) kc ns) : J x lo (.ref (G.2.2 i) :: st) σ pc kc ns := by
  obtain ⟨p, l, e, s, args, below, meth, c, Qc, XC, free, hω, hx, hb, hml, hn, hts, hown, hK, hr, hlk, htab, hst, hH0, hSt, hRet, hThr⟩ := C
  intro H locs ls hl1 hP hS
  refine (hω _ _ _ _ _).mpr ?_
  exact va_alen hx hb hK ((X.1 σ H).mp hP) i t0 ((g_at hi).trans (by rw [he])) ht hv d ((hω _ _ _ _ _).mp (k0 H locs ls hl1 hP hS))
theorem j_lald (C : Cx x cc mL own ret tab Ts R G.1 (tysF G)) (X : Wx x G) {i : Nat} {a : Int32} (d : decode cc pc = .ok (.laload, 1)) (hi : Ok i 12) (hin : vp_in a 1) (k0 : J x lo (.long (σ.1 i a.toNatClampNeg).toInt64 :: st) σ (pc + 1) kc ns) : J x lo (.int a :: .ref (G.2.2 i) :: st) σ pc kc ns := by
  obtain ⟨p, l, e, s, args, below, meth, c, Qc, XC, free, hω, hx, hb, hml, hn, hts, hown, hK, hr, hlk, htab, hst, hH0, hSt, hRet, hThr⟩ := C
  intro H locs ls hl1 hP hS
  refine (hω _ _ _ _ _).mpr ?_
  exact va_lald (f := fun j => (σ.1 i j).toInt64) hx hb hK ((X.1 σ H).mp hP) i 4 (g_at hi) rfl hin d ((hω _ _ _ _ _).mp (k0 H locs ls hl1 hP hS))
theorem j_last (C : Cx x cc mL own ret tab Ts R G.1 (tysF G)) (X : Wx x G) {i : Nat} {a v : Int32} {w : Int64} (d : decode cc pc = .ok (.lastore, 1)) (hi : Ok i 12) (hw : v.toInt64 = w) (hin : vp_in a 1) {σ1 : Mem} (hm : wi σ i a.toNatClampNeg v = σ1) (k0 : J x lo st σ1 (pc + 1) kc ns) : J x lo (.long w :: .int a :: .ref (G.2.2 i) :: st) σ pc kc ns := by
  subst hm
  subst hw
  obtain ⟨p, l, e, s, args, below, meth, c, Qc, XC, free, hω, hx, hb, hml, hn, hts, hown, hK, hr, hlk, htab, hst, hH0, hSt, hRet, hThr⟩ := C
  intro H locs ls hl1 hP hS
  refine (hω _ _ _ _ _).mpr ?_
  refine va_last (f := fun j => (σ.1 i j).toInt64) hx hb hK ((X.1 σ H).mp hP) (X.D σ) hS i 4 (g_at hi) rfl hin d (fun H1 locs1 hP1 _ hS1 => ?_)
  rw [g_set (G := G) (σ := σ) (σ' := wi σ i a.toNatClampNeg v) hi (by rw [wi_at]; exact congrArg (fun f => (Sum.inl (G.2.1 4, 1, .inr (.inl f)) : va_E)) (funext fun q => by by_cases h : q = a.toNatClampNeg <;> simp [vp_updL, upd, h])) (fun j hj => ⟨wi_ne σ i _ _ hj, rfl⟩)] at hP1
  exact (hω _ _ _ _ _).mp (k0 H1 locs1 ls hl1 ((X.1 _ H1).mpr hP1) hS1)
theorem j_dald (C : Cx x cc mL own ret tab Ts R G.1 (tysF G)) (X : Wx x G) {i : Nat} (d : decode cc pc = .ok (.daload, 1)) (hi : Ok i 13) (k0 : J x lo (.double (dq (σ.1 i 0) (σ.1 i 1)) :: st) σ (pc + 1) kc ns) : J x lo (.int 0 :: .ref (G.2.2 i) :: st) σ pc kc ns := by
  obtain ⟨p, l, e, s, args, below, meth, c, Qc, XC, free, hω, hx, hb, hml, hn, hts, hown, hK, hr, hlk, htab, hst, hH0, hSt, hRet, hThr⟩ := C
  intro H locs ls hl1 hP hS
  refine (hω _ _ _ _ _).mpr ?_
  exact va_dald (f := fun j => if j = 0 then dq (σ.1 i 0) (σ.1 i 1) else 0) hx hb hK ((X.1 σ H).mp hP) i 5 (g_at hi) rfl (i := 0) (vp_in_nI (n := 0) (N := 1) (by decide) (by decide)) d ((hω _ _ _ _ _).mp (k0 H locs ls hl1 hP hS))
theorem j_dast (C : Cx x cc mL own ret tab Ts R G.1 (tysF G)) (X : Wx x G) {i : Nat} {a b : Int32} (d : decode cc pc = .ok (.dastore, 1)) (hi : Ok i 13) {σ1 : Mem} (hm : wi (wi σ i 0 a) i 1 b = σ1) (k0 : J x lo st σ1 (pc + 1) kc ns) : J x lo (.double (dq a b) :: .int 0 :: .ref (G.2.2 i) :: st) σ pc kc ns := by
  subst hm
  obtain ⟨p, l, e, s, args, below, meth, c, Qc, XC, free, hω, hx, hb, hml, hn, hts, hown, hK, hr, hlk, htab, hst, hH0, hSt, hRet, hThr⟩ := C
  intro H locs ls hl1 hP hS
  refine (hω _ _ _ _ _).mpr ?_
  refine va_dast (f := fun j => if j = 0 then dq (σ.1 i 0) (σ.1 i 1) else 0) hx hb hK ((X.1 σ H).mp hP) (X.D σ) hS i 5 (g_at hi) rfl (i := 0) (vp_in_nI (n := 0) (N := 1) (by decide) (by decide)) d (fun H1 locs1 hP1 _ hS1 => ?_)
  rw [g_set (G := G) (σ := σ) (σ' := wi (wi σ i 0 a) i 1 b) hi (by rw [wi_at, wi_at]; exact congrArg (fun f => (Sum.inl (G.2.1 5, 1, .inr (.inr (.inr (.inl f)))) : va_E)) (funext fun q => by by_cases h : q = 0 <;> simp [vf_upd, upd, h])) (fun j hj => ⟨by rw [wi_ne _ _ _ _ hj, wi_ne _ _ _ _ hj], rfl⟩)] at hP1
  exact (hω _ _ _ _ _).mp (k0 H1 locs1 ls hl1 ((X.1 _ H1).mpr hP1) hS1)
end MROWS

/-! CONTRACTS over the memory -/
def AF (G : Gt) (sz : Nat) : Addr → Prop := fun q => (∃ i, i < 51 ∧ q = G.2.2 i) ∨ sz ≤ q
def Inj (G : Gt) : Prop := ∀ i j, i < 51 → j < 51 → G.2.2 i = G.2.2 j → i = j
def PreM (G : Gt) (σ : Mem) (sz : Nat) (U : State) : Prop := U.heap.size = sz ∧ va_P G.1 vwCl (wsF G σ) U.heap ∧ va_K G.1 vwCl (tysF G) U ∧ Inj G ∧ St (AF G sz) U U.heap
def QcM (G : Gt) (o : Option Value ⊕ String) (σ' : Mem) (sz : Nat) : Array Value → State → Outcome → State → Prop := fun _ st oc t => ∃ v, o = .inl v ∧ oc = .returned v ∧ va_P G.1 vwCl (wsF G σ') t.heap ∧ va_F (AF G sz) st t
def XcM (G : Gt) (o : Option Value ⊕ String) (σ' : Mem) (sz : Nat) : String → State → State → Prop := fun E st t => o = .inr E ∧ va_P G.1 vwCl (wsF G σ') t.heap ∧ va_F (AF G sz) st t
/-- from every heap that holds σ the method comes to the outcome o, and the heap holds σ' -/
def MM (y : MethodName) (ws : List Cond) (rm : Room) (vs : List Value) (G : Gt) (σ : Mem) (o : Option Value ⊕ String) (σ' : Mem) : Prop :=
  ∀ l : Launch, l.stackTraces = false → ∀ sz, vx_Met l y ws rm (va_Pc vs (PreM G σ sz)) (QcM G o σ' sz) (XcM G o σ' sz) rm.cells rm.slots (AF G sz)
theorem St.calling {A : Nat → Prop} {U : State} {H : Heap} (h : St A U H) {g : JFrame} {mk : MethodId} {a : Array Value} : St A (U.calling g mk a) H :=
  ⟨h.1.moved (Vm.Alike.refl U.vm), h.2.1.moved (Vm.Alike.refl U.vm), SR.same rfl h.2.2.1, CS.calling h.2.2.2⟩
theorem preM_blind {vs : List Value} {G : Gt} {σ : Mem} {sz : Nat} : FrameBlind (va_Pc vs (PreM G σ sz)) := by
  intro a U g mk h
  obtain ⟨h1, h2, h3, h4, h5, h6⟩ := h
  exact ⟨h1, h2, h3, va_K.moved (u := U) (U := U.calling g mk a) (Vm.Alike.refl U.vm) h4, h5, St.calling h6⟩
theorem af_sub {x : Xt Mem} {G : Gt} (X : Wx x G) {H : Heap} {locs : List Loc} (hS : va_S x.2.2.2.2.1 x.2.2.2.2.2.1 H locs) : ∀ q : Nat, AF G H.size q → x.2.2.2.2.1 q := by
  intro q h
  rcases h with ⟨i, hi, e⟩ | h
  · rw [e]
    exact X.2.2.1 i hi
  · exact X.2.2.2 q (Nat.le_trans hS.1 h)
/-- the callee's start, at the caller's state -/
theorem preM_at {x : Xt Mem} {G : Gt} (X : Wx x G) {s : State} {H : Heap} {locs : List Loc} {σ : Mem} {vs : List Value} (hH0 : x.2.2.2.2.2.1 = s.heap) (hK : va_K G.1 vwCl (tysF G) s) (hSt : St x.2.2.2.2.1 s s.heap) (hP : x.2.2.2.1 σ H) (hS : va_S x.2.2.2.2.1 x.2.2.2.2.2.1 H locs) :
    ∀ U : State, U.heap = H → s.WarmedH U.vm → va_Pc vs (PreM G σ H.size) vs.toArray U := by
  intro U hU hW
  have hsub := af_sub X hS
  rw [hH0] at hS
  refine ⟨rfl, by rw [hU], by rw [hU]; exact (X.1 σ H).mp hP, va_K.moved hW.alike hK, X.2.1, ?_⟩
  rw [hU]
  exact ⟨((hSt.1.kept hS.2.1).narrow hsub).moved hW.alike, ((hSt.2.1.kept hS.2.1).narrow hsub).moved hW.alike, SR.warm hW hSt.2.2.1, CS.warm hW hSt.2.2.2⟩
section CALLS
variable {x : Xt Mem} {G : Gt} {cc : ByteArray} {mL : Nat} {own : String} {ret : Option FieldType} {tab : List ExceptionTableEntry} {Ts : List Cond} {R : Room} {lo lo' : List (Nat × Value)} {st st0 : List Value} {σ σ1 : Mem} {pc kc ns : Nat}
abbrev hyOk (y : MethodName) (n : Nat) : Prop := y.cls ≠ "java/lang/invoke/MethodHandle" ∧ y.cls ≠ "java/lang/invoke/VarHandle" ∧ (parseMethodDescriptor y.desc).map (fun d => d.parameters.length) = some n
theorem j_callV (C : Cx x cc mL own ret tab Ts R G.1 (tysF G)) (X : Wx x G) {y : MethodName} {bytes : ByteArray} {maxL idx b K n : Nat} {ret' : Option FieldType} {ws ws' : List Cond} {rm : Room} {vs : List Value} {v : Option Value} (M : MM y ws rm (.ref (G.2.2 b) :: vs) G σ (.inl v) σ1) (d : decode cc pc = .ok (.invokevirtual idx, 3)) (g : GoodIn Ts (wsV own idx y.cls y ws)) (hw : ws = Cond.code y bytes maxL ret' :: ws') (hy : hyOk y n) (hlen : vs.length = n) (hi : Ok b K) {ci : Nat} {q : vw_C} {fs : List Value} (he : EnR G b K (σ.1 b) (σ.2 b) = .inr (ci, fs)) (hc : vwCl[ci]? = some q) (hq : q.1 = y.cls) (hstk : st0 = vs.reverse ++ .ref (G.2.2 b) :: st) (hR : rm.frames + 1 ≤ R.frames ∧ 8 + (maxL + 11) + rm.locals ≤ R.locals) (hsum : (st.map fun v => v.category).sum ≤ 8) (hf : kc + rm.cells ≤ R.cells ∧ ns + rm.slots ≤ R.slots) (k0 : J x lo (v.toList ++ st) σ1 (pc + 3) (kc + rm.cells) (ns + rm.slots)) : J x lo st0 σ pc kc ns := by
  obtain ⟨p, l, e, s, args, below, meth, c, Qc, XC, free, hω, hx, hb, hml, hn, hts, hown, hK, hr, hlk, htab, hst, hH0, hSt, hRet, hThr⟩ := C
  intro H locs ls hl1 hP hS
  refine (hω _ _ _ _ _).mpr ?_
  have hrv := va_recv hK ((X.1 σ H).mp hP) hc ((g_at hi).trans (by rw [he]))
  rw [hq] at hrv
  have run : vx_Run p l e R s x.2.1 args below meth c H locs kc ns rm.cells rm.slots (F0 x.2.1 pc ls st0) st (QcM G (.inl v) σ1 H.size (Value.ref (G.2.2 b) :: vs).toArray) (XcM G (.inl v) σ1 H.size) (AF G H.size) := vx_runV (g := F0 x.2.1 pc ls st0) ⟨hx, hb, hml, hown, hts⟩ (M l hst H.size) (cwV n hts g hw rfl rfl ⟨rfl, hy.1, hy.2.1, hy.2.2⟩ hR) ⟨preM_blind, hrv, preM_at X hH0 hK hSt hP hS⟩ rfl hlen (hl1.1.trans hn) hstk (lv_room (m := x.2.1) (pc := pc) (ls := ls) (rest := st) hsum) d hf
  intro T hT Y
  rcases run T hT Y with ⟨v2, st₀, t, T', L, h0, Y', hL, e1, e2, ⟨v3, ho, hv, hP1, hF⟩, stp⟩ | ⟨q2, st₀, t, T', L, E, ce, h0, Y', hL, e1, e2, ⟨ho, hP1, hF⟩, hce, hcv, hcl, stp⟩
  · cases ho
    cases hv
    obtain ⟨k1, k2, k3⟩ := vx_keep h0 e1 hS (fun q _ h => af_sub X hS q h) (af_sub X hS) hL hF
    obtain ⟨t2, a1, b1⟩ := (hω _ _ _ _ _).mp (k0 T'.heap (locs ++ L) ls hl1 ((X.1 _ _).mpr (by rw [e1]; exact hP1)) k3) T' rfl Y'
    exact ⟨t2, stp t2 a1, b1⟩
  · cases ho
theorem j_callS (C : Cx x cc mL own ret tab Ts R G.1 (tysF G)) (X : Wx x G) {y : MethodName} {bytes : ByteArray} {maxL idx n : Nat} {ret' : Option FieldType} {ws ws' : List Cond} {rm : Room} {vs : List Value} {v : Option Value} (M : MM y ws rm vs G σ (.inl v) σ1) (d : decode cc pc = .ok (.invokestatic idx, 3)) (g : GoodIn Ts (va_wsS own idx y ws)) (hw : ws = Cond.code y bytes maxL ret' :: ws') (hy : hyOk y n) (hlen : vs.length = n) (hstk : st0 = vs.reverse ++ st) (hR : rm.frames + 1 ≤ R.frames ∧ 8 + (maxL + 11) + rm.locals ≤ R.locals) (hsum : (st.map fun v => v.category).sum ≤ 8) (hf : kc + rm.cells ≤ R.cells ∧ ns + rm.slots ≤ R.slots) (k0 : J x lo (v.toList ++ st) σ1 (pc + 3) (kc + rm.cells) (ns + rm.slots)) : J x lo st0 σ pc kc ns := by
  obtain ⟨p, l, e, s, args, below, meth, c, Qc, XC, free, hω, hx, hb, hml, hn, hts, hown, hK, hr, hlk, htab, hst, hH0, hSt, hRet, hThr⟩ := C
  intro H locs ls hl1 hP hS
  refine (hω _ _ _ _ _).mpr ?_
  have run : vx_Run p l e R s x.2.1 args below meth c H locs kc ns rm.cells rm.slots (F0 x.2.1 pc ls st0) st (QcM G (.inl v) σ1 H.size vs.toArray) (XcM G (.inl v) σ1 H.size) (AF G H.size) := vx_runS (g := F0 x.2.1 pc ls st0) ⟨hx, hb, hml, hown, hts⟩ (M l hst H.size) (va_cwS n hts g hw rfl rfl ⟨hy.1, hy.2.1, hy.2.2⟩ hR) ⟨preM_blind, preM_at X hH0 hK hSt hP hS⟩ rfl hlen (hl1.1.trans hn) hstk (lv_room (m := x.2.1) (pc := pc) (ls := ls) (rest := st) hsum) d hf
  intro T hT Y
  rcases run T hT Y with ⟨v2, st₀, t, T', L, h0, Y', hL, e1, e2, ⟨v3, ho, hv, hP1, hF⟩, stp⟩ | ⟨q2, st₀, t, T', L, E, ce, h0, Y', hL, e1, e2, ⟨ho, hP1, hF⟩, hce, hcv, hcl, stp⟩
  · cases ho
    cases hv
    obtain ⟨k1, k2, k3⟩ := vx_keep h0 e1 hS (fun q _ h => af_sub X hS q h) (af_sub X hS) hL hF
    obtain ⟨t2, a1, b1⟩ := (hω _ _ _ _ _).mp (k0 T'.heap (locs ++ L) ls hl1 ((X.1 _ _).mpr (by rw [e1]; exact hP1)) k3) T' rfl Y'
    exact ⟨t2, stp t2 a1, b1⟩
  · cases ho
theorem j_callSX (C : Cx x cc mL own ret tab Ts R G.1 (tysF G)) (X : Wx x G) {y : MethodName} {bytes : ByteArray} {maxL idx n : Nat} {ret' : Option FieldType} {ws ws' : List Cond} {hh : List (Nat × Nat × Nat × Nat)} {rm : Room} {vs : List Value} {v : Option Value} (M : MM y ws rm vs G σ (.inl v) σ1) (d : decode cc pc = .ok (.invokestatic idx, 3)) (g : GoodIn Ts (va_wsS own idx y ws)) (hw : ws = Cond.codeWith y bytes maxL ret' hh :: ws') (hy : hyOk y n) (hlen : vs.length = n) (hstk : st0 = vs.reverse ++ st) (hR : rm.frames + 1 ≤ R.frames ∧ 8 + (maxL + 11) + rm.locals ≤ R.locals) (hsum : (st.map fun v => v.category).sum ≤ 8) (hf : kc + rm.cells ≤ R.cells ∧ ns + rm.slots ≤ R.slots) (k0 : J x lo (v.toList ++ st) σ1 (pc + 3) (kc + rm.cells) (ns + rm.slots)) : J x lo st0 σ pc kc ns := by
  obtain ⟨p, l, e, s, args, below, meth, c, Qc, XC, free, hω, hx, hb, hml, hn, hts, hown, hK, hr, hlk, htab, hst, hH0, hSt, hRet, hThr⟩ := C
  intro H locs ls hl1 hP hS
  refine (hω _ _ _ _ _).mpr ?_
  have run : vx_Run p l e R s x.2.1 args below meth c H locs kc ns rm.cells rm.slots (F0 x.2.1 pc ls st0) st (QcM G (.inl v) σ1 H.size vs.toArray) (XcM G (.inl v) σ1 H.size) (AF G H.size) := vx_runSX (g := F0 x.2.1 pc ls st0) ⟨hx, hb, hml, hown, hts⟩ (M l hst H.size) (vx_cwSW n hts g hw rfl rfl ⟨hy.1, hy.2.1, hy.2.2⟩ hR) ⟨preM_blind, preM_at X hH0 hK hSt hP hS⟩ rfl hlen (hl1.1.trans hn) hstk (lv_room (m := x.2.1) (pc := pc) (ls := ls) (rest := st) hsum) d hf
  intro T hT Y
  rcases run T hT Y with ⟨v2, st₀, t, T', L, h0, Y', hL, e1, e2, ⟨v3, ho, hv, hP1, hF⟩, stp⟩ | ⟨q2, st₀, t, T', L, E, ce, h0, Y', hL, e1, e2, ⟨ho, hP1, hF⟩, hce, hcv, hcl, stp⟩
  · cases ho
    cases hv
    obtain ⟨k1, k2, k3⟩ := vx_keep h0 e1 hS (fun q _ h => af_sub X hS q h) (af_sub X hS) hL hF
    obtain ⟨t2, a1, b1⟩ := (hω _ _ _ _ _).mp (k0 T'.heap (locs ++ L) ls hl1 ((X.1 _ _).mpr (by rw [e1]; exact hP1)) k3) T' rfl Y'
    exact ⟨t2, stp t2 a1, b1⟩
  · cases ho
/-- the callee throws, and nothing here catches it -/
theorem j_escV (C : Cx x cc mL own ret [] Ts R G.1 (tysF G)) (X : Wx x G) {y : MethodName} {bytes : ByteArray} {maxL idx b K n : Nat} {ret' : Option FieldType} {ws ws' : List Cond} {rm : Room} {vs : List Value} {E0 : String} (M : MM y ws rm (.ref (G.2.2 b) :: vs) G σ (.inr E0) σ1) (d : decode cc pc = .ok (.invokevirtual idx, 3)) (g : GoodIn Ts (wsV own idx y.cls y ws)) (hw : ws = Cond.code y bytes maxL ret' :: ws') (hy : hyOk y n) (hlen : vs.length = n) (hi : Ok b K) {ci : Nat} {q : vw_C} {fs : List Value} (he : EnR G b K (σ.1 b) (σ.2 b) = .inr (ci, fs)) (hc : vwCl[ci]? = some q) (hq : q.1 = y.cls) (hstk : st0 = vs.reverse ++ .ref (G.2.2 b) :: st) (hR : rm.frames + 1 ≤ R.frames ∧ 8 + (maxL + 11) + rm.locals ≤ R.locals) (hsum : (st.map fun v => v.category).sum ≤ 8) (hf : kc + rm.cells ≤ R.cells ∧ ns + rm.slots ≤ R.slots) (hg : x.2.2.2.2.2.2 = (.inr E0, σ1)) : J x lo st0 σ pc kc ns := by
  obtain ⟨p, l, e, s, args, below, meth, c, Qc, XC, free, hω, hx, hb, hml, hn, hts, hown, hK, hr, hlk, htab, hst, hH0, hSt, hRet, hThr⟩ := C
  intro H locs ls hl1 hP hS
  refine (hω _ _ _ _ _).mpr ?_
  have hrv := va_recv hK ((X.1 σ H).mp hP) hc ((g_at hi).trans (by rw [he]))
  rw [hq] at hrv
  have run : vx_Run p l e R s x.2.1 args below meth c H locs kc ns rm.cells rm.slots (F0 x.2.1 pc ls st0) st (QcM G (.inr E0) σ1 H.size (Value.ref (G.2.2 b) :: vs).toArray) (XcM G (.inr E0) σ1 H.size) (AF G H.size) := vx_runV (g := F0 x.2.1 pc ls st0) ⟨hx, hb, hml, hown, hts⟩ (M l hst H.size) (cwV n hts g hw rfl rfl ⟨rfl, hy.1, hy.2.1, hy.2.2⟩ hR) ⟨preM_blind, hrv, preM_at X hH0 hK hSt hP hS⟩ rfl hlen (hl1.1.trans hn) hstk (lv_room (m := x.2.1) (pc := pc) (ls := ls) (rest := st) hsum) d hf
  intro T hT Y
  rcases run T hT Y with ⟨v2, st₀, t, T', L, h0, Y', hL, e1, e2, ⟨v3, ho, hv, hP1, hF⟩, stp⟩ | ⟨q2, st₀, t, T', L, E, ce, h0, Y', hL, e1, e2, ⟨ho, hP1, hF⟩, hce, hcv, hcl, stp⟩
  · cases ho
  · cases ho
    obtain ⟨k1, k2, k3⟩ := vx_keep h0 e1 hS (fun q _ h => af_sub X hS q h) (af_sub X hS) hL hF
    rw [hH0] at k3
    obtain ⟨r1, r2⟩ := hThr E0 σ1 T'.heap (locs ++ L) hg ((X.1 _ _).mpr (by rw [e1]; exact hP1)) k3
    obtain ⟨t2, a1, b1⟩ := vx_out (pc := pc) (ls := ls) (rest := st) (p := p) (l := l) (e := e) (below := below) (Qc := Qc) (XC := XC) (args := args) (free := free) (mc := R.cells) (ms := R.slots) (by rw [htab]; intro z hz; cases hz) hlk (by rw [e1]; exact hce) hcv hcl (fun t ht hal => r1 t hal (by rw [ht]; exact Nat.le_refl _) (fun q _ => by rw [ht])) r2 hf.1 hf.2 T' rfl Y'
    exact ⟨t2, stp.trans a1, b1⟩
theorem j_escS (C : Cx x cc mL own ret [] Ts R G.1 (tysF G)) (X : Wx x G) {y : MethodName} {bytes : ByteArray} {maxL idx n : Nat} {ret' : Option FieldType} {ws ws' : List Cond} {rm : Room} {vs : List Value} {E0 : String} (M : MM y ws rm vs G σ (.inr E0) σ1) (d : decode cc pc = .ok (.invokestatic idx, 3)) (g : GoodIn Ts (va_wsS own idx y ws)) (hw : ws = Cond.code y bytes maxL ret' :: ws') (hy : hyOk y n) (hlen : vs.length = n) (hstk : st0 = vs.reverse ++ st) (hR : rm.frames + 1 ≤ R.frames ∧ 8 + (maxL + 11) + rm.locals ≤ R.locals) (hsum : (st.map fun v => v.category).sum ≤ 8) (hf : kc + rm.cells ≤ R.cells ∧ ns + rm.slots ≤ R.slots) (hg : x.2.2.2.2.2.2 = (.inr E0, σ1)) : J x lo st0 σ pc kc ns := by
  obtain ⟨p, l, e, s, args, below, meth, c, Qc, XC, free, hω, hx, hb, hml, hn, hts, hown, hK, hr, hlk, htab, hst, hH0, hSt, hRet, hThr⟩ := C
  intro H locs ls hl1 hP hS
  refine (hω _ _ _ _ _).mpr ?_
  have run : vx_Run p l e R s x.2.1 args below meth c H locs kc ns rm.cells rm.slots (F0 x.2.1 pc ls st0) st (QcM G (.inr E0) σ1 H.size vs.toArray) (XcM G (.inr E0) σ1 H.size) (AF G H.size) := vx_runS (g := F0 x.2.1 pc ls st0) ⟨hx, hb, hml, hown, hts⟩ (M l hst H.size) (va_cwS n hts g hw rfl rfl ⟨hy.1, hy.2.1, hy.2.2⟩ hR) ⟨preM_blind, preM_at X hH0 hK hSt hP hS⟩ rfl hlen (hl1.1.trans hn) hstk (lv_room (m := x.2.1) (pc := pc) (ls := ls) (rest := st) hsum) d hf
  intro T hT Y
  rcases run T hT Y with ⟨v2, st₀, t, T', L, h0, Y', hL, e1, e2, ⟨v3, ho, hv, hP1, hF⟩, stp⟩ | ⟨q2, st₀, t, T', L, E, ce, h0, Y', hL, e1, e2, ⟨ho, hP1, hF⟩, hce, hcv, hcl, stp⟩
  · cases ho
  · cases ho
    obtain ⟨k1, k2, k3⟩ := vx_keep h0 e1 hS (fun q _ h => af_sub X hS q h) (af_sub X hS) hL hF
    rw [hH0] at k3
    obtain ⟨r1, r2⟩ := hThr E0 σ1 T'.heap (locs ++ L) hg ((X.1 _ _).mpr (by rw [e1]; exact hP1)) k3
    obtain ⟨t2, a1, b1⟩ := vx_out (pc := pc) (ls := ls) (rest := st) (p := p) (l := l) (e := e) (below := below) (Qc := Qc) (XC := XC) (args := args) (free := free) (mc := R.cells) (ms := R.slots) (by rw [htab]; intro z hz; cases hz) hlk (by rw [e1]; exact hce) hcv hcl (fun t ht hal => r1 t hal (by rw [ht]; exact Nat.le_refl _) (fun q _ => by rw [ht])) r2 hf.1 hf.2 T' rfl Y'
    exact ⟨t2, stp.trans a1, b1⟩
/-- the callee throws, and a row of the table here takes it -/
theorem j_catV (C : Cx x cc mL own ret tab Ts R G.1 (tysF G)) (X : Wx x G) {y : MethodName} {bytes : ByteArray} {maxL idx b K n : Nat} {ret' : Option FieldType} {ws ws' : List Cond} {rm : Room} {vs : List Value} {E0 : String} (M : MM y ws rm (.ref (G.2.2 b) :: vs) G σ (.inr E0) σ1) (d : decode cc pc = .ok (.invokevirtual idx, 3)) (g : GoodIn Ts (wsV own idx y.cls y ws)) (hw : ws = Cond.code y bytes maxL ret' :: ws') (hy : hyOk y n) (hlen : vs.length = n) (hi : Ok b K) {ci : Nat} {q : vw_C} {fs : List Value} (he : EnR G b K (σ.1 b) (σ.2 b) = .inr (ci, fs)) (hc : vwCl[ci]? = some q) (hq : q.1 = y.cls) (hstk : st0 = vs.reverse ++ .ref (G.2.2 b) :: st) (hR : rm.frames + 1 ≤ R.frames ∧ 8 + (maxL + 11) + rm.locals ≤ R.locals) (hsum : (st.map fun v => v.category).sum ≤ 8) (hf : kc + rm.cells ≤ R.cells ∧ ns + rm.slots ≤ R.slots) (pre : List ExceptionTableEntry) (e0 : ExceptionTableEntry) (suf : List ExceptionTableEntry) (hsp : tab = pre ++ e0 :: suf) (hpass : ∀ z ∈ pre, z.catchType ≠ 0 ∧ ∃ nm : String, Cond.classLink own z.catchType nm ∈ Ts ∧ nm ∈ excs ∧ E0 ≠ nm) (hcov : covers e0 pc = true) (hct : e0.catchType ≠ 0) (hl9 : Cond.classLink own e0.catchType E0 ∈ Ts) (hex : E0 ∈ excs) (k0 : ∀ q : Nat, J x lo [.ref q] σ1 e0.handlerPc (kc + rm.cells) (ns + rm.slots)) : J x lo st0 σ pc kc ns := by
  obtain ⟨p, l, e, s, args, below, meth, c, Qc, XC, free, hω, hx, hb, hml, hn, hts, hown, hK, hr, hlk, htab, hst, hH0, hSt, hRet, hThr⟩ := C
  intro H locs ls hl1 hP hS
  refine (hω _ _ _ _ _).mpr ?_
  have hrv := va_recv hK ((X.1 σ H).mp hP) hc ((g_at hi).trans (by rw [he]))
  rw [hq] at hrv
  have run : vx_Run p l e R s x.2.1 args below meth c H locs kc ns rm.cells rm.slots (F0 x.2.1 pc ls st0) st (QcM G (.inr E0) σ1 H.size (Value.ref (G.2.2 b) :: vs).toArray) (XcM G (.inr E0) σ1 H.size) (AF G H.size) := vx_runV (g := F0 x.2.1 pc ls st0) ⟨hx, hb, hml, hown, hts⟩ (M l hst H.size) (cwV n hts g hw rfl rfl ⟨rfl, hy.1, hy.2.1, hy.2.2⟩ hR) ⟨preM_blind, hrv, preM_at X hH0 hK hSt hP hS⟩ rfl hlen (hl1.1.trans hn) hstk (lv_room (m := x.2.1) (pc := pc) (ls := ls) (rest := st) hsum) d hf
  intro T hT Y
  rcases run T hT Y with ⟨v2, st₀, t, T', L, h0, Y', hL, e1, e2, ⟨v3, ho, hv, hP1, hF⟩, stp⟩ | ⟨q2, st₀, t, T', L, E, ce, h0, Y', hL, e1, e2, ⟨ho, hP1, hF⟩, hce, hcv, hcl, stp⟩
  · cases ho
  · cases ho
    obtain ⟨k1, k2, k3⟩ := vx_keep h0 e1 hS (fun q _ h => af_sub X hS q h) (af_sub X hS) hL hF
    obtain ⟨t2, a1, b1⟩ := vx_catch (pc := pc) (ls := ls) (rest := st) (p := p) (l := l) (e := e) (below := below) (R := R) (args := args) (cells := kc + rm.cells) (slots := ns + rm.slots) (locs := locs ++ L) (H := T'.heap) (Q := vx_MQ below Qc XC args s R.cells R.slots free) (meth := meth) hown pre e0 suf (by rw [htab, hsp]) (fun z hz => by
      obtain ⟨z1, nm, z2, z3, z4⟩ := hpass z hz
      exact Or.inr ⟨z1, nm, hts _ z2, hSt.2.2.2.2.2 _ hex _ z3 z4⟩) hcov hct (hts _ hl9) (va_Nw.use (A := args) rfl (hSt.2.2.2.1 _ hex)) (by rw [e1]; exact hce) hcv hcl ((hω _ _ _ _ _).mp (k0 q2 T'.heap (locs ++ L) ls hl1 ((X.1 _ _).mpr (by rw [e1]; exact hP1)) k3)) T' rfl Y'
    exact ⟨t2, stp.trans a1, b1⟩
/-- throw new cls(text) -/
theorem j_throw {S : Type} {x : Xt S} {D : va_G} {tys : List (ClassId × FieldType)} {σ : S} (C : Cx x cc mL own ret [] Ts R D tys) {ik is ic : Nat} {cls text : String} (names : List String) (d0 : decode cc pc = .ok (.new ik, 3)) (d3 : decode cc (pc + 3) = .ok (.dup, 1)) (d4 : decode cc (pc + 4) = .ok (.ldc is, 2)) (d6 : decode cc (pc + 6) = .ok (.invokespecial ic, 3)) (d9 : decode cc (pc + 9) = .ok (.athrow, 1)) (hcls : Bundle.fit cls = true) (hnames : ∀ n ∈ names, Bundle.fit n = true) (hk : Cond.classLink own ik cls ∈ Ts) (hini : Cond.initialized cls ∈ Ts) (hstr : (own, is, text) ∈ strs) (hat : ∀ w ∈ (vx_atS own ic cls names).filter goodWord, w ∈ Ts) (hat2 : ∀ w ∈ (vx_atS own ic cls names).filter (fun w => !goodWord w), w ∈ [Cond.castable cls cls, Cond.declares (Bundle.initS "java/lang/RuntimeException"), Cond.declares (Bundle.initS "java/lang/Exception"), Cond.declares (Bundle.initS "java/lang/Throwable")]) (hex : cls ∈ excs) (hgood : ∀ w ∈ Cond.classLink own ik cls :: Cond.initialized cls :: vx_atS own ic cls names, vx_ot w = true) (hRf : names.length + 3 < R.frames) (hRl : (st.map fun v => v.category).sum + (13 * (names.length + 1) + 43) ≤ R.locals) (hRc : kc + 1 ≤ R.cells) (hRs : ns + 6 ≤ R.slots) (hP1 : ∀ (τ : S) (H H1 : Heap), x.2.2.2.1 τ H → H.size ≤ H1.size → (∀ q : Nat, q < H.size → H1[q]? = H[q]?) → x.2.2.2.1 τ H1) (hg : x.2.2.2.2.2.2 = (.inr cls, σ)) : J x lo st σ pc kc ns := by
  obtain ⟨p, l, e, s, args, below, meth, c, Qc, XC, free, hω, hx, hb, hml, hn, hts, hown, hK, hr, hlk, htab, hst, hH0, hSt, hRet, hThr⟩ := C
  intro H locs ls hl1 hP hS
  refine (hω _ _ _ _ _).mpr ?_
  rw [hH0] at hS
  obtain ⟨sa, hsa⟩ := hSt.2.2.1 (own, is, text) hstr
  obtain ⟨r1, r2⟩ := hThr cls σ H locs hg hP hS
  exact vx_throwS hx hb hst hown hcls hnames (hts _ hk) (hts _ hini) hsa (vx_hat (fun w hw => hts w (hat w hw)) hat2 (vx_c (va_Nw.use (A := args) rfl (hSt.2.2.2.1 cls hex)) (vx_c (va_Nw.use (A := args) rfl (hSt.2.2.2.2.1 _ (by decide))) (vx_c (va_Nw.use (A := args) rfl (hSt.2.2.2.2.1 _ (by decide))) (vx_c (va_Nw.use (A := args) rfl (hSt.2.2.2.2.1 _ (by decide))) vx_n))))) hgood hSt.1 hSt.2.1 hS (by rw [hml, ← hn]; exact hl1.1) d0 d3 d4 d6 d9 (by rw [htab]; intro z hz; cases hz) hRf hRl hRc hRs hlk (fun t h1 h2 h3 => r1 t h1 h2 h3) r2 hRc hRs
/-- throw new cls(text) -/
theorem j_throwW {S : Type} {x : Xt S} {D : va_G} {tys : List (ClassId × FieldType)} {σ : S} (C : Cx x cc mL own ret [] Ts R D tys) {ik is ic : Nat} {cls text : String} (names : List String) (d0 : decode cc pc = .ok (.new ik, 3)) (d3 : decode cc (pc + 3) = .ok (.dup, 1)) (d4 : decode cc (pc + 4) = .ok (.ldc_w is, 3)) (d7 : decode cc (pc + 7) = .ok (.invokespecial ic, 3)) (d10 : decode cc (pc + 10) = .ok (.athrow, 1)) (hcls : Bundle.fit cls = true) (hnames : ∀ n ∈ names, Bundle.fit n = true) (hk : Cond.classLink own ik cls ∈ Ts) (hini : Cond.initialized cls ∈ Ts) (hstr : (own, is, text) ∈ strs) (hat : ∀ w ∈ (vx_atS own ic cls names).filter goodWord, w ∈ Ts) (hat2 : ∀ w ∈ (vx_atS own ic cls names).filter (fun w => !goodWord w), w ∈ [Cond.castable cls cls, Cond.declares (Bundle.initS "java/lang/RuntimeException"), Cond.declares (Bundle.initS "java/lang/Exception"), Cond.declares (Bundle.initS "java/lang/Throwable")]) (hex : cls ∈ excs) (hgood : ∀ w ∈ Cond.classLink own ik cls :: Cond.initialized cls :: vx_atS own ic cls names, vx_ot w = true) (hRf : names.length + 3 < R.frames) (hRl : (st.map fun v => v.category).sum + (13 * (names.length + 1) + 43) ≤ R.locals) (hRc : kc + 1 ≤ R.cells) (hRs : ns + 6 ≤ R.slots) (hP1 : ∀ (τ : S) (H H1 : Heap), x.2.2.2.1 τ H → H.size ≤ H1.size → (∀ q : Nat, q < H.size → H1[q]? = H[q]?) → x.2.2.2.1 τ H1) (hg : x.2.2.2.2.2.2 = (.inr cls, σ)) : J x lo st σ pc kc ns := by
  obtain ⟨p, l, e, s, args, below, meth, c, Qc, XC, free, hω, hx, hb, hml, hn, hts, hown, hK, hr, hlk, htab, hst, hH0, hSt, hRet, hThr⟩ := C
  intro H locs ls hl1 hP hS
  refine (hω _ _ _ _ _).mpr ?_
  rw [hH0] at hS
  obtain ⟨sa, hsa⟩ := hSt.2.2.1 (own, is, text) hstr
  obtain ⟨r1, r2⟩ := hThr cls σ H locs hg hP hS
  exact vx_throwSW hx hb hst hown hcls hnames (hts _ hk) (hts _ hini) hsa (vx_hat (fun w hw => hts w (hat w hw)) hat2 (vx_c (va_Nw.use (A := args) rfl (hSt.2.2.2.1 cls hex)) (vx_c (va_Nw.use (A := args) rfl (hSt.2.2.2.2.1 _ (by decide))) (vx_c (va_Nw.use (A := args) rfl (hSt.2.2.2.2.1 _ (by decide))) (vx_c (va_Nw.use (A := args) rfl (hSt.2.2.2.2.1 _ (by decide))) vx_n))))) hgood hSt.1 hSt.2.1 hS (by rw [hml, ← hn]; exact hl1.1) d0 d3 d4 d7 d10 (by rw [htab]; intro z hz; cases hz) hRf hRl hRc hRs hlk (fun t h1 h2 h3 => r1 t h1 h2 h3) r2 hRc hRs
end CALLS
theorem va_P_kept {D : va_G} {cl : List vw_C} {ws : va_W} {H H1 : Heap} (h : va_P D cl ws H) (hq : ∀ q : Nat, q < H.size → H1[q]? = H[q]?) : va_P D cl ws H1 := fun k q hk => (h k q hk).kept (hq q.1 (h k q hk).lt)
theorem Wx.grow {x : Xt Mem} {G : Gt} (X : Wx x G) : ∀ (τ : Mem) (H H1 : Heap), x.2.2.2.1 τ H → H.size ≤ H1.size → (∀ q : Nat, q < H.size → H1[q]? = H[q]?) → x.2.2.2.1 τ H1 := fun τ H H1 h _ hq => (X.1 τ H1).mpr (va_P_kept ((X.1 τ H).mp h) hq)
/-- a contract out of a walk -/
theorem mm_of {y : MethodName} {ws ws' : List Cond} {cc : ByteArray} {maxL : Nat} {ret : Option FieldType} {rm : Room} {vs : List Value} {G : Gt} {σ : Mem} {o : Option Value ⊕ String} {σ' : Mem} (hy : plainName y.cls = true) (hw : ws = Cond.code y cc maxL ret :: ws') (hlen : (lg_sl vs).length ≤ maxL)
    (body : ∀ x : Xt Mem, Cx x cc maxL y.cls ret [] ws rm G.1 (tysF G) → Wx x G → x.2.2.2.2.2.2 = (o, σ') → J x (lv_args 0 vs) [] σ 0 0 0) : MM y ws rm vs G σ o σ' := by
  intro l hst sz
  refine vx_ofW (cc := cc) (maxL := maxL) (ret := ret) hy hw ?_
  intro p e s m args below meth c s₁ B hml htab hv
  obtain ⟨rfl, hsz, hP, hK, hI, hSt⟩ := hv
  have hts := atoms_spec (ws := ws) B.pre
  have hX : Wx (((fun H locs k n g => W p l e (headSpec ws rm).room s m vs.toArray below meth c H locs k n (vx_MQ below (QcM G o σ' sz) (XcM G o σ' sz) vs.toArray s rm.cells rm.slots (AF G sz)) g), m, maxL, (fun τ H => va_P G.1 vwCl (wsF G τ) H), AF G sz, s.heap, (o, σ')) : Xt Mem) G :=
    ⟨fun _ _ => Iff.rfl, hI, fun i hi => Or.inl ⟨i, hi, rfl⟩, fun q hq => Or.inr (by rw [← hsz]; exact hq)⟩
  have htab' : c.exceptionTable.toList = [] := by
    cases h : c.exceptionTable.toList with
    | nil => rfl
    | cons a t => exact absurd (htab a (by rw [h]; exact List.mem_cons_self)) id
  have K := body _ ⟨p, l, e, s, vs.toArray, below, meth, c, QcM G o σ' sz, XcM G o σ' sz, AF G sz, fun _ _ _ _ _ => Iff.rfl, B.exec, B.bytes, hml, rfl, hts, findClass_of_methodNamed B.named, hK, B.returns, B.notSynchronized, htab', hst, rfl, hSt,
    (fun v τ H locs hg hp hS => ⟨fun t ht _ => ⟨v, (Prod.mk.inj hg).1, rfl, by rw [(Prod.mk.inj hg).2, ht]; exact hp, hS.F ht⟩, hS.2.2⟩),
    (fun E τ H locs hg hp hS => ⟨fun t _ h2 h3 => ⟨(Prod.mk.inj hg).1, by rw [(Prod.mk.inj hg).2]; exact va_P_kept hp h3, Nat.le_trans hS.1 h2, fun q h4 h5 => (h3 q (Nat.lt_of_lt_of_le h4 hS.1)).trans (hS.2.1 q h4 h5)⟩, hS.2.2⟩)⟩ hX rfl
  have hl := lv_entry vs (n := maxL) hlen
  rw [lg_entry_eq]
  exact K s.heap [] _ hl hP va_S.rf
/-- a contract out of a walk -/
theorem mm_ofW {y : MethodName} {ws ws' : List Cond} {cc : ByteArray} {maxL : Nat} {ret : Option FieldType} {hh : List (Nat × Nat × Nat × Nat)} {rm : Room} {vs : List Value} {G : Gt} {σ : Mem} {o : Option Value ⊕ String} {σ' : Mem} (hy : plainName y.cls = true) (hw : ws = Cond.codeWith y cc maxL ret hh :: ws') (hlen : (lg_sl vs).length ≤ maxL)
    (body : ∀ x : Xt Mem, Cx x cc maxL y.cls ret (tableOf hh) ws rm G.1 (tysF G) → Wx x G → x.2.2.2.2.2.2 = (o, σ') → J x (lv_args 0 vs) [] σ 0 0 0) : MM y ws rm vs G σ o σ' := by
  intro l hst sz
  refine vx_ofWH (cc := cc) (maxL := maxL) (ret := ret) hy hw ?_
  intro p e s m args below meth c s₁ B hml hv
  obtain ⟨rfl, hsz, hP, hK, hI, hSt⟩ := hv
  have hts := atoms_spec (ws := ws) B.pre
  have hX : Wx (((fun H locs k n g => W p l e (headSpec ws rm).room s m vs.toArray below meth c H locs k n (vx_MQ below (QcM G o σ' sz) (XcM G o σ' sz) vs.toArray s rm.cells rm.slots (AF G sz)) g), m, maxL, (fun τ H => va_P G.1 vwCl (wsF G τ) H), AF G sz, s.heap, (o, σ')) : Xt Mem) G :=
    ⟨fun _ _ => Iff.rfl, hI, fun i hi => Or.inl ⟨i, hi, rfl⟩, fun q hq => Or.inr (by rw [← hsz]; exact hq)⟩
  have htab' : c.exceptionTable.toList = tableOf hh := vx_table (x := y) B (hts _ (by rw [hw]; exact List.mem_cons_self))
  have K := body _ ⟨p, l, e, s, vs.toArray, below, meth, c, QcM G o σ' sz, XcM G o σ' sz, AF G sz, fun _ _ _ _ _ => Iff.rfl, B.exec, B.bytes, hml, rfl, hts, findClass_of_methodNamed B.named, hK, B.returns, B.notSynchronized, htab', hst, rfl, hSt,
    (fun v τ H locs hg hp hS => ⟨fun t ht _ => ⟨v, (Prod.mk.inj hg).1, rfl, by rw [(Prod.mk.inj hg).2, ht]; exact hp, hS.F ht⟩, hS.2.2⟩),
    (fun E τ H locs hg hp hS => ⟨fun t _ h2 h3 => ⟨(Prod.mk.inj hg).1, by rw [(Prod.mk.inj hg).2]; exact va_P_kept hp h3, Nat.le_trans hS.1 h2, fun q h4 h5 => (h3 q (Nat.lt_of_lt_of_le h4 hS.1)).trans (hS.2.1 q h4 h5)⟩, hS.2.2⟩)⟩ hX rfl
  have hl := lv_entry vs (n := maxL) hlen
  rw [lg_entry_eq]
  exact K s.heap [] _ hl hP va_S.rf
/-- pure words of the walks -/
theorem ob {α β : Type} {o : Option α} {f : α → Option β} {b : β} (h : o.bind f = some b) : ∃ a, o = some a ∧ f a = some b := by
  cases o with
  | none => cases h
  | some a => exact ⟨a, rfl, h⟩
theorem sg {α : Type} {c : Prop} [Decidable c] {A : Option α} {r : α} (h : (if c then A else none) = some r) : c ∧ A = some r := by
  by_cases hc : c
  · rw [if_pos hc] at h
    exact ⟨hc, h⟩
  · rw [if_neg hc] at h
    cases h
def lm {α : Type} (m : Mem) (f : Mem → Option α) : Option α := f m
theorem lm_e {α : Type} {m : Mem} {f : Mem → Option α} {b : α} (h : lm m f = some b) : ∃ s, m = s ∧ f s = some b := ⟨m, rfl, h⟩
/-- outcomes: of a method that returns or throws -/
def oc (o : Int32 ⊕ String) : Option Value ⊕ String := match o with
  | .inl r => .inl (some (.int r))
  | .inr E => .inr E
def ocv (o : Unit ⊕ String) : Option Value ⊕ String := match o with
  | .inl _ => .inl none
  | .inr E => .inr E
abbrev inR (a : Int32) (n : Nat) : Prop := ¬ (a < 0 ∨ n ≤ a.toNatClampNeg)
theorem nar_c {v : Int32} (h : 0 ≤ v ∧ v ≤ 65535) : narrow .char (.int v) = .int v ∧ fits .char (.int v) = true := by
  obtain ⟨j, hj, e⟩ := nI_of2 (M := 65535) (n := 65535) (by decide) (Int32.not_lt.mpr h.1) h.2
  rw [e]
  exact pk_charN (by omega)
theorem nar_z {v : Int32} (h : v = 0 ∨ v = 1) : narrow .boolean (.int v) = .int v ∧ fits .boolean (.int v) = true := by
  rcases h with h | h <;> (subst h; decide)
/-- a quotient of two ints is never NaN -/
theorem dq_q1 (n : Nat) (h : n < 2 ^ 32) : FP.Core.leading n 1 ≤ 32 := by
  unfold FP.Core.leading
  have h1 : n.log2 < 33 := by
    by_cases h0 : n = 0
    · subst h0; decide
    · exact (Nat.log2_lt h0).mpr (by omega)
  have h2 : (1 : Nat).log2 = 0 := by decide
  simp only [h2]
  split <;> omega
/-- an int, rounded: a finite number, zero for zero alone -/
theorem dq_fin (s : Bool) (c : Nat) (hc : c < 2 ^ 32) : ∃ c' q', FP.Core.roundRatio FP.Core.b64 s c 1 0 = .fin s c' q' ∧ (c ≠ 0 → c' ≠ 0) := by
  unfold FP.Core.roundRatio
  by_cases h0 : c = 0
  · rw [if_pos h0]
    exact ⟨_, _, rfl, fun h => absurd h0 h⟩
  · rw [if_neg h0]
    have hq : FP.Core.quantum FP.Core.b64 c 1 0 ≤ -20 := by
      unfold FP.Core.quantum
      have := dq_q1 c hc
      have e1 : FP.Core.b64.qmin = -1074 := by decide
      have e2 : ((FP.Core.b64.p : Nat) : Int) = 53 := by decide
      rw [e1, e2]
      omega
    generalize FP.Core.quantum FP.Core.b64 c 1 0 = q at hq
    have hmax : FP.Core.b64.qmax = 971 := by decide
    have ht : FP.Core.b64.tails ≠ 0 := by decide
    unfold FP.Core.roundAt FP.Core.settle FP.Core.bound
    have hn : FP.Core.nearest (FP.Core.unitsNum c 0 q) (FP.Core.unitsDen 1 0 q) ≠ 0 := by
      have hd : FP.Core.unitsDen 1 0 q = 1 := by
        unfold FP.Core.unitsDen
        rw [show (q - 0).toNat = 0 by omega]
      have hu : FP.Core.unitsNum c 0 q ≠ 0 := by
        unfold FP.Core.unitsNum
        exact Nat.mul_ne_zero h0 (Nat.ne_of_gt (Nat.two_pow_pos _))
      rw [hd]
      unfold FP.Core.nearest
      rw [Nat.mod_one, if_pos (by decide), Nat.div_one]
      exact hu
    split
    · rw [if_pos (by rw [hmax]; omega)]
      exact ⟨_, _, rfl, fun _ => hn⟩
    · rw [if_pos (by rw [hmax]; omega)]
      exact ⟨_, _, rfl, fun _ => ht⟩
theorem dq_val (a : Int32) : ∃ s c q, FP.Core.val64 (FP.i2d a) = .fin s c q ∧ (a ≠ 0 → c ≠ 0) := by
  have hb : a.toInt.natAbs < 2 ^ 32 := by
    have h1 := Int32.toInt_lt a
    have h2 := Int32.le_toInt a
    omega
  obtain ⟨c', q', e1, e2⟩ := dq_fin (decide (a.toInt < 0)) a.toInt.natAbs hb
  refine ⟨decide (a.toInt < 0), c', q', ?_, fun ha => e2 (fun h => ha ?_)⟩
  · rw [show FP.Core.val64 (FP.i2d a) = FP.Core.round FP.Core.b64 (FP.Core.ofInt a.toInt) from FP.Core.val64_i2d a]
    exact e1
  · have : a.toInt = 0 := by omega
    exact Int32.toInt_inj.mp (by rw [this]; rfl)
theorem dq_nn (s : Bool) (c d : Nat) (e : Int) : FP.Core.roundRatio FP.Core.b64 s c d e ≠ .nan := by
  unfold FP.Core.roundRatio
  split
  · intro h; cases h
  · unfold FP.Core.roundAt FP.Core.settle FP.Core.bound
    split <;> split <;> (intro h; cases h)
theorem dq_bits {r : UInt64} (h : FP.Core.val64 r ≠ .nan) : vf_n64 r := by
  unfold vf_n64
  have hm : (r &&& 0x7fffffffffffffff).toNat = r.toNat % 2 ^ 63 := by
    rw [UInt64.toNat_and]
    exact Nat.and_two_pow_sub_one_eq_mod r.toNat 63
  rw [UInt64.le_iff_toNat_le, hm, show (0x7ff0000000000000 : UInt64).toNat = 2047 * 2 ^ 52 from by decide]
  unfold FP.Core.val64 FP.Core.decode FP.Core.fieldE FP.Core.fieldT at h
  have e1 : FP.Core.b64.tails = 2 ^ 52 := by decide
  have e2 : FP.Core.b64.exps = 2048 := by decide
  rw [e1, e2] at h
  have hr : r.toNat < 2 ^ 64 := r.toNat_lt
  generalize r.toNat = n at h hr
  by_cases c1 : n / 2 ^ 52 % 2048 = 2047
  · rw [if_pos (show n / 2 ^ 52 % 2048 = 2048 - 1 from c1)] at h
    by_cases c2 : n % 2 ^ 52 = 0
    · omega
    · rw [if_neg c2] at h
      exact absurd rfl h
  · omega
theorem dq_ok {a b : Int32} (h : ¬ b = 0) : vf_n64 (dq a b) := by
  apply dq_bits
  obtain ⟨s, c, q, e1, -⟩ := dq_val a
  obtain ⟨t, d, r, e2, e3⟩ := dq_val b
  unfold dq
  rw [show FP.Core.val64 (FP.ddiv (FP.i2d a) (FP.i2d b)) = FP.Core.quotient FP.Core.b64 (FP.Core.val64 (FP.i2d a)) (FP.Core.val64 (FP.i2d b)) from FP.Core.val64_ddiv _ _, e1, e2]
  unfold FP.Core.quotient
  simp only []
  rw [if_neg (e3 h)]
  exact dq_nn _ _ _ _
theorem vp01 : vp_in 0 1 := by show ¬ ((0 : Int32) < 0 ∨ 1 ≤ (0 : Int32).toNatClampNeg); decide
theorem dq01 : dq 0 1 = 0 := by decide +kernel
def od (o : (Int32 × Int32) ⊕ String) : Option Value ⊕ String := match o with
  | .inl r => .inl (some (.double (dq r.1 r.2)))
  | .inr E => .inr E
def rq (G : Gt) (r : Option Nat) : Value := match r with
  | none => .null
  | some j => .ref (G.2.2 j)
section ENDS
variable {x : Xt Mem} {m σ' : Mem}
theorem e_i {v r : Int32} (h : some (v, m) = some (r, σ')) (hg : x.2.2.2.2.2.2 = (.inl (some (.int r)), σ')) : x.2.2.2.2.2.2 = (.inl (some (.int v)), m) := by cases h; exact hg
theorem e_v {r : Unit} (h : some ((), m) = some (r, σ')) (hg : x.2.2.2.2.2.2 = (.inl none, σ')) : x.2.2.2.2.2.2 = (.inl none, m) := by cases h; exact hg
theorem e_r {G : Gt} {v r : Nat} (h : some (v, m) = some (r, σ')) (hg : x.2.2.2.2.2.2 = (.inl (some (.ref (G.2.2 r))), σ')) : x.2.2.2.2.2.2 = (.inl (some (.ref (G.2.2 v))), m) := by cases h; exact hg
theorem e_qn {G : Gt} {r : Option Nat} (h : some (none, m) = some (r, σ')) (hg : x.2.2.2.2.2.2 = (.inl (some (rq G r)), σ')) : x.2.2.2.2.2.2 = (.inl (some .null), m) := by cases h; exact hg
theorem e_q {G : Gt} {v : Nat} {r : Option Nat} (h : some (some v, m) = some (r, σ')) (hg : x.2.2.2.2.2.2 = (.inl (some (rq G r)), σ')) : x.2.2.2.2.2.2 = (.inl (some (.ref (G.2.2 v))), m) := by cases h; exact hg
theorem e_oi {v : Int32} {r : Int32 ⊕ String} (h : some (.inl v, m) = some (r, σ')) (hg : x.2.2.2.2.2.2 = (oc r, σ')) : x.2.2.2.2.2.2 = (.inl (some (.int v)), m) := by cases h; exact hg
theorem e_ov {u : Unit} {r : Unit ⊕ String} (h : some (.inl u, m) = some (r, σ')) (hg : x.2.2.2.2.2.2 = (ocv r, σ')) : x.2.2.2.2.2.2 = (.inl none, m) := by cases h; exact hg
theorem e_d {a b : Int32} {r : Int32 × Int32} (h : some ((a, b), m) = some (r, σ')) (hg : x.2.2.2.2.2.2 = (.inl (some (.double (dq r.1 r.2))), σ')) : x.2.2.2.2.2.2 = (.inl (some (.double (dq a b))), m) := by cases h; exact hg
theorem e_od {a b : Int32} {r : (Int32 × Int32) ⊕ String} (h : some (.inl (a, b), m) = some (r, σ')) (hg : x.2.2.2.2.2.2 = (od r, σ')) : x.2.2.2.2.2.2 = (.inl (some (.double (dq a b))), m) := by cases h; exact hg
theorem e_xd {E : String} {r : (Int32 × Int32) ⊕ String} (h : some (.inr E, m) = some (r, σ')) (hg : x.2.2.2.2.2.2 = (od r, σ')) : x.2.2.2.2.2.2 = (.inr E, m) := by cases h; exact hg
theorem e_x {E : String} {r : Int32 ⊕ String} (h : some (.inr E, m) = some (r, σ')) (hg : x.2.2.2.2.2.2 = (oc r, σ')) : x.2.2.2.2.2.2 = (.inr E, m) := by cases h; exact hg
theorem e_xv {E : String} {r : Unit ⊕ String} (h : some (.inr E, m) = some (r, σ')) (hg : x.2.2.2.2.2.2 = (ocv r, σ')) : x.2.2.2.2.2.2 = (.inr E, m) := by cases h; exact hg
end ENDS
theorem j_dconst0q {S : Type} {x : Xt S} {cc : ByteArray} {mL : Nat} {own : String} {ret : Option FieldType} {tab : List ExceptionTableEntry} {Ts : List Cond} {R : Room} {D : va_G} {tys : List (ClassId × FieldType)} {lo : List (Nat × Value)} {st : List Value} {σ : S} {pc kc ns : Nat} (C : Cx x cc mL own ret tab Ts R D tys) (d : decode cc pc = .ok (.dconst 0, 1)) (k0 : J x lo (.double (dq 0 1) :: st) σ (pc + 1) kc ns) : J x lo st σ pc kc ns := by
  rw [dq01] at k0
  exact j_dconst0 C d k0
end
section
/-! PURE. the memory's reads behind writes; ids; the two systems' simple methods, evaluated -/
theorem get_wi (σ : Mem) (i k : Nat) (v : Int32) (a b : Nat) : (wi σ i k v).1 a b = if a = i ∧ b = k then v else σ.1 a b := by
  unfold wi upd
  by_cases h : a = i
  · by_cases h2 : b = k <;> simp [h, h2]
  · simp [h]
theorem get_wi2 (σ : Mem) (i k : Nat) (v : Int32) : (wi σ i k v).2 = σ.2 := rfl
theorem get_wr (σ : Mem) (i k v : Nat) (a b : Nat) : (wr σ i k v).2 a b = if a = i ∧ b = k then v else σ.2 a b := by
  unfold wr va_up
  by_cases h : a = i
  · by_cases h2 : b = k <;> simp [h, h2]
  · simp [h]
theorem get_wr1 (σ : Mem) (i k v : Nat) : (wr σ i k v).1 = σ.1 := rfl
theorem wi_eq {σ : Mem} {i k : Nat} {v : Int32} {a b : Nat} (h1 : a = i) (h2 : b = k) : (wi σ i k v).1 a b = v := by rw [get_wi, if_pos ⟨h1, h2⟩]
theorem wi_o {σ : Mem} {i k : Nat} {v : Int32} {a b : Nat} (h : a ≠ i ∨ b ≠ k) : (wi σ i k v).1 a b = σ.1 a b := by
  rw [get_wi, if_neg]
  intro h2
  rcases h with h | h
  · exact h h2.1
  · exact h h2.2
theorem ok_lv {m k : Nat} (hm : m < 2) (hk : k < 7) : Ok (10 * m + k) 0 :=
  (by decide +kernel : ∀ m, m < 2 → ∀ k, k < 7 → Ok (10 * m + k) 0) m hm k hk
theorem ok_rq {m p : Nat} (hm : m < 2) (h1 : 20 + 8 * m ≤ p) (h2 : p < 28 + 8 * m) : Ok p 2 := by
  have h := (by decide +kernel : ∀ m, m < 2 → ∀ q, q < 8 → Ok (20 + 8 * m + q) 2) m hm (p - (20 + 8 * m)) (by omega)
  rwa [show 20 + 8 * m + (p - (20 + 8 * m)) = p by omega] at h
theorem rf_0 {m : Nat} (hm : m < 2) : rf (10 * m + 7) 0 = 10 * m := (by decide +kernel : ∀ m, m < 2 → rf (10 * m + 7) 0 = 10 * m) m hm
theorem rf_1 {m : Nat} (hm : m < 2) : rf (10 * m + 7) 1 = 36 + m := (by decide +kernel : ∀ m, m < 2 → rf (10 * m + 7) 1 = 36 + m) m hm
theorem rf_2 {m : Nat} (hm : m < 2) : rf (10 * m + 7) 2 = 10 * m + 9 := (by decide +kernel : ∀ m, m < 2 → rf (10 * m + 7) 2 = 10 * m + 9) m hm
theorem rf_3 {m : Nat} (hm : m < 2) : rf (10 * m + 7) 3 = 10 * m + 8 := (by decide +kernel : ∀ m, m < 2 → rf (10 * m + 7) 3 = 10 * m + 8) m hm
theorem rf_w {m : Nat} (hm : m < 2) : rf (10 * m + 9) 0 = 38 + m := (by decide +kernel : ∀ m, m < 2 → rf (10 * m + 9) 0 = 38 + m) m hm
/-- small ints -/
theorem n7 : (7 : Int32) = nI 7 := rfl
theorem n8 : (8 : Int32) = nI 8 := rfl
theorem n0 : (0 : Int32) = nI 0 := rfl
theorem n1 : (1 : Int32) = nI 1 := rfl
theorem nI_cl {j : Nat} (h : j < 100000) : (nI j).toNatClampNeg = j := nI_clamp (by omega)
theorem lt_nI {a b : Nat} (ha : a < 100000) (hb : b < 100000) : nI a < nI b ↔ a < b := nI_ltI (by omega) (by omega)
theorem le_nI {a b : Nat} (ha : a < 100000) (hb : b < 100000) : nI a ≤ nI b ↔ a ≤ b := nI_leI (by omega) (by omega)
theorem eq_nI {a b : Nat} (ha : a < 100000) (hb : b < 100000) : nI a = nI b ↔ a = b := nI_eq (by omega) (by omega)
theorem inR_nI {j n : Nat} (h : j < n) (hn : n < 100000) : inR (nI j) n := nI_in h (by omega)
theorem add_nI (a b : Nat) : nI a + nI b = nI (a + b) := nI_add a b
theorem add1_nI (a : Nat) : nI a + 1 = nI (a + 1) := nI_1 a
/-- the shape of a mine's references -/
def ShM (σ : Mem) (m : Nat) : Prop := m < 2 ∧ (∀ j, j < 7 → σ.2 (36 + m) j = 10 * m + j) ∧ (∀ p, p < 8 → 20 + 8 * m ≤ σ.2 (38 + m) p ∧ σ.2 (38 + m) p < 28 + 8 * m) ∧ ∀ p q, p < 8 → q < 8 → σ.2 (38 + m) p = σ.2 (38 + m) q → p = q
theorem ShM.to {σ σ' : Mem} {m : Nat} (h : ShM σ m) (e : σ'.2 = σ.2) : ShM σ' m := by
  unfold ShM at h ⊢
  rw [e]
  exact h
theorem ev_place (n : Nat) {σ : Mem} {m k : Nat} (h : ShM σ m) (hk : k < 7) : sp_X1_place n σ (10 * m + 7) (nI k) = some (10 * m + k, σ) := by
  obtain ⟨hm, hp, -⟩ := h
  have e : σ.2 (rf (10 * m + 7) 1) (nI k).toNatClampNeg = 10 * m + k := by rw [rf_1 hm, nI_cl (by omega), hp k hk]
  unfold sp_X1_place
  rw [if_neg (nI_pos (by omega)), if_neg (show ¬ (7 : Int32) ≤ nI k by rw [n7, le_nI (by omega) (by omega)]; omega), if_pos ⟨inR_nI hk (by omega), by rw [e]; exact ok_lv hm hk⟩, e]
/-- a level outside 0..6 is the surface -/
theorem ev_place_neg (n : Nat) {σ : Mem} {m : Nat} (hm : m < 2) {a : Int32} (h : a < 0 ∨ 7 ≤ a) : sp_X1_place n σ (10 * m + 7) a = some (10 * m, σ) := by
  unfold sp_X1_place
  rw [rf_0 hm]
  by_cases h0 : a < 0
  · rw [if_pos h0]
  · rw [if_neg h0, if_pos (h.resolve_left h0)]
/-- sums of ints, from the left -/
def acc (x : Int32) (f : Nat → Int32) : Nat → Int32
  | 0 => x
  | j + 1 => acc x f j + f (j + 1)
def sN (f : Nat → Nat) : Nat → Nat
  | 0 => 0
  | j + 1 => sN f j + f (j + 1)
theorem acc_cong {x : Int32} {f g : Nat → Int32} : ∀ {j : Nat}, (∀ i, 1 ≤ i → i ≤ j → f i = g i) → acc x f j = acc x g j
  | 0, _ => rfl
  | j + 1, h => by rw [acc, acc, acc_cong (fun i h1 h2 => h i h1 (by omega)), h (j + 1) (by omega) (by omega)]
theorem sN_cong {f g : Nat → Nat} : ∀ {j : Nat}, (∀ i, 1 ≤ i → i ≤ j → f i = g i) → sN f j = sN g j
  | 0, _ => rfl
  | j + 1, h => by rw [sN, sN, sN_cong (fun i h1 h2 => h i h1 (by omega)), h (j + 1) (by omega) (by omega)]
theorem sN_le {f : Nat → Nat} {c : Nat} : ∀ {j : Nat}, (∀ i, 1 ≤ i → i ≤ j → f i ≤ c) → sN f j ≤ j * c
  | 0, _ => Nat.le_of_eq (by rw [sN, Nat.zero_mul])
  | j + 1, h => by
    have h1 := sN_le (f := f) (c := c) (j := j) (fun i h1 h2 => h i h1 (by omega))
    have h2 := h (j + 1) (by omega) (by omega)
    rw [sN, Nat.succ_mul]
    omega
theorem sN_mono {f : Nat → Nat} {i : Nat} : ∀ {j : Nat}, i ≤ j → sN f i ≤ sN f j
  | 0, h => by rw [show i = 0 by omega]; exact Nat.le_refl _
  | j + 1, h => by
    rcases Nat.lt_or_ge i (j + 1) with q | q
    · have := sN_mono (f := f) (i := i) (j := j) (by omega)
      rw [sN]
      omega
    · rw [show i = j + 1 by omega]
      exact Nat.le_refl _
theorem acc_nI {f : Nat → Int32} {g : Nat → Nat} (x : Nat) : ∀ {j : Nat}, (∀ i, 1 ≤ i → i ≤ j → f i = nI (g i)) → acc (nI x) f j = nI (x + sN g j)
  | 0, _ => rfl
  | j + 1, h => by rw [acc, acc_nI x (fun i h1 h2 => h i h1 (by omega)), h (j + 1) (by omega) (by omega), add_nI, sN, Nat.add_assoc]
/-- the open width of a level, of either system -/
def owC (σ : Mem) (m k : Nat) : Int32 := if σ.1 (10 * m + k) 4 = 0 then 0 else σ.1 (10 * m + k) 2
theorem ev_openWidth (n : Nat) (σ : Mem) (m k : Nat) : sp_X0_openWidth n σ (10 * m + k) = some (owC σ m k, σ) := by
  unfold sp_X0_openWidth owC
  split <;> rfl
theorem lp_openWidths (n : Nat) {σ : Mem} {m L : Nat} (h : ShM σ m) (hL : σ.1 (10 * m + 7) 4 = nI L) (hL6 : L ≤ 6) : ∀ (d k j : Nat), j + d = L → d < k → lp_X1_openWidths_4 n (10 * m + 7) k σ (acc 0 (owC σ m) j) (nI (j + 1)) = some (acc 0 (owC σ m) L, σ) := by
  intro d
  induction d with
  | zero =>
    intro k j hj hk
    obtain ⟨k, rfl⟩ : ∃ z, k = z + 1 := ⟨k - 1, by omega⟩
    rw [lp_X1_openWidths_4_s, hL, if_pos ((lt_nI (by omega) (by omega)).mpr (by omega)), show j = L by omega]
  | succ d ih =>
    intro k j hj hk
    obtain ⟨k, rfl⟩ : ∃ z, k = z + 1 := ⟨k - 1, by omega⟩
    rw [lp_X1_openWidths_4_s, hL, if_neg (by rw [lt_nI (by omega) (by omega)]; omega), ev_place n h (by omega)]
    simp only [Option.bind_some]
    rw [if_pos (ok_lv h.1 (by omega)), ev_openWidth]
    simp only [Option.bind_some, add1_nI]
    exact ih k (j + 1) (by omega) (by omega)
theorem ev_openWidths {n : Nat} (hn : 10 < n) {σ : Mem} {m L : Nat} (h : ShM σ m) (hL : σ.1 (10 * m + 7) 4 = nI L) (hL6 : L ≤ 6) : sp_X1_openWidths n σ (10 * m + 7) = some (acc 0 (owC σ m) L, σ) := by
  unfold sp_X1_openWidths
  exact lp_openWidths n h hL hL6 L n 0 (by omega) (by omega)

/-! AIR, as numbers: gN what goes into a gallery, sF the widths from level j on, arN what arrives, airN a level's air -/
def gN (u w s : Nat) : Nat := if s = 0 then 0 else u * w / s
theorem gN_le {u w s : Nat} (h : w ≤ s) : gN u w s ≤ u := by
  unfold gN
  split
  · omega
  · exact Nat.div_le_of_le_mul (by rw [Nat.mul_comm s u]; exact Nat.mul_le_mul_left u h)
theorem gN_mono {u v w s : Nat} (h : u ≤ v) : gN u w s ≤ gN v w s := by
  unfold gN
  split
  · omega
  · exact Nat.div_le_div_right (Nat.mul_le_mul_right w h)
theorem gN_step {u w s : Nat} (h : w ≤ s) : gN (u + 1) w s ≤ gN u w s + 1 := by
  unfold gN
  split
  · omega
  · rename_i hs
    have h1 : (u + 1) * w ≤ u * w + s := by rw [Nat.succ_mul]; omega
    calc (u + 1) * w / s ≤ (u * w + s) / s := Nat.div_le_div_right h1
      _ = u * w / s + 1 := Nat.add_div_right _ (by omega)
/-- widths of the levels j+1 .. L -/
def sF (W : Nat → Nat) (L j : Nat) : Nat := sN W L - sN W j
theorem sF_w {W : Nat → Nat} {L j : Nat} (h : j < L) : W (j + 1) ≤ sF W L j := by
  have := sN_mono (f := W) (i := j + 1) (j := L) (by omega)
  unfold sF
  rw [sN] at this
  omega
theorem sF_next {W : Nat → Nat} {L j : Nat} (h : j < L) : sF W L (j + 1) = sF W L j - W (j + 1) := by
  unfold sF
  rw [sN]
  omega
/-- what arrives at level j+1 -/
def arN (W : Nat → Nat) (L u : Nat) : Nat → Nat
  | 0 => u
  | j + 1 => arN W L u j - gN (arN W L u j) (W (j + 1)) (sF W L j)
def airN (W : Nat → Nat) (L u k : Nat) : Nat := gN (arN W L u (k - 1)) (W k) (sF W L (k - 1))
theorem arN_le (W : Nat → Nat) (L u : Nat) : ∀ j, arN W L u j ≤ u
  | 0 => Nat.le_refl _
  | j + 1 => by
    have := arN_le W L u j
    rw [arN]
    omega
theorem rfm_1 : rf 41 1 = 42 := rfl
theorem rfm_2 : rf 41 2 = 43 := rfl
theorem rfm_3 : rf 41 3 = 44 := rfl
theorem rfm_4 : rf 41 4 = 45 := rfl
theorem rfm_5 : rf 41 5 = 46 := rfl
theorem rfm_11 : rf 41 11 = 47 := rfl
theorem rfm_12 : rf 41 12 = 48 := rfl
end
section
/-! PURE. the air of the class: spread from branch to branch, and unit by unit -/
def NW (σ : Mem) (m L : Nat) (W : Nat → Nat) : Prop := ∀ k, 1 ≤ k → k ≤ L → owC σ m k = nI (W k) ∧ W k ≤ 20
theorem NW_sN {σ : Mem} {m L : Nat} {W : Nat → Nat} (h : NW σ m L W) {j : Nat} (hj : j ≤ L) : sN W j ≤ j * 20 := sN_le (fun i h1 h2 => (h i h1 (by omega)).2)
theorem NW_sF {σ : Mem} {m L : Nat} {W : Nat → Nat} (h : NW σ m L W) (hL : L ≤ 6) (j : Nat) : sF W L j ≤ 120 := by
  have := NW_sN h (j := L) (Nat.le_refl _)
  unfold sF
  omega
theorem ev_into (n : Nat) (σ : Mem) {u w s : Nat} (hu : u ≤ 1000) (hw : w ≤ 20) (hs : s ≤ 120) : sp_X1_intoGallery n σ (nI u) (nI w) (nI s) = some (nI (gN u w s), σ) := by
  have huw : u * w ≤ 1000 * 20 := Nat.mul_le_mul hu hw
  unfold sp_X1_intoGallery gN
  rw [n0]
  by_cases h : s = 0
  · rw [if_pos ((le_nI (by omega) (by omega)).mpr (by omega)), if_pos h]
  · rw [if_neg (by rw [le_nI (by omega) (by omega)]; omega), if_pos (by rw [eq_nI (by omega) (by omega)]; exact h), if_neg h, pk_mul, pk_div (by omega) (by omega) (by omega)]
/-- the memory behind the levels 1 .. j of spreadAir -/
def spA (σ : Mem) (m L : Nat) (W : Nat → Nat) (u : Nat) : Nat → Mem
  | 0 => σ
  | j + 1 => wi (spA σ m L W u j) (10 * m + (j + 1)) 5 (nI (airN W L u (j + 1)))
theorem spA_2 (σ : Mem) (m L : Nat) (W : Nat → Nat) (u : Nat) : ∀ j, (spA σ m L W u j).2 = σ.2
  | 0 => rfl
  | j + 1 => spA_2 σ m L W u j
theorem spA_o {σ : Mem} {m L : Nat} {W : Nat → Nat} {u : Nat} {a b : Nat} : ∀ {j : Nat}, (b = 5 → a ≤ 10 * m ∨ 10 * m + j < a) → (spA σ m L W u j).1 a b = σ.1 a b
  | 0, _ => rfl
  | j + 1, h => by
    rw [spA, wi_o (by
      by_cases hb : b = 5
      · rcases h hb with h | h
        · exact Or.inl (by omega)
        · exact Or.inl (by omega)
      · exact Or.inr hb)]
    exact spA_o (fun hb => by rcases h hb with h | h <;> omega)
theorem spA_at {σ : Mem} {m L : Nat} {W : Nat → Nat} {u : Nat} {i : Nat} (hi : 1 ≤ i) : ∀ {j : Nat}, i ≤ j → (spA σ m L W u j).1 (10 * m + i) 5 = nI (airN W L u i)
  | 0, h => by omega
  | j + 1, h => by
    rw [spA]
    by_cases e : i = j + 1
    · rw [wi_eq (by omega) rfl, e]
    · rw [wi_o (Or.inl (by omega))]
      exact spA_at hi (by omega)
theorem owC_cong {σ σ' : Mem} {m k : Nat} (h4 : σ'.1 (10 * m + k) 4 = σ.1 (10 * m + k) 4) (h2 : σ'.1 (10 * m + k) 2 = σ.1 (10 * m + k) 2) : owC σ' m k = owC σ m k := by
  unfold owC
  rw [h4, h2]
theorem lp_spreadAir (n : Nat) {σ : Mem} {m L : Nat} {W : Nat → Nat} {u : Nat} (h : ShM σ m) (hL : σ.1 (10 * m + 7) 4 = nI L) (hL6 : L ≤ 6) (hW : NW σ m L W) (hu : u ≤ 1000) : ∀ (d k j : Nat), j + d = L → d < k → lp_X1_spreadAir_12 n (10 * m + 7) k (spA σ m L W u j) (nI (arN W L u j)) (nI (sF W L j)) (nI (j + 1)) = some ((), spA σ m L W u L) := by
  intro d
  induction d with
  | zero =>
    intro k j hj hk
    obtain ⟨k, rfl⟩ : ∃ z, k = z + 1 := ⟨k - 1, by omega⟩
    rw [lp_X1_spreadAir_12_s, spA_o (fun h => by omega), hL, if_pos ((lt_nI (by omega) (by omega)).mpr (by omega)), show j = L by omega]
  | succ d ih =>
    intro k j hj hk
    obtain ⟨k, rfl⟩ : ∃ z, k = z + 1 := ⟨k - 1, by omega⟩
    have har := arN_le W L u j
    have hs := NW_sF hW hL6 j
    have hw := hW (j + 1) (by omega) (by omega)
    have hg : gN (arN W L u j) (W (j + 1)) (sF W L j) ≤ arN W L u j := gN_le (sF_w (by omega))
    have ho : ∀ j' : Nat, owC (spA σ m L W u j') m (j + 1) = nI (W (j + 1)) := fun j' => by rw [owC_cong (spA_o (fun h => by omega)) (spA_o (fun h => by omega)), hw.1]
    rw [lp_X1_spreadAir_12_s, spA_o (fun h => by omega), hL, if_neg (by rw [lt_nI (by omega) (by omega)]; omega), ev_place n (h.to (spA_2 σ m L W u j)) (by omega)]
    simp only [Option.bind_some]
    rw [if_pos (ok_lv h.1 (by omega)), ev_openWidth]
    simp only [Option.bind_some, ho]
    rw [ev_into n _ (by omega) hw.2 hs]
    simp only [Option.bind_some, lm]
    have e1 : wi (spA σ m L W u j) (10 * m + (j + 1)) 5 (nI (gN (arN W L u j) (W (j + 1)) (sF W L j))) = spA σ m L W u (j + 1) := rfl
    rw [e1, ev_openWidth]
    simp only [Option.bind_some, ho, add1_nI]
    rw [spA_at (by omega) (Nat.le_refl _), pk_sub (sF_w (by omega)), ← sF_next (by omega)]
    have e2 : nI (arN W L u j) - nI (airN W L u (j + 1)) = nI (arN W L u (j + 1)) := by
      have : airN W L u (j + 1) = gN (arN W L u j) (W (j + 1)) (sF W L j) := rfl
      rw [this, pk_sub hg]
      rfl
    rw [e2]
    exact ih k (j + 1) (by omega) (by omega)
theorem ev_spreadAir {n : Nat} (hn : 10 < n) {σ : Mem} {m L : Nat} {W : Nat → Nat} {u : Nat} (h : ShM σ m) (hL : σ.1 (10 * m + 7) 4 = nI L) (hL6 : L ≤ 6) (hW : NW σ m L W) (hu : u ≤ 1000) (hf : σ.1 (10 * m + 7) 5 = nI u) : sp_X1_spreadAir n σ (10 * m + 7) = some ((), spA σ m L W u L) := by
  unfold sp_X1_spreadAir
  rw [ev_openWidths hn h hL hL6]
  simp only [Option.bind_some]
  rw [hf, n0, acc_nI (g := W) 0 (fun i h1 h2 => (hW i h1 h2).1), Nat.zero_add, show sN W L = sF W L 0 from rfl, n1]
  exact lp_spreadAir n h hL hL6 hW hu L n 0 (by omega) (by omega)
/-! unit by unit -/
theorem arN_0 (W : Nat → Nat) (L : Nat) : ∀ j, arN W L 0 j = 0 := fun j => by have := arN_le W L 0 j; omega
theorem airN_0 (W : Nat → Nat) (L i : Nat) : airN W L 0 i = 0 := by
  unfold airN gN
  rw [arN_0]
  split <;> simp
theorem arN_same {W : Nat → Nat} {L u v j : Nat} (h : arN W L u j = arN W L v j) : ∀ {i : Nat}, j ≤ i → arN W L u i = arN W L v i
  | 0, hi => by rw [show j = 0 by omega] at h; exact h
  | i + 1, hi => by
    by_cases e : j = i + 1
    · rw [← e]
      exact h
    · rw [arN, arN, arN_same h (i := i) (by omega)]
theorem lp_galleryOf (n : Nat) {σ : Mem} {m L : Nat} {W : Nat → Nat} {u : Nat} {a1 a2 l1 l2 : Int32} (h : ShM σ m) (hL : σ.1 (10 * m + 7) 4 = nI L) (hL6 : L ≤ 6) (hW : NW σ m L W) (hu : u < 1000) : ∀ (d k j : Nat), j + d = L → d < k → arN W L (u + 1) j = arN W L u j + 1 → (∀ i, 1 ≤ i → i ≤ j → airN W L (u + 1) i = airN W L u i) →
    ∃ g, lp_X1_galleryOf_8 n (10 * m + 7) a1 a2 k σ l1 l2 (nI (arN W L (u + 1) j)) (nI (sF W L j)) (nI (j + 1)) = some (nI g, σ) ∧ g ≤ L ∧ ∀ i, 1 ≤ i → i ≤ L → airN W L (u + 1) i = airN W L u i + (if i = g then 1 else 0) := by
  intro d
  induction d with
  | zero =>
    intro k j hj hk ha hi
    obtain ⟨k, rfl⟩ : ∃ z, k = z + 1 := ⟨k - 1, by omega⟩
    refine ⟨0, ?_, by omega, fun i h1 h2 => by rw [hi i h1 (by omega), if_neg (by omega)]; rfl⟩
    rw [lp_X1_galleryOf_8_s, hL, if_pos ((lt_nI (by omega) (by omega)).mpr (by omega))]
    rfl
  | succ d ih =>
    intro k j hj hk ha hi
    obtain ⟨k, rfl⟩ : ∃ z, k = z + 1 := ⟨k - 1, by omega⟩
    have har := arN_le W L (u + 1) j
    have hs := NW_sF hW hL6 j
    have hw := hW (j + 1) (by omega) (by omega)
    have hws := sF_w (W := W) (L := L) (j := j) (by omega)
    have hg0 : gN (arN W L u j) (W (j + 1)) (sF W L j) ≤ arN W L u j := gN_le hws
    have hg1 := gN_mono (u := arN W L u j) (v := arN W L u j + 1) (w := W (j + 1)) (s := sF W L j) (by omega)
    have hg2 := gN_step (u := arN W L u j) hws
    rw [lp_X1_galleryOf_8_s, hL, if_neg (by rw [lt_nI (by omega) (by omega)]; omega), ev_place n h (by omega)]
    simp only [Option.bind_some]
    rw [if_pos (ok_lv h.1 (by omega)), ev_openWidth]
    simp only [Option.bind_some, hw.1]
    rw [ha, ev_into n _ (by omega) hw.2 hs]
    simp only [Option.bind_some, nI_pred]
    rw [ev_into n _ (by omega) hw.2 hs]
    simp only [Option.bind_some]
    have eu : airN W L u (j + 1) = gN (arN W L u j) (W (j + 1)) (sF W L j) := rfl
    have ev : airN W L (u + 1) (j + 1) = gN (arN W L u j + 1) (W (j + 1)) (sF W L j) := by rw [← ha]; rfl
    by_cases hq : gN (arN W L u j + 1) (W (j + 1)) (sF W L j) = gN (arN W L u j) (W (j + 1)) (sF W L j)
    · rw [if_pos (by rw [hq])]
      have e1 : nI (arN W L u j + 1) - nI (gN (arN W L u j + 1) (W (j + 1)) (sF W L j)) = nI (arN W L (u + 1) (j + 1)) := by
        rw [pk_sub (by omega), ← ha]
        rfl
      rw [e1, pk_sub hws, ← sF_next (by omega), add1_nI]
      refine ih k (j + 1) (by omega) (by omega) ?_ ?_
      · rw [arN, arN, ha, hq]
        omega
      · intro i h1 h2
        by_cases e : i = j + 1
        · rw [e, eu, ev, hq]
        · exact hi i h1 (by omega)
    · rw [if_neg (by rw [eq_nI (by omega) (by omega)]; exact hq)]
      refine ⟨j + 1, rfl, by omega, fun i h1 h2 => ?_⟩
      have hn : arN W L (u + 1) (j + 1) = arN W L u (j + 1) := by
        rw [arN, arN, ha]
        omega
      by_cases e : i = j + 1
      · rw [if_pos e, e, eu, ev]
        omega
      · rw [if_neg e]
        by_cases e2 : i ≤ j
        · exact hi i h1 e2
        · have := arN_same hn (i := i - 1) (by omega)
          unfold airN
          rw [this]
          rfl
end
section
/-! PURE. followAir's memory, and the model's air -/
theorem ev_galleryOf {n : Nat} (hn : 10 < n) {σ : Mem} {m L : Nat} {W : Nat → Nat} {u : Nat} (h : ShM σ m) (hL : σ.1 (10 * m + 7) 4 = nI L) (hL6 : L ≤ 6) (hW : NW σ m L W) (hu : u < 1000) :
    ∃ g, sp_X1_galleryOf n σ (10 * m + 7) (nI (u + 1)) (nI (sF W L 0)) = some (nI g, σ) ∧ g ≤ L ∧ ∀ i, 1 ≤ i → i ≤ L → airN W L (u + 1) i = airN W L u i + (if i = g then 1 else 0) := by
  unfold sp_X1_galleryOf
  exact lp_galleryOf n (a1 := nI (u + 1)) (a2 := nI (sF W L 0)) (l1 := nI (u + 1)) (l2 := nI (sF W L 0)) h hL hL6 hW hu L n 0 (by omega) (by omega) rfl (fun i h1 h2 => by omega)
/-- all but the levels' unitsFollowed is as in σ0, and these tell the air of u units -/
def FA (σ0 σ : Mem) (m L : Nat) (W : Nat → Nat) (u : Nat) : Prop := σ.2 = σ0.2 ∧ (∀ a b, (b ≠ 6 ∨ a < 10 * m ∨ 10 * m + 6 < a) → σ.1 a b = σ0.1 a b) ∧ ∀ i, 1 ≤ i → i ≤ L → σ.1 (10 * m + i) 6 = nI (airN W L u i)
theorem lp_followAir (n : Nat) (hn : 10 < n) {σ0 : Mem} {m L : Nat} {W : Nat → Nat} {f : Nat} (h : ShM σ0 m) (hL : σ0.1 (10 * m + 7) 4 = nI L) (hL6 : L ≤ 6) (hW : NW σ0 m L W) (hf : f ≤ 1000) (hfan : σ0.1 (10 * m + 7) 5 = nI f) : ∀ (d k u : Nat) (σ : Mem), u + d = f → d < k → FA σ0 σ m L W u →
    ∃ σ', lp_X1_followAir_32 n (10 * m + 7) k σ (nI (sF W L 0)) (nI (u + 1)) = some ((), σ') ∧ FA σ0 σ' m L W f := by
  intro d
  induction d with
  | zero =>
    intro k u σ hj hk hF
    obtain ⟨k, rfl⟩ : ∃ z, k = z + 1 := ⟨k - 1, by omega⟩
    refine ⟨σ, ?_, by rw [← show u = f by omega]; exact hF⟩
    rw [lp_X1_followAir_32_s, hF.2.1 _ _ (by omega), hfan, if_pos ((lt_nI (by omega) (by omega)).mpr (by omega))]
  | succ d ih =>
    intro k u σ hj hk hF
    obtain ⟨k, rfl⟩ : ∃ z, k = z + 1 := ⟨k - 1, by omega⟩
    have h' := h.to hF.1
    have hW' : NW σ m L W := fun i h1 h2 => by rw [owC_cong (hF.2.1 _ _ (Or.inl (by omega))) (hF.2.1 _ _ (Or.inl (by omega)))]; exact hW i h1 h2
    obtain ⟨g, e1, hg, hi⟩ := ev_galleryOf hn h' (by rw [hF.2.1 _ _ (by omega)]; exact hL) hL6 hW' (u := u) (by omega)
    rw [lp_X1_followAir_32_s, hF.2.1 _ _ (by omega), hfan, if_neg (by rw [lt_nI (by omega) (by omega)]; omega), e1]
    simp only [Option.bind_some]
    rw [ev_place n h' (by omega)]
    simp only [Option.bind_some]
    rw [if_pos (ok_lv h.1 (by omega))]
    simp only [lm, add1_nI]
    refine ih k (u + 1) _ (by omega) (by omega) ⟨hF.1, fun a b hab => ?_, fun i h1 h2 => ?_⟩
    · rw [wi_o (by omega)]
      exact hF.2.1 a b hab
    · rw [hi i h1 h2, get_wi]
      by_cases e : i = g
      · rw [if_pos ⟨by omega, rfl⟩, if_pos e, ← e, hF.2.2 i h1 h2, add1_nI]
      · rw [if_neg (by omega), if_neg e, hF.2.2 i h1 h2]
        rfl
theorem lp_followAir0 (n : Nat) (hn : 1010 < n) {σ0 : Mem} {m L : Nat} {W : Nat → Nat} {f : Nat} (h : ShM σ0 m) (hL : σ0.1 (10 * m + 7) 4 = nI L) (hL6 : L ≤ 6) (hW : NW σ0 m L W) (hf : f ≤ 1000) (hfan : σ0.1 (10 * m + 7) 5 = nI f) : ∀ (d k j : Nat) (σ : Mem), j + d = L + 1 → d < k → σ.2 = σ0.2 → (∀ a b, (b ≠ 6 ∨ a < 10 * m ∨ 10 * m + 6 < a) → σ.1 a b = σ0.1 a b) → (∀ i, i < j → σ.1 (10 * m + i) 6 = 0) →
    ∃ σ', lp_X1_followAir_2 n (10 * m + 7) k σ (nI j) = some ((), σ') ∧ FA σ0 σ' m L W f := by
  intro d
  induction d with
  | zero =>
    intro k j σ hj hk h2 hs hz
    obtain ⟨k, rfl⟩ : ∃ z, k = z + 1 := ⟨k - 1, by omega⟩
    have hF : FA σ0 σ m L W 0 := ⟨h2, hs, fun i h1 h3 => by rw [hz i (by omega), airN_0]; rfl⟩
    have hW' : NW σ m L W := fun i h1 h3 => by rw [owC_cong (hs _ _ (Or.inl (by omega))) (hs _ _ (Or.inl (by omega)))]; exact hW i h1 h3
    obtain ⟨σ', e1, e2⟩ := lp_followAir n (by omega) h hL hL6 hW hf hfan f n 0 σ (by omega) (by omega) hF
    refine ⟨σ', ?_, e2⟩
    rw [lp_X1_followAir_2_s, hs _ _ (by omega), hL, if_pos ((lt_nI (by omega) (by omega)).mpr (by omega)), ev_openWidths (by omega) (h.to h2) (by rw [hs _ _ (by omega)]; exact hL) hL6]
    simp only [Option.bind_some]
    rw [n0, acc_nI (g := W) 0 (fun i h1 h2 => (hW' i h1 h2).1), Nat.zero_add, show sN W L = sF W L 0 from rfl]
    exact e1
  | succ d ih =>
    intro k j σ hj hk h2 hs hz
    obtain ⟨k, rfl⟩ : ∃ z, k = z + 1 := ⟨k - 1, by omega⟩
    rw [lp_X1_followAir_2_s, hs _ _ (by omega), hL, if_neg (by rw [lt_nI (by omega) (by omega)]; omega), ev_place n (h.to h2) (by omega)]
    simp only [Option.bind_some]
    rw [if_pos (ok_lv h.1 (by omega))]
    simp only [lm, add1_nI]
    refine ih k (j + 1) _ (by omega) (by omega) h2 (fun a b hab => ?_) (fun i hi => ?_)
    · rw [wi_o (by omega)]
      exact hs a b hab
    · rw [get_wi]
      by_cases e : i = j
      · rw [if_pos ⟨by omega, rfl⟩]
      · rw [if_neg (by omega)]
        exact hz i (by omega)
theorem ev_followAir {n : Nat} (hn : 1010 < n) {σ : Mem} {m L : Nat} {W : Nat → Nat} {f : Nat} (h : ShM σ m) (hL : σ.1 (10 * m + 7) 4 = nI L) (hL6 : L ≤ 6) (hW : NW σ m L W) (hf : f ≤ 1000) (hfan : σ.1 (10 * m + 7) 5 = nI f) :
    ∃ σ', sp_X1_followAir n σ (10 * m + 7) = some ((), σ') ∧ FA σ σ' m L W f := by
  unfold sp_X1_followAir
  rw [n0]
  exact lp_followAir0 n hn h hL hL6 hW hf hfan (L + 1) n 0 σ (by omega) (by omega) rfl (fun _ _ _ => rfl) (fun i hi => by omega)
/-! the model -/
def NM (σ : Mem) (L : Nat) (W : Nat → Nat) : Prop := ∀ k, 1 ≤ k → k ≤ L → (σ.1 46 k = 0 ∧ W k = 0) ∨ (¬ σ.1 46 k = 0 ∧ σ.1 44 k = nI (W k) ∧ 1 ≤ W k ∧ W k ≤ 20)
theorem NM_le {σ : Mem} {L : Nat} {W : Nat → Nat} (h : NM σ L W) {k : Nat} (h1 : 1 ≤ k) (h2 : k ≤ L) : W k ≤ 20 := by
  rcases h k h1 h2 with ⟨-, q⟩ | ⟨-, -, -, q⟩ <;> omega
theorem NM_s {σ : Mem} {L : Nat} {W : Nat → Nat} (h : NM σ L W) (hL : L ≤ 6) (j : Nat) : sF W L j ≤ 120 := by
  have : sN W L ≤ L * 20 := sN_le (fun i h1 h2 => NM_le h h1 h2)
  unfold sF
  omega
theorem lp_widthsBelow (n : Nat) {σ : Mem} {L : Nat} {W : Nat → Nat} {a1 l1 : Int32} {j : Nat} (hL : σ.1 41 0 = nI L) (hL6 : L ≤ 6) (hW : NM σ L W) : ∀ (d k i : Nat), i + d = L → d < k → j ≤ i → lp_X6_widthsBelow_6 n 41 a1 k σ l1 (nI (sN W i - sN W j)) (nI (i + 1)) = some (nI (sF W L j), σ) := by
  intro d
  induction d with
  | zero =>
    intro k i hi hk hj
    obtain ⟨k, rfl⟩ : ∃ z, k = z + 1 := ⟨k - 1, by omega⟩
    rw [lp_X6_widthsBelow_6_s, hL, if_pos ((lt_nI (by omega) (by omega)).mpr (by omega)), show i = L by omega]
    rfl
  | succ d ih =>
    intro k i hi hk hj
    obtain ⟨k, rfl⟩ : ∃ z, k = z + 1 := ⟨k - 1, by omega⟩
    have hm := sN_mono (f := W) (i := j) (j := i) hj
    rw [lp_X6_widthsBelow_6_s, hL, if_neg (by rw [lt_nI (by omega) (by omega)]; omega), if_pos (inR_nI (by omega) (by omega))]
    simp only [nI_cl (show i + 1 < 100000 by omega), rfm_5, rfm_3]
    rcases hW (i + 1) (by omega) (by omega) with ⟨q1, q2⟩ | ⟨q1, q2, -, -⟩
    · rw [if_pos q1, n0, add_nI, add1_nI, show sN W i - sN W j + 0 = sN W (i + 1) - sN W j by rw [sN, q2]; omega]
      exact ih k (i + 1) (by omega) (by omega) (by omega)
    · rw [if_neg q1, if_pos (inR_nI (by omega) (by omega)), q2, add_nI, add1_nI, show sN W i - sN W j + W (i + 1) = sN W (i + 1) - sN W j by rw [sN]; omega]
      exact ih k (i + 1) (by omega) (by omega) (by omega)
theorem ev_widthsBelow {n : Nat} (hn : 10 < n) {σ : Mem} {L : Nat} {W : Nat → Nat} {j : Nat} (hL : σ.1 41 0 = nI L) (hL6 : L ≤ 6) (hW : NM σ L W) (hj : j ≤ L) : sp_X6_widthsBelow n σ 41 (nI j) = some (nI (sF W L j), σ) := by
  unfold sp_X6_widthsBelow
  have := lp_widthsBelow n (a1 := nI j) (l1 := nI j) (j := j) hL hL6 hW (L - j) n j (by omega) (by omega) (Nat.le_refl _)
  rw [Nat.sub_self] at this
  rw [add1_nI]
  exact this
theorem lp_air (n : Nat) (hn : 10 < n) {σ : Mem} {L : Nat} {W : Nat → Nat} {a1 : Int32} {u i : Nat} (hL : σ.1 41 0 = nI L) (hL6 : L ≤ 6) (hW : NM σ L W) (hu : u ≤ 1000) (hi : i ≤ L) : ∀ (d k j : Nat), j + d + 1 = i → d + 1 < k → lp_X6_air_7 n 41 a1 k σ (nI i) (nI (arN W L u j)) (nI (j + 1)) = some (nI (airN W L u i), σ) := by
  intro d
  induction d with
  | zero =>
    intro k j hj hk
    obtain ⟨k, rfl⟩ : ∃ z, k = z + 1 := ⟨k - 1, by omega⟩
    have har := arN_le W L u j
    have hsn := sF_next (W := W) (L := L) (j := j) (by omega)
    have hsw := sF_w (W := W) (L := L) (j := j) (by omega)
    have hs := NM_s hW hL6 j
    have e0 : airN W L u i = gN (arN W L u j) (W (j + 1)) (sF W L j) := by rw [← hj]; rfl
    have hw20 := NM_le hW (k := j + 1) (by omega) (by omega)
    have huw : arN W L u j * W (j + 1) ≤ 1000 * 20 := Nat.mul_le_mul (by omega) hw20
    rw [lp_X6_air_7_s, if_neg (by rw [lt_nI (by omega) (by omega)]; omega), ev_widthsBelow hn hL hL6 hW (by omega)]
    simp only [Option.bind_some]
    rw [if_pos (inR_nI (by omega) (by omega))]
    simp only [nI_cl (show j + 1 < 100000 by omega), rfm_5, rfm_3]
    rcases hW (j + 1) (by omega) (by omega) with ⟨q1, q2⟩ | ⟨q1, q2, q3, q4⟩
    · rw [if_pos q1, if_pos (by rw [hj]), e0, q2]
      unfold gN
      split <;> simp [nI]
    · rw [if_neg q1]
      by_cases hb : sF W L (j + 1) = 0
      · rw [if_pos (by rw [hb]; rfl), if_pos (by rw [hj]), e0]
        have : sF W L j = W (j + 1) := by omega
        unfold gN
        rw [if_neg (by omega), this, Nat.mul_div_cancel _ (by omega)]
      · have hc : sF W L j = W (j + 1) + sF W L (j + 1) := by omega
        rw [if_neg (by rw [n0, eq_nI (by omega) (by omega)]; exact hb), if_pos (inR_nI (by omega) (by omega)), if_pos (inR_nI (by omega) (by omega)), q2, add_nI, ← hc, if_pos (by rw [n0, eq_nI (by omega) (by omega)]; omega), if_pos (by rw [hj]), pk_mul, pk_div (by omega) (by omega) (by omega), e0]
        unfold gN
        rw [if_neg (by omega)]
  | succ d ih =>
    intro k j hj hk
    obtain ⟨k, rfl⟩ : ∃ z, k = z + 1 := ⟨k - 1, by omega⟩
    have har := arN_le W L u j
    have hsn := sF_next (W := W) (L := L) (j := j) (by omega)
    have hsw := sF_w (W := W) (L := L) (j := j) (by omega)
    have hs := NM_s hW hL6 j
    have hw20 := NM_le hW (k := j + 1) (by omega) (by omega)
    have huw : arN W L u j * W (j + 1) ≤ 1000 * 20 := Nat.mul_le_mul (by omega) hw20
    have hg : gN (arN W L u j) (W (j + 1)) (sF W L j) ≤ arN W L u j := gN_le hsw
    have hne : ¬ nI (j + 1) = nI i := by rw [eq_nI (by omega) (by omega)]; omega
    have ea : nI (arN W L u j) - nI (gN (arN W L u j) (W (j + 1)) (sF W L j)) = nI (arN W L u (j + 1)) := by
      rw [pk_sub hg]
      rfl
    have key : ∀ x : Int32, x = nI (gN (arN W L u j) (W (j + 1)) (sF W L j)) → lp_X6_air_7 n 41 a1 k σ (nI i) (nI (arN W L u j) - x) (nI (j + 1) + 1) = some (nI (airN W L u i), σ) := by
      intro x hx
      rw [hx, ea, add1_nI]
      exact ih k (j + 1) (by omega) (by omega)
    rw [lp_X6_air_7_s, if_neg (by rw [lt_nI (by omega) (by omega)]; omega), ev_widthsBelow hn hL hL6 hW (by omega)]
    simp only [Option.bind_some]
    rw [if_pos (inR_nI (by omega) (by omega))]
    simp only [nI_cl (show j + 1 < 100000 by omega), rfm_5, rfm_3]
    rcases hW (j + 1) (by omega) (by omega) with ⟨q1, q2⟩ | ⟨q1, q2, q3, q4⟩
    · rw [if_pos q1, if_neg hne]
      refine key _ ?_
      rw [q2]
      unfold gN
      split <;> simp [nI]
    · rw [if_neg q1]
      by_cases hb : sF W L (j + 1) = 0
      · rw [if_pos (by rw [hb]; rfl), if_neg hne]
        refine key _ ?_
        have : sF W L j = W (j + 1) := by omega
        unfold gN
        rw [if_neg (by omega), this, Nat.mul_div_cancel _ (by omega)]
      · have hc : sF W L j = W (j + 1) + sF W L (j + 1) := by omega
        rw [if_neg (by rw [n0, eq_nI (by omega) (by omega)]; exact hb), if_pos (inR_nI (by omega) (by omega)), if_pos (inR_nI (by omega) (by omega)), q2, add_nI, ← hc, if_pos (by rw [n0, eq_nI (by omega) (by omega)]; omega), if_neg hne]
        refine key _ ?_
        rw [pk_mul, pk_div (by omega) (by omega) (by omega)]
        unfold gN
        rw [if_neg (by omega)]
theorem ev_air {n : Nat} (hn : 10 < n) {σ : Mem} {L : Nat} {W : Nat → Nat} {u i : Nat} (hL : σ.1 41 0 = nI L) (hL6 : L ≤ 6) (hW : NM σ L W) (hu : u ≤ 1000) (hf : σ.1 41 6 = nI u) (h1 : 1 ≤ i) (hi : i ≤ L) : sp_X6_air n σ 41 (nI i) = some (nI (airN W L u i), σ) := by
  unfold sp_X6_air
  rw [hf, n1]
  exact lp_air n hn hL hL6 hW hu hi (i - 1) n 0 (by omega) (by omega)
end
section
/-! PURE. gas in a minute, of either system -/
/-- what the air takes of g -/
def tkG (g air size : Int32) : Int32 := (g * (if size < air then size else air)) / size
theorem ev_gasTaken (n : Nat) {σ : Mem} {o z : Nat} (h1 : 1 ≤ z) (h2 : z ≤ 500) (hz : σ.1 o 1 = nI z) : sp_X0_gasTaken n σ o = some (tkG (σ.1 o 7) (σ.1 o 5) (σ.1 o 1), σ) := by
  unfold sp_X0_gasTaken tkG
  rw [if_neg (by rw [hz, n0, le_nI (by omega) (by omega)]; omega), if_pos (by rw [hz, n0, eq_nI (by omega) (by omega)]; omega)]
theorem ev_moveGas (n : Nat) {σ : Mem} {m k z : Nat} (hk : k ≤ 6) (h1 : 1 ≤ z) (h2 : z ≤ 500) (hz : σ.1 (10 * m + k) 1 = nI z) :
    ∃ σ', sp_X1_moveGas n σ (10 * m + 7) (10 * m + k) = some ((), σ') ∧ σ'.2 = σ.2 ∧
      σ'.1 (10 * m + k) 7 = σ.1 (10 * m + k) 7 + σ.1 (10 * m + k) 3 - tkG (σ.1 (10 * m + k) 7 + σ.1 (10 * m + k) 3) (σ.1 (10 * m + k) 5) (σ.1 (10 * m + k) 1) ∧
      σ'.1 (10 * m + 7) 9 = σ.1 (10 * m + 7) 9 + σ.1 (10 * m + k) 3 ∧
      σ'.1 (10 * m + 7) 10 = σ.1 (10 * m + 7) 10 + tkG (σ.1 (10 * m + k) 7 + σ.1 (10 * m + k) 3) (σ.1 (10 * m + k) 5) (σ.1 (10 * m + k) 1) ∧
      ∀ a b, (a ≠ 10 * m + k ∨ b ≠ 7) → (a ≠ 10 * m + 7 ∨ (b ≠ 9 ∧ b ≠ 10)) → σ'.1 a b = σ.1 a b := by
  unfold sp_X1_moveGas sp_X1_letGasIn
  simp only [lm, Option.bind_some]
  rw [ev_gasTaken n h1 h2 (z := z) (by rw [wi_o (by omega), wi_o (by omega)]; exact hz)]
  simp only [Option.bind_some]
  refine ⟨_, rfl, rfl, ?_, ?_, ?_, fun a b hab hab2 => ?_⟩
  · rw [wi_o (by omega), wi_eq rfl rfl, wi_o (by omega), wi_eq rfl rfl, wi_o (a := 10 * m + k) (b := 5) (by omega), wi_o (a := 10 * m + k) (b := 5) (by omega), wi_o (a := 10 * m + k) (b := 1) (by omega), wi_o (a := 10 * m + k) (b := 1) (by omega)]
  · rw [wi_o (by omega), wi_o (by omega), wi_eq rfl rfl, wi_o (by omega)]
  · rw [wi_eq rfl rfl, wi_o (by omega), wi_o (by omega), wi_o (by omega), wi_o (a := 10 * m + k) (b := 7) (by omega), wi_eq rfl rfl, wi_o (a := 10 * m + k) (b := 5) (by omega), wi_o (a := 10 * m + k) (b := 5) (by omega), wi_o (a := 10 * m + k) (b := 1) (by omega), wi_o (a := 10 * m + k) (b := 1) (by omega)]
  · rw [wi_o (by omega), wi_o (by omega), wi_o (by omega), wi_o (by omega)]
/-- the gas of level k behind a minute, read of the class or of the model -/
def gIn (g i air size : Int32) : Int32 := g + i - tkG (g + i) air size
/-- behind the levels 1 .. j: class -/
def PGc (σ σ' : Mem) (m j : Nat) : Prop := σ'.2 = σ.2 ∧
  (∀ i, 1 ≤ i → i ≤ j → σ'.1 (10 * m + i) 7 = gIn (σ.1 (10 * m + i) 7) (σ.1 (10 * m + i) 3) (σ.1 (10 * m + i) 5) (σ.1 (10 * m + i) 1)) ∧
  σ'.1 (10 * m + 7) 9 = acc (σ.1 (10 * m + 7) 9) (fun i => σ.1 (10 * m + i) 3) j ∧
  σ'.1 (10 * m + 7) 10 = acc (σ.1 (10 * m + 7) 10) (fun i => tkG (σ.1 (10 * m + i) 7 + σ.1 (10 * m + i) 3) (σ.1 (10 * m + i) 5) (σ.1 (10 * m + i) 1)) j ∧
  ∀ a b, (b ≠ 7 ∨ a ≤ 10 * m ∨ 10 * m + j < a) → (a ≠ 10 * m + 7 ∨ (b ≠ 9 ∧ b ≠ 10)) → σ'.1 a b = σ.1 a b
theorem PGc_0 (σ : Mem) (m : Nat) : PGc σ σ m 0 := ⟨rfl, fun i h1 h2 => by omega, rfl, rfl, fun _ _ _ _ => rfl⟩
theorem PGc_step (n : Nat) {σ σ1 : Mem} {m j z : Nat} (hj : j + 1 ≤ 6) (h1 : 1 ≤ z) (h2 : z ≤ 500) (hz : σ.1 (10 * m + (j + 1)) 1 = nI z) (h : PGc σ σ1 m j) : ∃ σ2, sp_X1_moveGas n σ1 (10 * m + 7) (10 * m + (j + 1)) = some ((), σ2) ∧ PGc σ σ2 m (j + 1) := by
  obtain ⟨p1, p2, p3, p4, p5⟩ := h
  have e1 : σ1.1 (10 * m + (j + 1)) 1 = σ.1 (10 * m + (j + 1)) 1 := p5 _ _ (by omega) (by omega)
  have e3 : σ1.1 (10 * m + (j + 1)) 3 = σ.1 (10 * m + (j + 1)) 3 := p5 _ _ (by omega) (by omega)
  have e5 : σ1.1 (10 * m + (j + 1)) 5 = σ.1 (10 * m + (j + 1)) 5 := p5 _ _ (by omega) (by omega)
  have e7 : σ1.1 (10 * m + (j + 1)) 7 = σ.1 (10 * m + (j + 1)) 7 := p5 _ _ (by omega) (by omega)
  obtain ⟨σ2, q0, q1, q2, q3, q4, q5⟩ := ev_moveGas n (σ := σ1) (m := m) (k := j + 1) hj h1 h2 (by rw [e1]; exact hz)
  rw [e1, e3, e5, e7] at q2 q4
  rw [e3] at q3
  refine ⟨σ2, q0, q1.trans p1, fun i g1 g2 => ?_, by rw [q3, p3]; rfl, by rw [q4, p4]; rfl, fun a b hab hab2 => ?_⟩
  · by_cases e : i = j + 1
    · rw [e, q2]
      rfl
    · rw [q5 _ _ (by omega) (by omega)]
      exact p2 i g1 (by omega)
  · rw [q5 _ _ (by omega) hab2]
    exact p5 a b (by omega) hab2
/-- the model's loops -/
def PM1 (σ σ' : Mem) (j : Nat) : Prop := σ'.2 = σ.2 ∧ (∀ i, 1 ≤ i → i ≤ j → σ'.1 47 i = σ.1 47 i + σ.1 45 i) ∧ σ'.1 47 70 = acc (σ.1 47 70) (fun i => σ.1 45 i) j ∧ ∀ a b, (a ≠ 47 ∨ (b ≠ 70 ∧ (b = 0 ∨ j < b))) → σ'.1 a b = σ.1 a b
theorem ix_0 {k : Nat} (hk : k < 73) : ((0 : Int32) + nI k) = nI k := by rw [n0, add_nI, Nat.zero_add]
theorem c70 : (70 : Int32).toNatClampNeg = 70 := by decide
theorem c71 : (71 : Int32).toNatClampNeg = 71 := by decide
theorem i70 : inR (70 : Int32) 73 := by decide
theorem i71 : inR (71 : Int32) 73 := by decide
def PM2 (σ σ' : Mem) (L : Nat) (W : Nat → Nat) (u j : Nat) : Prop := σ'.2 = σ.2 ∧ (∀ i, 1 ≤ i → i ≤ j → σ'.1 47 i = σ.1 47 i - tkG (σ.1 47 i) (nI (airN W L u i)) (σ.1 43 i)) ∧ σ'.1 47 71 = acc (σ.1 47 71) (fun i => tkG (σ.1 47 i) (nI (airN W L u i)) (σ.1 43 i)) j ∧ ∀ a b, (a ≠ 47 ∨ (b ≠ 71 ∧ (b = 0 ∨ j < b))) → σ'.1 a b = σ.1 a b
theorem lp_gases2 (n : Nat) (hn : 10 < n) {σ0 : Mem} {L : Nat} {W : Nat → Nat} {u : Nat} (hL : σ0.1 41 0 = nI L) (hL6 : L ≤ 6) (hW : NM σ0 L W) (hu : u ≤ 1000) (hf : σ0.1 41 6 = nI u) (hz : ∀ k, 1 ≤ k → k ≤ L → ∃ z, 1 ≤ z ∧ z ≤ 500 ∧ σ0.1 43 k = nI z) : ∀ (d k j : Nat) (σ : Mem), j + d = L → d < k → PM2 σ0 σ L W u j → ∃ σ', lp_X6_gases_51 n 41 k σ (nI (j + 1)) = some ((), σ') ∧ PM2 σ0 σ' L W u L := by
  intro d
  induction d with
  | zero =>
    intro k j σ hj hk hP
    obtain ⟨k, rfl⟩ : ∃ z, k = z + 1 := ⟨k - 1, by omega⟩
    refine ⟨σ, ?_, by rw [show j = L by omega] at hP; exact hP⟩
    rw [lp_X6_gases_51_s, hP.2.2.2 41 0 (by omega), hL, if_pos ((lt_nI (by omega) (by omega)).mpr (by omega))]
  | succ d ih =>
    intro k j σ hj hk hP
    obtain ⟨k, rfl⟩ : ∃ z, k = z + 1 := ⟨k - 1, by omega⟩
    obtain ⟨p1, p2, p3, p4⟩ := hP
    obtain ⟨z, z1, z2, z3⟩ := hz (j + 1) (by omega) (by omega)
    have hW' : NM σ L W := fun i h1 h2 => by rw [p4 46 i (by omega), p4 44 i (by omega)]; exact hW i h1 h2
    have e43 : σ.1 43 (j + 1) = nI z := by rw [p4 _ _ (by omega)]; exact z3
    have eg : σ.1 47 (j + 1) = σ0.1 47 (j + 1) := p4 _ _ (by omega)
    rw [lp_X6_gases_51_s, p4 41 0 (by omega), hL, if_neg (by rw [lt_nI (by omega) (by omega)]; omega)]
    simp only [ix_0 (show j + 1 < 73 by omega)]
    rw [if_pos (inR_nI (by omega) (by omega)), ev_air hn (by rw [p4 _ _ (by omega)]; exact hL) hL6 hW' hu (by rw [p4 _ _ (by omega)]; exact hf) (by omega) (by omega)]
    simp only [Option.bind_some]
    rw [if_pos (inR_nI (by omega) (by omega)), if_pos (inR_nI (by omega) (by omega))]
    simp only [nI_cl (show j + 1 < 100000 by omega), rfm_2, rfm_11, lm, c71]
    rw [if_pos (by rw [e43, n0, eq_nI (by omega) (by omega)]; omega), if_pos (inR_nI (by omega) (by omega)), if_pos (inR_nI (by omega) (by omega)), if_pos i71, if_pos i71, add1_nI]
    refine ih k (j + 1) _ (by omega) (by omega) ⟨p1, fun i h1 h2 => ?_, ?_, fun a b hab => ?_⟩
    · rw [wi_o (by omega), get_wi]
      by_cases e : i = j + 1
      · rw [if_pos ⟨rfl, e⟩, e, eg, e43, ← z3]
        rfl
      · rw [if_neg (by omega)]
        exact p2 i h1 (by omega)
    · rw [wi_eq rfl rfl, wi_o (by omega), p3, eg, e43, ← z3]
      rfl
    · rw [wi_o (by omega), wi_o (by omega)]
      exact p4 a b (by omega)
theorem lp_gases1 (n : Nat) (hn : 10 < n) {σ0 : Mem} {L : Nat} {W : Nat → Nat} {u : Nat} (hL : σ0.1 41 0 = nI L) (hL6 : L ≤ 6) (hW : NM σ0 L W) (hu : u ≤ 1000) (hf : σ0.1 41 6 = nI u) (hz : ∀ k, 1 ≤ k → k ≤ L → ∃ z, 1 ≤ z ∧ z ≤ 500 ∧ σ0.1 43 k = nI z) : ∀ (d k j : Nat) (σ : Mem), j + d = L → d < k → PM1 σ0 σ j → ∃ σ1 σ', lp_X6_gases_2 n 41 k σ (nI (j + 1)) = some ((), σ') ∧ PM1 σ0 σ1 L ∧ PM2 σ1 σ' L W u L := by
  intro d
  induction d with
  | zero =>
    intro k j σ hj hk hP
    obtain ⟨k, rfl⟩ : ∃ z, k = z + 1 := ⟨k - 1, by omega⟩
    obtain ⟨p1, p2, p3, p4⟩ := id hP
    have hW' : NM σ L W := fun i h1 h2 => by rw [p4 46 i (by omega), p4 44 i (by omega)]; exact hW i h1 h2
    obtain ⟨σ', e1, e2⟩ := lp_gases2 n hn (σ0 := σ) (by rw [p4 _ _ (by omega)]; exact hL) hL6 hW' hu (by rw [p4 _ _ (by omega)]; exact hf) (fun k h1 h2 => by rw [p4 _ _ (by omega)]; exact hz k h1 h2) L n 0 σ (by omega) (by omega) ⟨rfl, fun i h1 h2 => by omega, rfl, fun _ _ _ => rfl⟩
    refine ⟨σ, σ', ?_, by rw [show j = L by omega] at hP; exact hP, e2⟩
    rw [lp_X6_gases_2_s, p4 41 0 (by omega), hL, if_pos ((lt_nI (by omega) (by omega)).mpr (by omega)), n1]
    exact e1
  | succ d ih =>
    intro k j σ hj hk hP
    obtain ⟨k, rfl⟩ : ∃ z, k = z + 1 := ⟨k - 1, by omega⟩
    obtain ⟨p1, p2, p3, p4⟩ := hP
    rw [lp_X6_gases_2_s, p4 41 0 (by omega), hL, if_neg (by rw [lt_nI (by omega) (by omega)]; omega)]
    simp only [ix_0 (show j + 1 < 73 by omega)]
    rw [if_pos (inR_nI (by omega) (by omega)), if_pos (inR_nI (by omega) (by omega)), if_pos (inR_nI (by omega) (by omega))]
    simp only [nI_cl (show j + 1 < 100000 by omega), rfm_4, rfm_11, lm, c70]
    rw [if_pos i70, if_pos (inR_nI (by omega) (by omega)), if_pos i70, add1_nI]
    refine ih k (j + 1) _ (by omega) (by omega) ⟨p1, fun i h1 h2 => ?_, ?_, fun a b hab => ?_⟩
    · rw [wi_o (by omega), get_wi]
      by_cases e : i = j + 1
      · rw [if_pos ⟨rfl, e⟩, e, p4 47 (j + 1) (by omega), p4 45 (j + 1) (by omega)]
      · rw [if_neg (by omega)]
        exact p2 i h1 (by omega)
    · rw [wi_eq rfl rfl, wi_o (by omega), wi_o (by omega), p3, p4 45 (j + 1) (by omega)]
      rfl
    · rw [wi_o (by omega), wi_o (by omega)]
      exact p4 a b (by omega)
/-- a minute's gas of the model -/
def PGm (σ σ' : Mem) (L : Nat) (W : Nat → Nat) (u : Nat) : Prop := σ'.2 = σ.2 ∧ (∀ i, 1 ≤ i → i ≤ L → σ'.1 47 i = gIn (σ.1 47 i) (σ.1 45 i) (nI (airN W L u i)) (σ.1 43 i)) ∧ σ'.1 47 70 = acc (σ.1 47 70) (fun i => σ.1 45 i) L ∧ σ'.1 47 71 = acc (σ.1 47 71) (fun i => tkG (σ.1 47 i + σ.1 45 i) (nI (airN W L u i)) (σ.1 43 i)) L ∧ ∀ a b, (a ≠ 47 ∨ (b ≠ 70 ∧ b ≠ 71 ∧ (b = 0 ∨ L < b))) → σ'.1 a b = σ.1 a b
theorem ev_gases {n : Nat} (hn : 10 < n) {σ : Mem} {L : Nat} {W : Nat → Nat} {u : Nat} (hL : σ.1 41 0 = nI L) (hL6 : L ≤ 6) (hW : NM σ L W) (hu : u ≤ 1000) (hf : σ.1 41 6 = nI u) (hz : ∀ k, 1 ≤ k → k ≤ L → ∃ z, 1 ≤ z ∧ z ≤ 500 ∧ σ.1 43 k = nI z) : ∃ σ', sp_X6_gases n σ 41 = some ((), σ') ∧ PGm σ σ' L W u := by
  unfold sp_X6_gases
  rw [n1]
  obtain ⟨σ1, σ', e, p, q⟩ := lp_gases1 n hn hL hL6 hW hu hf hz L n 0 σ (by omega) (by omega) ⟨rfl, fun i h1 h2 => by omega, rfl, fun _ _ _ => rfl⟩
  obtain ⟨p1, p2, p3, p4⟩ := p
  obtain ⟨q1, q2, q3, q4⟩ := q
  refine ⟨σ', e, q1.trans p1, fun i h1 h2 => ?_, ?_, ?_, fun a b hab => ?_⟩
  · rw [q2 i h1 h2, p2 i h1 h2, p4 43 i (by omega)]
    rfl
  · rw [q4 _ _ (by omega), p3]
  · rw [q3, p4 47 71 (by omega)]
    exact acc_cong (fun i h1 h2 => by rw [p2 i h1 h2, p4 43 i (by omega)])
  · rw [q4 a b (by omega), p4 a b (by omega)]
end
section
/-! PURE. the queue of requests -/
/-- the first place from j on, of d places, where g is x -/
def sr (g : Nat → Int32) (x : Int32) : Nat → Nat → Nat
  | 0, j => j
  | d + 1, j => if g j = x then j else sr g x d (j + 1)
theorem sr_spec (g : Nat → Int32) (x : Int32) : ∀ d j, j ≤ sr g x d j ∧ sr g x d j ≤ j + d ∧ (∀ p, j ≤ p → p < sr g x d j → g p ≠ x) ∧ (sr g x d j < j + d → g (sr g x d j) = x)
  | 0, j => ⟨Nat.le_refl _, Nat.le_refl _, fun p h1 h2 => absurd h2 (by rw [sr]; omega), fun h => absurd h (by rw [sr]; omega)⟩
  | d + 1, j => by
    rw [sr]
    by_cases h : g j = x
    · rw [if_pos h]
      exact ⟨Nat.le_refl _, by omega, fun p h1 h2 => by omega, fun _ => h⟩
    · rw [if_neg h]
      obtain ⟨a, b, c, e⟩ := sr_spec g x d (j + 1)
      refine ⟨by omega, by omega, fun p h1 h2 => ?_, fun h => e (by omega)⟩
      by_cases hp : p = j
      · rw [hp]
        exact h
      · exact c p (by omega) h2
theorem sr_cong {g g' : Nat → Int32} {x : Int32} : ∀ {d j : Nat}, (∀ p, j ≤ p → p < j + d → g p = g' p) → sr g x d j = sr g' x d j
  | 0, _, _ => rfl
  | d + 1, j, h => by rw [sr, sr, h j (by omega) (by omega), sr_cong (fun p h1 h2 => h p (by omega) (by omega))]
/-- a row of the class's queue -/
abbrev rw_ (σ : Mem) (m p : Nat) : Nat := σ.2 (38 + m) p
theorem ev_numberAt (n : Nat) {σ : Mem} {m p : Nat} (h : ShM σ m) (hp : p < 8) : sp_X4_numberAt n σ (10 * m + 9) (nI p) = some (σ.1 (rw_ σ m p) 0, σ) := by
  have hr := h.2.2.1 p hp
  unfold sp_X4_numberAt
  rw [if_neg (nI_pos (by omega)), if_neg (show ¬ (8 : Int32) ≤ nI p by rw [n8, le_nI (by omega) (by omega)]; omega)]
  simp only [nI_cl (show p < 100000 by omega), rf_w h.1]
  rw [if_pos ⟨inR_nI hp (by omega), ok_rq h.1 hr.1 hr.2⟩]
theorem lp_positionOf (n : Nat) {σ : Mem} {m W : Nat} {x a1 : Int32} (h : ShM σ m) (hs : σ.1 (10 * m + 9) 1 = nI W) (hW : W ≤ 8) : ∀ (d k j : Nat), j + d = W → d < k → lp_X4_positionOf_2 n (10 * m + 9) a1 k σ x (nI j) = some (nI (sr (fun p => σ.1 (rw_ σ m p) 0) x d j), σ) := by
  intro d
  induction d with
  | zero =>
    intro k j hj hk
    obtain ⟨k, rfl⟩ : ∃ z, k = z + 1 := ⟨k - 1, by omega⟩
    rw [lp_X4_positionOf_2_s, hs, if_pos ((le_nI (by omega) (by omega)).mpr (by omega)), sr]
  | succ d ih =>
    intro k j hj hk
    obtain ⟨k, rfl⟩ : ∃ z, k = z + 1 := ⟨k - 1, by omega⟩
    rw [lp_X4_positionOf_2_s, hs, if_neg (by rw [le_nI (by omega) (by omega)]; omega), ev_numberAt n h (by omega)]
    simp only [Option.bind_some]
    rw [sr]
    by_cases e : σ.1 (rw_ σ m j) 0 = x
    · rw [if_pos e, if_pos e]
    · rw [if_neg e, if_neg e, add1_nI]
      exact ih k (j + 1) (by omega) (by omega)
theorem ev_positionOf {n : Nat} (hn : 10 < n) {σ : Mem} {m W : Nat} {x : Int32} (h : ShM σ m) (hs : σ.1 (10 * m + 9) 1 = nI W) (hW : W ≤ 8) : sp_X4_positionOf n σ (10 * m + 9) x = some (nI (sr (fun p => σ.1 (rw_ σ m p) 0) x W 0), σ) := by
  unfold sp_X4_positionOf
  rw [n0]
  exact lp_positionOf n h hs hW W n 0 (by omega) (by omega)
theorem ev_holds {n : Nat} (hn : 10 < n) {σ : Mem} {m W : Nat} {x : Int32} (h : ShM σ m) (hs : σ.1 (10 * m + 9) 1 = nI W) (hW : W ≤ 8) : sp_X4_holds n σ (10 * m + 9) x = some (if sr (fun p => σ.1 (rw_ σ m p) 0) x W 0 = W then 0 else 1, σ) := by
  have hsp := sr_spec (fun p => σ.1 (rw_ σ m p) 0) x W 0
  unfold sp_X4_holds
  rw [ev_positionOf hn h hs hW]
  simp only [Option.bind_some]
  rw [hs]
  by_cases e : sr (fun p => σ.1 (rw_ σ m p) 0) x W 0 = W
  · rw [if_pos ((le_nI (by omega) (by omega)).mpr (by omega)), if_pos e]
  · rw [if_neg (by rw [le_nI (by omega) (by omega)]; omega), if_neg e]
/-- the model's search -/
theorem c60 : (60 : Int32).toNatClampNeg = 60 := by decide
theorem i60 : inR (60 : Int32) 73 := by decide
theorem ix4 {p : Nat} : (28 : Int32) + (4 : Int32) * nI p = nI (28 + 4 * p) := by
  rw [show (28 : Int32) = nI 28 from rfl, show (4 : Int32) = nI 4 from rfl, pk_mul, add_nI]
theorem lp_place (n : Nat) {σ : Mem} {W : Nat} {x a1 : Int32} (hs : σ.1 47 60 = nI W) (hW : W ≤ 8) : ∀ (d k j : Nat), j + d = W → d < k → lp_X6_place_2 n 41 a1 k σ x (nI j) = some (if sr (fun p => σ.1 47 (28 + 4 * p)) x d j = W then -1 else nI (sr (fun p => σ.1 47 (28 + 4 * p)) x d j), σ) := by
  intro d
  induction d with
  | zero =>
    intro k j hj hk
    obtain ⟨k, rfl⟩ : ∃ z, k = z + 1 := ⟨k - 1, by omega⟩
    rw [lp_X6_place_2_s, if_pos i60]
    simp only [rfm_11, c60, hs]
    rw [if_pos ((le_nI (by omega) (by omega)).mpr (by omega)), sr, if_pos (by omega)]
  | succ d ih =>
    intro k j hj hk
    obtain ⟨k, rfl⟩ : ∃ z, k = z + 1 := ⟨k - 1, by omega⟩
    rw [lp_X6_place_2_s, if_pos i60]
    simp only [rfm_11, c60, hs, ix4]
    rw [if_neg (by rw [le_nI (by omega) (by omega)]; omega), if_pos (inR_nI (by omega) (by omega))]
    simp only [nI_cl (show 28 + 4 * j < 100000 by omega)]
    rw [sr]
    by_cases e : σ.1 47 (28 + 4 * j) = x
    · rw [if_pos e, if_pos e, if_neg (by omega)]
    · rw [if_neg e, if_neg e, add1_nI]
      exact ih k (j + 1) (by omega) (by omega)
theorem ev_placeM {n : Nat} (hn : 10 < n) {σ : Mem} {W : Nat} {x : Int32} (hs : σ.1 47 60 = nI W) (hW : W ≤ 8) : sp_X6_place n σ 41 x = some (if sr (fun p => σ.1 47 (28 + 4 * p)) x W 0 = W then -1 else nI (sr (fun p => σ.1 47 (28 + 4 * p)) x W 0), σ) := by
  unfold sp_X6_place
  rw [n0]
  exact lp_place n hs hW W n 0 (by omega) (by omega)
/-! a request goes -/
theorem lp_remove (n : Nat) {σ0 : Mem} {m q : Nat} {a1 l1 l2 : Int32} {s : Int32} (h : ShM σ0 m) (hq : q < 8) : ∀ (d k i : Nat) (σ : Mem), i + d = 7 → d < k → q ≤ i → σ.1 = σ0.1 → (∀ a, a ≠ 38 + m → σ.2 a = σ0.2 a) → (∀ p, p < q → σ.2 (38 + m) p = σ0.2 (38 + m) p) → (∀ p, q ≤ p → p < i → σ.2 (38 + m) p = σ0.2 (38 + m) (p + 1)) → (∀ p, i ≤ p → p < 8 → σ.2 (38 + m) p = σ0.2 (38 + m) p) →
    ∃ σ', lp_X4_remove_34 n (10 * m + 9) a1 k σ l1 l2 (rw_ σ0 m q) (nI i) = some ((), σ') ∧ (∀ a b, (a ≠ 10 * m + 9 ∨ b ≠ 1) → σ'.1 a b = σ0.1 a b) ∧ σ'.1 (10 * m + 9) 1 = σ0.1 (10 * m + 9) 1 - 1 ∧ (∀ a, a ≠ 38 + m → σ'.2 a = σ0.2 a) ∧ (∀ p, p < q → rw_ σ' m p = rw_ σ0 m p) ∧ (∀ p, q ≤ p → p < 7 → rw_ σ' m p = rw_ σ0 m (p + 1)) ∧ rw_ σ' m 7 = rw_ σ0 m q := by
  intro d
  induction d with
  | zero =>
    intro k i σ hi hk hqi e1 e2 e3 e4 e5
    obtain ⟨k, rfl⟩ : ∃ z, k = z + 1 := ⟨k - 1, by omega⟩
    rw [lp_X4_remove_34_s, add1_nI, if_pos (show (8 : Int32) ≤ nI (i + 1) by rw [n8, le_nI (by omega) (by omega)]; omega), if_pos (by decide)]
    simp only [lm, rf_w h.1, show ((8 : Int32) - 1).toNatClampNeg = 7 from by decide]
    refine ⟨_, rfl, fun a b hab => ?_, ?_, fun a ha => ?_, fun p hp => ?_, fun p hp hp2 => ?_, ?_⟩
    · rw [wi_o hab, get_wr1, e1]
    · rw [wi_eq rfl rfl, get_wr1, e1]
    · rw [get_wi2]
      show (wr σ (38 + m) 7 (rw_ σ0 m q)).2 a = _
      rw [wr_ne _ _ _ _ ha]
      exact e2 a ha
    · show (wr σ (38 + m) 7 (rw_ σ0 m q)).2 (38 + m) p = _
      rw [get_wr, if_neg (by omega)]
      exact e3 p hp
    · show (wr σ (38 + m) 7 (rw_ σ0 m q)).2 (38 + m) p = _
      rw [get_wr, if_neg (by omega)]
      exact e4 p hp (by omega)
    · show (wr σ (38 + m) 7 (rw_ σ0 m q)).2 (38 + m) 7 = _
      rw [get_wr, if_pos ⟨rfl, rfl⟩]
  | succ d ih =>
    intro k i σ hi hk hqi e1 e2 e3 e4 e5
    obtain ⟨k, rfl⟩ : ∃ z, k = z + 1 := ⟨k - 1, by omega⟩
    have hr := h.2.2.1 (i + 1) (by omega)
    rw [lp_X4_remove_34_s, add1_nI, if_neg (show ¬ (8 : Int32) ≤ nI (i + 1) by rw [n8, le_nI (by omega) (by omega)]; omega)]
    simp only [nI_cl (show i + 1 < 100000 by omega), nI_cl (show i < 100000 by omega), rf_w h.1, lm]
    rw [if_pos ⟨inR_nI (by omega) (by omega), by rw [e5 _ (by omega) (by omega)]; exact ok_rq h.1 hr.1 hr.2⟩, if_pos (inR_nI (by omega) (by omega))]
    refine ih k (i + 1) _ (by omega) (by omega) (by omega) e1 (fun a ha => ?_) (fun p hp => ?_) (fun p hp hp2 => ?_) (fun p hp hp2 => ?_)
    · rw [wr_ne _ _ _ _ ha]
      exact e2 a ha
    · rw [get_wr, if_neg (by omega)]
      exact e3 p hp
    · rw [get_wr]
      by_cases e : p = i
      · rw [if_pos ⟨rfl, e⟩, e5 _ (by omega) (by omega), e]
      · rw [if_neg (by omega)]
        exact e4 p hp (by omega)
    · rw [get_wr, if_neg (by omega)]
      exact e5 p (by omega) hp2
theorem ev_remove {n : Nat} (hn : 10 < n) {σ : Mem} {m W q : Nat} {x : Int32} (h : ShM σ m) (hs : σ.1 (10 * m + 9) 1 = nI W) (hW : W ≤ 8) (hq : sr (fun p => σ.1 (rw_ σ m p) 0) x W 0 = q) (hqW : q < W) :
    ∃ σ', sp_X4_remove n σ (10 * m + 9) x = some ((), σ') ∧ (∀ a b, (a ≠ 10 * m + 9 ∨ b ≠ 1) → σ'.1 a b = σ.1 a b) ∧ σ'.1 (10 * m + 9) 1 = nI (W - 1) ∧ (∀ a, a ≠ 38 + m → σ'.2 a = σ.2 a) ∧ (∀ p, p < q → rw_ σ' m p = rw_ σ m p) ∧ (∀ p, q ≤ p → p < 7 → rw_ σ' m p = rw_ σ m (p + 1)) ∧ rw_ σ' m 7 = rw_ σ m q := by
  have hr := h.2.2.1 q (by omega)
  obtain ⟨σ', e0, e1, e2, e3⟩ := lp_remove n (a1 := x) (l1 := x) (l2 := nI q) (s := x) h (show q < 8 by omega) (7 - q) n q σ (by omega) (by omega) (Nat.le_refl _) rfl (fun _ _ => rfl) (fun _ _ => rfl) (fun p h1 h2 => by omega) (fun _ _ _ => rfl)
  refine ⟨σ', ?_, e1, by rw [e2, hs, show W = (W - 1) + 1 by omega, nI_pred]; rfl, e3⟩
  unfold sp_X4_remove
  rw [ev_positionOf hn h hs hW, hq]
  simp only [Option.bind_some]
  rw [hs, if_neg (by rw [le_nI (by omega) (by omega)]; omega), if_pos (show nI q < (8 : Int32) by rw [n8, lt_nI (by omega) (by omega)]; omega)]
  simp only [nI_cl (show q < 100000 by omega), rf_w h.1]
  rw [if_pos ⟨inR_nI (by omega) (by omega), ok_rq h.1 hr.1 hr.2⟩]
  exact e0
theorem lp_goes (n : Nat) {σ0 : Mem} {a1 l1 : Int32} {q W : Nat} (hs : σ0.1 47 60 = nI W) (hW : W < 8) (hq : q ≤ W) : ∀ (d k i : Nat) (σ : Mem), i + d = 28 + 4 * W → d < k → 28 + 4 * q ≤ i → σ.2 = σ0.2 → (∀ a b, a ≠ 47 → σ.1 a b = σ0.1 a b) → (∀ b, (b < 28 + 4 * q ∨ i ≤ b) → σ.1 47 b = σ0.1 47 b) → (∀ b, 28 + 4 * q ≤ b → b < i → σ.1 47 b = σ0.1 47 (b + 4)) →
    ∃ σ', lp_X6_goes_18 n 41 a1 k σ l1 (nI i) = some ((), σ') ∧ σ'.2 = σ0.2 ∧ (∀ a b, a ≠ 47 → σ'.1 a b = σ0.1 a b) ∧ (∀ b, (b < 28 + 4 * q ∨ 28 + 4 * W ≤ b) → σ'.1 47 b = σ0.1 47 b) ∧ (∀ b, 28 + 4 * q ≤ b → b < 28 + 4 * W → σ'.1 47 b = σ0.1 47 (b + 4)) := by
  intro d
  induction d with
  | zero =>
    intro k i σ hi hk hqi e1 e2 e3 e4
    obtain ⟨k, rfl⟩ : ∃ z, k = z + 1 := ⟨k - 1, by omega⟩
    refine ⟨σ, ?_, e1, e2, fun b hb => e3 b (by omega), fun b h1 h2 => e4 b h1 (by omega)⟩
    rw [lp_X6_goes_18_s, if_pos i60]
    simp only [rfm_11, c60]
    rw [e3 60 (by omega), hs, ix4, if_pos ((le_nI (by omega) (by omega)).mpr (by omega))]
  | succ d ih =>
    intro k i σ hi hk hqi e1 e2 e3 e4
    obtain ⟨k, rfl⟩ : ∃ z, k = z + 1 := ⟨k - 1, by omega⟩
    rw [lp_X6_goes_18_s, if_pos i60]
    simp only [rfm_11, c60]
    rw [e3 60 (by omega), hs, ix4, if_neg (by rw [le_nI (by omega) (by omega)]; omega), show (4 : Int32) = nI 4 from rfl, add_nI, add1_nI, if_pos (inR_nI (by omega) (by omega)), if_pos (inR_nI (by omega) (by omega))]
    simp only [nI_cl (show i + 4 < 100000 by omega), nI_cl (show i < 100000 by omega), lm]
    refine ih k (i + 1) _ (by omega) (by omega) (by omega) e1 (fun a b ha => ?_) (fun b hb => ?_) (fun b h1 h2 => ?_)
    · rw [wi_o (Or.inl ha)]
      exact e2 a b ha
    · rw [wi_o (by omega)]
      exact e3 b (by omega)
    · rw [get_wi]
      by_cases e : b = i
      · rw [if_pos ⟨rfl, e⟩, e3 _ (by omega), e]
      · rw [if_neg (by omega)]
        exact e4 b h1 (by omega)
theorem ev_goes {n : Nat} (hn : 40 < n) {σ : Mem} {W q : Nat} (hs : σ.1 47 60 = nI (W + 1)) (hW : W < 8) (hq : q ≤ W) :
    ∃ σ', sp_X6_goes n σ 41 (nI q) = some ((), σ') ∧ σ'.2 = σ.2 ∧ (∀ a b, a ≠ 47 → σ'.1 a b = σ.1 a b) ∧ σ'.1 47 60 = nI W ∧ (∀ b, b ≠ 60 → (b < 28 + 4 * q ∨ 28 + 4 * W ≤ b) → σ'.1 47 b = σ.1 47 b) ∧ (∀ b, 28 + 4 * q ≤ b → b < 28 + 4 * W → σ'.1 47 b = σ.1 47 (b + 4)) := by
  unfold sp_X6_goes
  rw [if_pos i60, if_pos i60]
  simp only [rfm_11, c60, lm, hs, nI_pred, ix4]
  obtain ⟨σ', e0, e1, e2, e3, e4⟩ := lp_goes n (σ0 := wi σ 47 60 (nI W)) (a1 := nI q) (l1 := nI q) (q := q) (W := W) (wi_eq rfl rfl) hW hq (4 * W - 4 * q) n (28 + 4 * q) _ (by omega) (by omega) (Nat.le_refl _) rfl (fun _ _ _ => rfl) (fun _ _ => rfl) (fun b h1 h2 => by omega)
  refine ⟨σ', e0, e1, fun a b ha => by rw [e2 a b ha, wi_o (Or.inl ha)], by rw [e3 60 (by omega), wi_eq rfl rfl], fun b hb hb2 => by rw [e3 b hb2, wi_o (Or.inr hb)], fun b h1 h2 => by rw [e4 b h1 h2, wi_o (by omega)]⟩
end
section
/-! PURE. the relation of the class's mine m, in σ, and the model, in τ -/
def RS (σ τ : Mem) (m L : Nat) (W : Nat → Nat) (u : Nat) : Prop :=
  ShM σ m ∧ L ≤ 6 ∧ σ.1 (10 * m + 7) 4 = nI L ∧ τ.1 41 0 = nI L ∧ NW σ m L W ∧ NM τ L W ∧ u ≤ 1000 ∧ σ.1 (10 * m + 7) 5 = nI u ∧ τ.1 41 6 = nI u ∧ σ.1 (10 * m + 7) 6 = τ.1 41 7 ∧
  (∃ v, 1 ≤ v ∧ v ≤ 500 ∧ σ.1 (10 * m + 7) 7 = nI v ∧ τ.1 41 8 = nI v) ∧
  (∀ k, k ≤ L → ∃ d, d ≤ 2000 ∧ σ.1 (10 * m + k) 0 = nI d ∧ τ.1 42 k = nI d) ∧
  (∀ k, 1 ≤ k → k ≤ L → (∃ z, 1 ≤ z ∧ z ≤ 500 ∧ σ.1 (10 * m + k) 1 = nI z ∧ τ.1 43 k = nI z) ∧ σ.1 (10 * m + k) 3 = τ.1 45 k ∧ (∃ w, 1 ≤ w ∧ w ≤ 20 ∧ σ.1 (10 * m + k) 2 = nI w ∧ τ.1 44 k = nI w) ∧ σ.1 (10 * m + k) 4 = τ.1 46 k ∧ σ.1 (10 * m + k) 5 = nI (airN W L u k)) ∧
  ∀ k, k < 7 → σ.1 (10 * m + k) 4 = 0 ∨ σ.1 (10 * m + k) 4 = 1
def RG (σ τ : Mem) (m : Nat) : Prop := ∀ k, k < 7 → σ.1 (10 * m + k) 7 = τ.1 47 k ∧ σ.1 (10 * m + k) 8 = τ.1 47 (7 + k) ∧ σ.1 (10 * m + k) 9 = τ.1 47 (14 + k) ∧ σ.1 (10 * m + k) 10 = τ.1 47 (21 + k)
def RK (σ τ : Mem) (m L N : Nat) : Prop :=
  σ.1 (10 * m + 7) 8 = τ.1 47 61 ∧ σ.1 (10 * m + 7) 9 = τ.1 47 70 ∧ σ.1 (10 * m + 7) 10 = τ.1 47 71 ∧ σ.1 (10 * m + 7) 11 = nI N ∧ τ.1 41 9 = nI N ∧ (∃ c, c ≤ L ∧ σ.1 (10 * m + 7) 12 = nI c ∧ τ.1 47 62 = nI c) ∧ σ.1 (10 * m + 7) 13 = τ.1 47 68 ∧ σ.1 (10 * m + 7) 14 = τ.1 47 69
def kd4 (c : Int32) : Prop := c = 100 ∨ c = 117 ∨ c = 111 ∨ c = 102
def RT (σ τ : Mem) (m L : Nat) : Prop :=
  σ.1 (10 * m + 8) 0 = τ.1 47 63 ∧ σ.1 (10 * m + 8) 4 = τ.1 47 67 ∧ (σ.1 (10 * m + 8) 0 = 45 ∨ kd4 (σ.1 (10 * m + 8) 0)) ∧
  (σ.1 (10 * m + 8) 0 = 45 → σ.1 (10 * m + 8) 2 = 0 ∧ σ.1 (10 * m + 8) 4 = -1 ∧ σ.1 (10 * m + 7) 15 = τ.1 47 72) ∧
  (σ.1 (10 * m + 8) 0 ≠ 45 → (∃ k, 1 ≤ k ∧ k ≤ L ∧ σ.1 (10 * m + 8) 1 = nI k ∧ τ.1 47 64 = nI k) ∧ σ.1 (10 * m + 8) 2 = τ.1 47 65 ∧ (∃ z, 1 ≤ z ∧ z ≤ 10000 ∧ σ.1 (10 * m + 8) 3 = nI z ∧ τ.1 47 66 = nI z) ∧ τ.1 47 72 = σ.1 (10 * m + 8) 4)
/-- a request's number, or none -/
def nO (N : Nat) (x : Int32) : Prop := x = -1 ∨ ∃ r, r < N ∧ x = nI r
def RQ (σ τ : Mem) (m L N Q : Nat) : Prop :=
  Q ≤ 8 ∧ N < 90000 ∧ σ.1 (10 * m + 9) 1 = nI Q ∧ τ.1 47 60 = nI Q ∧
  (∀ p, p < Q → (∃ r, r < N ∧ σ.1 (rw_ σ m p) 0 = nI r ∧ τ.1 47 (28 + 4 * p) = nI r) ∧ σ.1 (rw_ σ m p) 1 = τ.1 47 (29 + 4 * p) ∧ (σ.1 (rw_ σ m p) 1 = 100 ∨ σ.1 (rw_ σ m p) 1 = 117 ∨ σ.1 (rw_ σ m p) 1 = 111) ∧ (∃ k, 1 ≤ k ∧ k ≤ L ∧ σ.1 (rw_ σ m p) 2 = nI k ∧ τ.1 47 (30 + 4 * p) = nI k) ∧ (σ.1 (rw_ σ m p) 1 = 111 → σ.1 (rw_ σ m p) 3 = 20) ∧ (σ.1 (rw_ σ m p) 1 ≠ 111 → σ.1 (rw_ σ m p) 3 = τ.1 47 (31 + 4 * p))) ∧
  (∀ p q, p < Q → q < Q → p ≠ q → σ.1 (rw_ σ m p) 0 ≠ σ.1 (rw_ σ m q) 0) ∧
  nO N (σ.1 (10 * m + 8) 4) ∧ nO N (σ.1 (10 * m + 7) 15) ∧ (∀ p, p < Q → σ.1 (rw_ σ m p) 0 ≠ σ.1 (10 * m + 8) 4 ∧ σ.1 (rw_ σ m p) 0 ≠ σ.1 (10 * m + 7) 15) ∧ (σ.1 (10 * m + 7) 15 = σ.1 (10 * m + 8) 4 → σ.1 (10 * m + 7) 15 = -1) ∧
  ∀ p, p < 8 → 0 ≤ σ.1 (rw_ σ m p) 1 ∧ σ.1 (rw_ σ m p) 1 ≤ 65535
/-- the people of the trip -/
def onT (σ : Mem) (m : Nat) : Int32 := if σ.1 (10 * m + 8) 0 = 111 then 0 else σ.1 (10 * m + 8) 2
def RP (σ τ : Mem) (m L : Nat) : Prop := acc (onT σ m + σ.1 (10 * m) 8) (fun k => σ.1 (10 * m + k) 8) L = τ.1 41 10 ∧ ∀ k, L < k → k < 7 → σ.1 (10 * m + k) 8 = 0
def RB (σ : Mem) (m L : Nat) : Prop := acc (σ.1 (10 * m + 7) 10) (fun k => σ.1 (10 * m + k) 7) L = σ.1 (10 * m + 7) 9 ∧ ∀ k, L < k → k < 7 → σ.1 (10 * m + k) 7 = 0
def RR (σ τ : Mem) (m L : Nat) (W : Nat → Nat) (u N Q : Nat) : Prop := RS σ τ m L W u ∧ RG σ τ m ∧ RK σ τ m L N ∧ RT σ τ m L ∧ RQ σ τ m L N Q ∧ RP σ τ m L ∧ RB σ m L
/-! from one memory to another -/
theorem RS.to {σ τ σ' τ' : Mem} {m m' L : Nat} {W : Nat → Nat} {u : Nat} (h : RS σ τ m L W u) (hs : ShM σ' m') (h1 : ∀ k b, k ≤ 6 → b < 6 → σ'.1 (10 * m' + k) b = σ.1 (10 * m + k) b) (h2 : ∀ b, 4 ≤ b → b < 8 → σ'.1 (10 * m' + 7) b = σ.1 (10 * m + 7) b) (h3 : ∀ a b, a = 41 ∧ b < 9 ∨ 42 ≤ a ∧ a ≤ 46 → τ'.1 a b = τ.1 a b) : RS σ' τ' m' L W u := by
  obtain ⟨a1, a2, a3, a4, a5, a6, a7, a8, a9, a10, a11, a12, a13, a14⟩ := h
  refine ⟨hs, a2, ?_, ?_, ?_, ?_, a7, ?_, ?_, ?_, ?_, ?_, ?_, ?_⟩
  · rw [h2 4 (by omega) (by omega)]; exact a3
  · rw [h3 41 0 (by omega)]; exact a4
  · intro k k1 k2
    unfold owC
    rw [h1 k 4 (by omega) (by omega), h1 k 2 (by omega) (by omega)]
    exact a5 k k1 k2
  · intro k k1 k2
    rw [h3 46 k (by omega), h3 44 k (by omega)]
    exact a6 k k1 k2
  · rw [h2 5 (by omega) (by omega)]; exact a8
  · rw [h3 41 6 (by omega)]; exact a9
  · rw [h2 6 (by omega) (by omega), h3 41 7 (by omega)]; exact a10
  · rw [h2 7 (by omega) (by omega), h3 41 8 (by omega)]; exact a11
  · intro k k1
    rw [h1 k 0 (by omega) (by omega), h3 42 k (by omega)]
    exact a12 k k1
  · intro k k1 k2
    rw [h1 k 1 (by omega) (by omega), h1 k 2 (by omega) (by omega), h1 k 3 (by omega) (by omega), h1 k 4 (by omega) (by omega), h1 k 5 (by omega) (by omega), h3 43 k (by omega), h3 44 k (by omega), h3 45 k (by omega), h3 46 k (by omega)]
    exact a13 k k1 k2
  · intro k k1
    rw [h1 k 4 (by omega) (by omega)]
    exact a14 k k1
theorem RG.to {σ τ σ' τ' : Mem} {m m' : Nat} (h : RG σ τ m) (h1 : ∀ k b, k ≤ 6 → 7 ≤ b → b ≤ 10 → σ'.1 (10 * m' + k) b = σ.1 (10 * m + k) b) (h3 : ∀ b, b < 28 → τ'.1 47 b = τ.1 47 b) : RG σ' τ' m' := by
  intro k hk
  rw [h1 k 7 (by omega) (by omega) (by omega), h1 k 8 (by omega) (by omega) (by omega), h1 k 9 (by omega) (by omega) (by omega), h1 k 10 (by omega) (by omega) (by omega), h3 k (by omega), h3 (7 + k) (by omega), h3 (14 + k) (by omega), h3 (21 + k) (by omega)]
  exact h k hk
theorem RK.to {σ τ σ' τ' : Mem} {m m' L N : Nat} (h : RK σ τ m L N) (h1 : ∀ b, 8 ≤ b → b ≤ 14 → σ'.1 (10 * m' + 7) b = σ.1 (10 * m + 7) b) (h3 : ∀ b, b = 61 ∨ b = 62 ∨ b = 68 ∨ b = 69 ∨ b = 70 ∨ b = 71 → τ'.1 47 b = τ.1 47 b) (h4 : τ'.1 41 9 = τ.1 41 9) : RK σ' τ' m' L N := by
  unfold RK
  rw [h1 8 (by omega) (by omega), h1 9 (by omega) (by omega), h1 10 (by omega) (by omega), h1 11 (by omega) (by omega), h1 12 (by omega) (by omega), h1 13 (by omega) (by omega), h1 14 (by omega) (by omega), h3 61 (by omega), h3 62 (by omega), h3 68 (by omega), h3 69 (by omega), h3 70 (by omega), h3 71 (by omega), h4]
  exact h
theorem RT.to {σ τ σ' τ' : Mem} {m m' L : Nat} (h : RT σ τ m L) (h1 : ∀ b, b < 5 → σ'.1 (10 * m' + 8) b = σ.1 (10 * m + 8) b) (h2 : σ'.1 (10 * m' + 7) 15 = σ.1 (10 * m + 7) 15) (h3 : ∀ b, 63 ≤ b → b ≤ 67 → τ'.1 47 b = τ.1 47 b) (h4 : τ'.1 47 72 = τ.1 47 72) : RT σ' τ' m' L := by
  unfold RT
  rw [h1 0 (by omega), h1 1 (by omega), h1 2 (by omega), h1 3 (by omega), h1 4 (by omega), h2, h3 63 (by omega) (by omega), h3 64 (by omega) (by omega), h3 65 (by omega) (by omega), h3 66 (by omega) (by omega), h3 67 (by omega) (by omega), h4]
  exact h
theorem RQ.to {σ τ σ' τ' : Mem} {m m' L N Q : Nat} (h : RQ σ τ m L N Q) (h0 : σ'.1 (10 * m' + 9) 1 = σ.1 (10 * m + 9) 1) (h1 : ∀ p b, p < 8 → b < 4 → σ'.1 (rw_ σ' m' p) b = σ.1 (rw_ σ m p) b) (h2 : σ'.1 (10 * m' + 7) 15 = σ.1 (10 * m + 7) 15) (h4 : σ'.1 (10 * m' + 8) 4 = σ.1 (10 * m + 8) 4) (h3 : ∀ b, 28 ≤ b → b ≤ 60 → τ'.1 47 b = τ.1 47 b) : RQ σ' τ' m' L N Q := by
  obtain ⟨a1, a2, a3, a4, a5, a6, a7, a8, a9, a10, a11⟩ := h
  refine ⟨a1, a2, by rw [h0]; exact a3, by rw [h3 60 (by omega) (by omega)]; exact a4, fun p hp => ?_, fun p q hp hq => ?_, by rw [h4]; exact a7, by rw [h2]; exact a8, fun p hp => ?_, by rw [h2, h4]; exact a10, fun p hp => ?_⟩
  · rw [h1 p 0 (by omega) (by omega), h1 p 1 (by omega) (by omega), h1 p 2 (by omega) (by omega), h1 p 3 (by omega) (by omega), h3 (28 + 4 * p) (by omega) (by omega), h3 (29 + 4 * p) (by omega) (by omega), h3 (30 + 4 * p) (by omega) (by omega), h3 (31 + 4 * p) (by omega) (by omega)]
    exact a5 p hp
  · rw [h1 p 0 (by omega) (by omega), h1 q 0 (by omega) (by omega)]
    exact a6 p q hp hq
  · rw [h1 p 0 (by omega) (by omega), h2, h4]
    exact a9 p hp
  · rw [h1 p 1 (by omega) (by omega)]
    exact a11 p hp
theorem RP.to {σ τ σ' τ' : Mem} {m m' L : Nat} (h : RP σ τ m L) (hL : L ≤ 6) (h1 : ∀ k, k ≤ 6 → σ'.1 (10 * m' + k) 8 = σ.1 (10 * m + k) 8) (h2 : onT σ' m' = onT σ m) (h3 : τ'.1 41 10 = τ.1 41 10) : RP σ' τ' m' L := by
  refine ⟨?_, fun k k1 k2 => by rw [h1 k (by omega)]; exact h.2 k k1 k2⟩
  have e0 : σ'.1 (10 * m') 8 = σ.1 (10 * m) 8 := h1 0 (by omega)
  rw [h2, h3, e0, ← h.1]
  exact acc_cong (fun k k1 k2 => h1 k (by omega))
theorem RB.to {σ σ' : Mem} {m m' L : Nat} (h : RB σ m L) (hL : L ≤ 6) (h1 : ∀ k, k ≤ 6 → σ'.1 (10 * m' + k) 7 = σ.1 (10 * m + k) 7) (h2 : σ'.1 (10 * m' + 7) 9 = σ.1 (10 * m + 7) 9) (h3 : σ'.1 (10 * m' + 7) 10 = σ.1 (10 * m + 7) 10) : RB σ' m' L := by
  refine ⟨?_, fun k k1 k2 => by rw [h1 k (by omega)]; exact h.2 k k1 k2⟩
  rw [h2, h3, ← h.1]
  exact acc_cong (fun k k1 k2 => h1 k (by omega))
theorem onT_cong {σ σ' : Mem} {m m' : Nat} (h0 : σ'.1 (10 * m' + 8) 0 = σ.1 (10 * m + 8) 0) (h2 : σ'.1 (10 * m' + 8) 2 = σ.1 (10 * m + 8) 2) : onT σ' m' = onT σ m := by
  unfold onT
  rw [h0, h2]
/-! what a class's op or a model's op may touch -/
def FrC (σ σ' : Mem) (m : Nat) : Prop := (∀ a b, (a < 10 * m ∨ 10 * m + 9 < a) → (a < 20 + 8 * m ∨ 27 + 8 * m < a) → σ'.1 a b = σ.1 a b) ∧ ∀ a, a ≠ 38 + m → σ'.2 a = σ.2 a
def FrM (τ τ' : Mem) : Prop := (∀ a b, a ≠ 47 → τ'.1 a b = τ.1 a b) ∧ τ'.2 = τ.2
theorem FrC.rfl' (σ : Mem) (m : Nat) : FrC σ σ m := ⟨fun _ _ _ _ => rfl, fun _ _ => rfl⟩
theorem FrC.trans {σ σ1 σ2 : Mem} {m : Nat} (h : FrC σ σ1 m) (g : FrC σ1 σ2 m) : FrC σ σ2 m := ⟨fun a b h1 h2 => (g.1 a b h1 h2).trans (h.1 a b h1 h2), fun a ha => (g.2 a ha).trans (h.2 a ha)⟩
theorem FrM.rfl' (σ : Mem) : FrM σ σ := ⟨fun _ _ _ => rfl, rfl⟩
theorem FrM.trans {σ σ1 σ2 : Mem} (h : FrM σ σ1) (g : FrM σ1 σ2) : FrM σ σ2 := ⟨fun a b h1 => (g.1 a b h1).trans (h.1 a b h1), g.2.trans h.2⟩
/-! share, alarm, closed -/
def shC (σ : Mem) (m k : Nat) : Int32 := (1000 * σ.1 (10 * m + k) 7) / σ.1 (10 * m + k) 1
def alC (σ : Mem) (m k : Nat) : Int32 := if shC σ m k < σ.1 (10 * m + 7) 6 then 0 else 1
def cdC (σ : Mem) (m k : Nat) : Int32 := if σ.1 (10 * m + k) 10 ≤ σ.1 (10 * m + 7) 8 then 0 else 1
theorem RS.lv {σ τ : Mem} {m L : Nat} {W : Nat → Nat} {u : Nat} (h : RS σ τ m L W u) : L ≤ 6 := h.2.1
theorem RS.sh {σ τ : Mem} {m L : Nat} {W : Nat → Nat} {u : Nat} (h : RS σ τ m L W u) : ShM σ m := h.1
theorem RS.m2 {σ τ : Mem} {m L : Nat} {W : Nat → Nat} {u : Nat} (h : RS σ τ m L W u) : m < 2 := h.1.1
theorem RS.c4 {σ τ : Mem} {m L : Nat} {W : Nat → Nat} {u : Nat} (h : RS σ τ m L W u) : σ.1 (10 * m + 7) 4 = nI L := h.2.2.1
theorem RS.t0 {σ τ : Mem} {m L : Nat} {W : Nat → Nat} {u : Nat} (h : RS σ τ m L W u) : τ.1 41 0 = nI L := h.2.2.2.1
theorem RS.lim {σ τ : Mem} {m L : Nat} {W : Nat → Nat} {u : Nat} (h : RS σ τ m L W u) : σ.1 (10 * m + 7) 6 = τ.1 41 7 := h.2.2.2.2.2.2.2.2.2.1
theorem RS.spd {σ τ : Mem} {m L : Nat} {W : Nat → Nat} {u : Nat} (h : RS σ τ m L W u) : ∃ v, 1 ≤ v ∧ v ≤ 500 ∧ σ.1 (10 * m + 7) 7 = nI v ∧ τ.1 41 8 = nI v := h.2.2.2.2.2.2.2.2.2.2.1
theorem RS.dep {σ τ : Mem} {m L : Nat} {W : Nat → Nat} {u : Nat} (h : RS σ τ m L W u) {k : Nat} (hk : k ≤ L) : ∃ d, d ≤ 2000 ∧ σ.1 (10 * m + k) 0 = nI d ∧ τ.1 42 k = nI d := h.2.2.2.2.2.2.2.2.2.2.2.1 k hk
theorem RS.row {σ τ : Mem} {m L : Nat} {W : Nat → Nat} {u : Nat} (h : RS σ τ m L W u) {k : Nat} (h1 : 1 ≤ k) (h2 : k ≤ L) : (∃ z, 1 ≤ z ∧ z ≤ 500 ∧ σ.1 (10 * m + k) 1 = nI z ∧ τ.1 43 k = nI z) ∧ σ.1 (10 * m + k) 3 = τ.1 45 k ∧ (∃ w, 1 ≤ w ∧ w ≤ 20 ∧ σ.1 (10 * m + k) 2 = nI w ∧ τ.1 44 k = nI w) ∧ σ.1 (10 * m + k) 4 = τ.1 46 k ∧ σ.1 (10 * m + k) 5 = nI (airN W L u k) := h.2.2.2.2.2.2.2.2.2.2.2.2.1 k h1 h2
theorem RS.siz {σ τ : Mem} {m L : Nat} {W : Nat → Nat} {u : Nat} (h : RS σ τ m L W u) {k : Nat} (h1 : 1 ≤ k) (h2 : k ≤ L) : σ.1 (10 * m + k) 1 = τ.1 43 k := by
  obtain ⟨z, -, -, e1, e2⟩ := (h.row h1 h2).1
  rw [e1, e2]
theorem ev_share (n : Nat) {σ : Mem} {m k z : Nat} (h1 : 1 ≤ z) (h2 : z ≤ 500) (hz : σ.1 (10 * m + k) 1 = nI z) : sp_X0_share n σ (10 * m + k) = some (shC σ m k, σ) := by
  unfold sp_X0_share shC
  rw [if_neg (by rw [hz, n0, le_nI (by omega) (by omega)]; omega), if_pos (by rw [hz, n0, eq_nI (by omega) (by omega)]; omega)]
theorem RS.share {σ τ : Mem} {m L : Nat} {W : Nat → Nat} {u : Nat} (h : RS σ τ m L W u) (n : Nat) {k : Nat} (h1 : 1 ≤ k) (h2 : k ≤ L) : sp_X0_share n σ (10 * m + k) = some (shC σ m k, σ) := by
  obtain ⟨z, z1, z2, z3, z4⟩ := (h.row h1 h2).1
  exact ev_share n z1 z2 z3
theorem RS.shareM {σ τ : Mem} {m L : Nat} {W : Nat → Nat} {u : Nat} (h : RS σ τ m L W u) (hg : RG σ τ m) (n : Nat) {k : Nat} (h1 : 1 ≤ k) (h2 : k ≤ L) : sp_X6_share n τ 41 (nI k) = some (shC σ m k, τ) := by
  obtain ⟨z, z1, z2, z3, z4⟩ := (h.row h1 h2).1
  have hL := h.lv
  unfold sp_X6_share
  simp only [ix_0 (show k < 73 by omega)]
  rw [if_pos (inR_nI (by omega) (by omega)), if_pos (inR_nI (by omega) (by omega))]
  simp only [nI_cl (show k < 100000 by omega), rfm_2, rfm_11]
  rw [if_pos (by rw [z4, n0, eq_nI (by omega) (by omega)]; omega)]
  unfold shC
  rw [(hg k (by omega)).1, z3, z4]
theorem RS.alarm {σ τ : Mem} {m L : Nat} {W : Nat → Nat} {u : Nat} (h : RS σ τ m L W u) (n : Nat) {k : Nat} (h1 : 1 ≤ k) (h2 : k ≤ L) : sp_X1_hasAlarm n σ (10 * m + 7) (10 * m + k) = some (alC σ m k, σ) := by
  unfold sp_X1_hasAlarm
  rw [h.share n h1 h2]
  simp only [Option.bind_some]
  unfold alC
  split <;> rfl
theorem RS.alarmM {σ τ : Mem} {m L : Nat} {W : Nat → Nat} {u : Nat} (h : RS σ τ m L W u) (hg : RG σ τ m) (n : Nat) {k : Nat} (h1 : 1 ≤ k) (h2 : k ≤ L) : sp_X6_alarms n τ 41 (nI k) = some (alC σ m k, τ) := by
  unfold sp_X6_alarms
  rw [h.shareM hg n h1 h2]
  simp only [Option.bind_some]
  unfold alC
  rw [h.lim]
  split <;> rfl
theorem ev_isShut (n : Nat) (σ : Mem) (m k : Nat) : sp_X1_isShut n σ (10 * m + 7) (10 * m + k) = some (cdC σ m k, σ) := by
  unfold sp_X1_isShut cdC
  split <;> rfl
theorem c61 : (61 : Int32).toNatClampNeg = 61 := by decide
theorem i61 : inR (61 : Int32) 73 := by decide
theorem ix7 (k : Nat) : (7 : Int32) + nI k = nI (7 + k) := by rw [n7, add_nI]
theorem ix14 (k : Nat) : (14 : Int32) + nI k = nI (14 + k) := by rw [show (14 : Int32) = nI 14 from rfl, add_nI]
theorem ix21 (k : Nat) : (21 : Int32) + nI k = nI (21 + k) := by rw [show (21 : Int32) = nI 21 from rfl, add_nI]
theorem ev_closedM (n : Nat) {σ τ : Mem} {m L N : Nat} (hg : RG σ τ m) (hk' : RK σ τ m L N) {k : Nat} (hk : k < 7) : sp_X6_closed n τ 41 (nI k) = some (cdC σ m k, τ) := by
  unfold sp_X6_closed
  simp only [ix21]
  rw [if_pos i61, if_pos (inR_nI (by omega) (by omega))]
  simp only [nI_cl (show 21 + k < 100000 by omega), rfm_11, c61]
  unfold cdC
  rw [(hg k hk).2.2.2, hk'.1]
  split <;> rfl
end
section
/-! PURE. a trip begins and ends, of either system -/
def abN (d e : Nat) : Nat := (d - e) + (e - d)
theorem abs_nI {d e : Nat} (hd : d ≤ 2000) (he : e ≤ 2000) : (if 0 ≤ nI d - nI e then nI d - nI e else 0 - (nI d - nI e)) = nI (abN d e) := by
  unfold abN
  by_cases h : e ≤ d
  · rw [pk_sub h, if_pos (nI_pos' (by omega)), show (d - e) + (e - d) = d - e by omega]
  · have h1 : nI d - nI e < 0 := pk_sneg (by omega) (by omega)
    rw [if_neg (Int32.not_le.mpr h1), Int32.zero_sub, Int32.neg_sub, pk_sub (by omega), show (d - e) + (e - d) = e - d by omega]
def wyN (v d e : Nat) : Nat := (abN d e + v - 1) / v
theorem wyN_le {v d e : Nat} (hv : 1 ≤ v) (hd : d ≤ 2000) (he : e ≤ 2000) : wyN v d e ≤ 2000 := by
  unfold wyN abN
  apply Nat.div_le_of_le_mul
  have : v * 2000 = v * 1999 + v := by omega
  have h2 : 1 * 1999 ≤ v * 1999 := Nat.mul_le_mul hv (Nat.le_refl _)
  by_cases h : e = d
  · omega
  · omega
theorem ev_way (n : Nat) {σ : Mem} {m a b v d e : Nat} (hv : 1 ≤ v) (hv2 : v ≤ 500) (hd : d ≤ 2000) (he : e ≤ 2000) (h7 : σ.1 (10 * m + 7) 7 = nI v) (ha : σ.1 (10 * m + a) 0 = nI d) (hb : σ.1 (10 * m + b) 0 = nI e) : sp_X1_way n σ (10 * m + 7) (10 * m + a) (10 * m + b) = some (nI (wyN v d e), σ) := by
  unfold sp_X1_way
  have hab : abN d e ≤ 4000 := by unfold abN; omega
  rw [h7, ha, hb, abs_nI hd he, if_neg (by rw [n0, le_nI (by omega) (by omega)]; omega), if_pos (by rw [n0, eq_nI (by omega) (by omega)]; omega), add_nI, n1, pk_sub (by omega), pk_div (by omega) (by omega) (by omega)]
  rfl
theorem ev_wayM (n : Nat) {τ : Mem} {a b v d e : Nat} (ha7 : a < 7) (hb7 : b < 7) (hv : 1 ≤ v) (hv2 : v ≤ 500) (hd : d ≤ 2000) (he : e ≤ 2000) (h7 : τ.1 41 8 = nI v) (ha : τ.1 42 a = nI d) (hb : τ.1 42 b = nI e) : sp_X6_way n τ 41 (nI a) (nI b) = some (nI (wyN v d e), τ) := by
  unfold sp_X6_way
  have hab : abN d e ≤ 4000 := by unfold abN; omega
  rw [if_pos (inR_nI (by omega) (by omega)), if_pos (inR_nI (by omega) (by omega))]
  simp only [nI_cl (show a < 100000 by omega), nI_cl (show b < 100000 by omega), rfm_1]
  rw [h7, ha, hb, abs_nI hd he, if_pos (by rw [n0, eq_nI (by omega) (by omega)]; omega), add_nI, n1, pk_sub (by omega), pk_div (by omega) (by omega) (by omega)]
  rfl
/-- the slot of what a trip carries: class, model -/
def slC (c : Int32) : Nat := if c = 111 then 9 else 8
def slM (c : Int32) : Nat := if c = 111 then 14 else 7
theorem ev_carry (n : Nat) (σ : Mem) (o : Nat) (c y : Int32) : sp_X1_carry n σ o c y = some ((), wi σ o (slC c) (σ.1 o (slC c) + y)) := by
  unfold sp_X1_carry slC
  by_cases h : c = 111
  · rw [if_pos h, if_pos h]
    rfl
  · rw [if_neg h, if_neg h]
    rfl
theorem slC_le (c : Int32) : 8 ≤ slC c ∧ slC c ≤ 9 := by
  unfold slC
  split <;> omega
theorem slM_le (c : Int32) : slM c = slC c * 7 - 49 := by
  unfold slC slM
  split <;> rfl
theorem kd_ch {c : Int32} (h : c = 45 ∨ kd4 c) : 0 ≤ c ∧ c ≤ 65535 := by
  rcases h with h | h | h | h | h <;> subst h <;> decide
theorem rfe_3 {m : Nat} (hm : m < 2) : rf (10 * m + 7) 3 = 10 * m + 8 := rf_3 hm
theorem ev_set (n : Nat) (σ : Mem) (o : Nat) {c : Int32} (hc : c = 45 ∨ kd4 c) (l y r q : Int32) : sp_X3_set n σ o c l y r q = some ((), wi (wi (wi (wi (wi σ o 0 c) o 1 l) o 2 y) o 3 r) o 4 q) := by
  unfold sp_X3_set
  rw [if_pos (kd_ch hc)]
  rfl
/-- the level a trip starts from, the level it goes to -/
def fr_ (c : Int32) (k : Nat) : Nat := if c = 100 then 0 else k
def to_ (c : Int32) (k : Nat) : Nat := if c = 100 then k else 0
theorem fr_le (c : Int32) (k : Nat) : fr_ c k ≤ k := by
  unfold fr_
  split <;> omega
theorem to_le (c : Int32) (k : Nat) : to_ c k ≤ k := by
  unfold to_
  split <;> omega
theorem ev_begin38 (n : Nat) {σ : Mem} {m c0 k kt v dc df dt : Nat} {c y q : Int32} {a1 a2 a3 a4 : Int32} {kk : Int32} (hsh : ShM σ m) (hc : kd4 c) (hc0 : c0 < 7) (hcage : σ.1 (10 * m + 7) 12 = nI c0) (hv : 1 ≤ v) (hv2 : v ≤ 500) (h7 : σ.1 (10 * m + 7) 7 = nI v) (h1 : dc ≤ 2000) (h2 : df ≤ 2000) (h3 : dt ≤ 2000) (g1 : σ.1 (10 * m + c0) 0 = nI dc) (g2 : σ.1 (10 * m + k) 0 = nI df) (g3 : σ.1 (10 * m + kt) 0 = nI dt) :
    lp_X1_beginTrip_38 n (10 * m + 7) a1 a2 a3 a4 σ c kk y q (10 * m + k) (10 * m + kt) = some ((), wi (wi (wi (wi (wi (wi σ (10 * m + k) (slC c) (σ.1 (10 * m + k) (slC c) + -y)) (10 * m + 8) 0 c) (10 * m + 8) 1 kk) (10 * m + 8) 2 y) (10 * m + 8) 3 (nI (1 + wyN v dc df + wyN v df dt))) (10 * m + 8) 4 q) := by
  unfold lp_X1_beginTrip_38
  rw [hcage, ev_place n hsh hc0]
  simp only [Option.bind_some]
  rw [if_pos (ok_lv hsh.1 hc0), ev_way n hv hv2 h1 h2 h7 g1 g2]
  simp only [Option.bind_some]
  rw [ev_way n hv hv2 h2 h3 h7 g2 g3]
  simp only [Option.bind_some]
  rw [ev_carry]
  simp only [Option.bind_some]
  rw [rf_3 hsh.1, ev_set n _ _ (Or.inr hc)]
  simp only [Option.bind_some]
  rw [n1, add_nI, add_nI]
theorem ev_beginTrip (n : Nat) {σ : Mem} {m c0 k v dc df dt : Nat} {c y q : Int32} (hsh : ShM σ m) (hc : kd4 c) (hc0 : c0 < 7) (hk : k < 7) (hcage : σ.1 (10 * m + 7) 12 = nI c0) (hv : 1 ≤ v) (hv2 : v ≤ 500) (h7 : σ.1 (10 * m + 7) 7 = nI v) (h1 : dc ≤ 2000) (h2 : df ≤ 2000) (h3 : dt ≤ 2000) (g1 : σ.1 (10 * m + c0) 0 = nI dc) (g2 : σ.1 (10 * m + fr_ c k) 0 = nI df) (g3 : σ.1 (10 * m + to_ c k) 0 = nI dt) :
    sp_X1_beginTrip n σ (10 * m + 7) c (nI k) y q = some ((), wi (wi (wi (wi (wi (wi σ (10 * m + fr_ c k) (slC c) (σ.1 (10 * m + fr_ c k) (slC c) + -y)) (10 * m + 8) 0 c) (10 * m + 8) 1 (nI k)) (10 * m + 8) 2 y) (10 * m + 8) 3 (nI (1 + wyN v dc df + wyN v df dt))) (10 * m + 8) 4 q) := by
  unfold sp_X1_beginTrip
  by_cases h : c = 100
  · rw [show fr_ c k = 0 from if_pos h] at *
    rw [show to_ c k = k from if_pos h] at *
    rw [if_pos h]
    unfold lp_X1_beginTrip_18
    rw [if_pos h, ev_place n hsh hk]
    simp only [Option.bind_some]
    rw [if_pos (ok_lv hsh.1 hk), rf_0 hsh.1]
    exact ev_begin38 n (k := 0) (kt := k) hsh hc hc0 hcage hv hv2 h7 h1 h2 h3 g1 g2 g3
  · rw [show fr_ c k = k from if_neg h] at *
    rw [show to_ c k = 0 from if_neg h] at *
    rw [if_neg h, ev_place n hsh hk]
    simp only [Option.bind_some]
    rw [if_pos (ok_lv hsh.1 hk)]
    unfold lp_X1_beginTrip_18
    rw [if_neg h, rf_0 hsh.1]
    exact ev_begin38 n (k := k) (kt := 0) hsh hc hc0 hcage hv hv2 h7 h1 h2 h3 g1 g2 g3
theorem ix62 : (62 : Int32).toNatClampNeg = 62 := by decide
theorem ix63 : (63 : Int32).toNatClampNeg = 63 := by decide
theorem ix64 : (64 : Int32).toNatClampNeg = 64 := by decide
theorem ix65 : (65 : Int32).toNatClampNeg = 65 := by decide
theorem ix66 : (66 : Int32).toNatClampNeg = 66 := by decide
theorem ix67 : (67 : Int32).toNatClampNeg = 67 := by decide
theorem ix68 : (68 : Int32).toNatClampNeg = 68 := by decide
theorem ix69 : (69 : Int32).toNatClampNeg = 69 := by decide
theorem ix72 : (72 : Int32).toNatClampNeg = 72 := by decide
theorem i62 : inR (62 : Int32) 73 := by decide
theorem i63 : inR (63 : Int32) 73 := by decide
theorem i64 : inR (64 : Int32) 73 := by decide
theorem i65 : inR (65 : Int32) 73 := by decide
theorem i66 : inR (66 : Int32) 73 := by decide
theorem i67 : inR (67 : Int32) 73 := by decide
theorem i68 : inR (68 : Int32) 73 := by decide
theorem i69 : inR (69 : Int32) 73 := by decide
theorem i72 : inR (72 : Int32) 73 := by decide
/-- the model's memory behind begins -/
def bgM (τ : Mem) (c : Int32) (k f : Nat) (y q r : Int32) : Mem :=
  wi (wi (wi (wi (wi (wi (wi τ 47 63 c) 47 64 (nI k)) 47 65 y) 47 67 q) 47 72 q) 47 66 r) 47 (slM c + f) (τ.1 47 (slM c + f) - y)
theorem ev_begins24 (n : Nat) {τ : Mem} {c0 k f t v dc df dt : Nat} {c y q : Int32} {a1 a2 a3 a4 : Int32} (hc0 : c0 < 7) (hf : f < 7) (ht : t < 7) (hcage : τ.1 47 62 = nI c0) (hv : 1 ≤ v) (hv2 : v ≤ 500) (h7 : τ.1 41 8 = nI v) (h1 : dc ≤ 2000) (h2 : df ≤ 2000) (h3 : dt ≤ 2000) (g1 : τ.1 42 c0 = nI dc) (g2 : τ.1 42 f = nI df) (g3 : τ.1 42 t = nI dt) :
    lp_X6_begins_24 n 41 a1 a2 a3 a4 τ c (nI k) y q (nI f) (nI t) = some ((), bgM τ c k f y q (nI (1 + wyN v dc df + wyN v df dt))) := by
  unfold lp_X6_begins_24
  simp only [lm, rfm_11, ix62, ix63, ix64, ix65, ix66, ix67, ix72]
  rw [if_pos i63, if_pos i64, if_pos i65, if_pos i67, if_pos i72, if_pos i62]
  have o : ∀ (a b : Nat), a ≠ 47 ∨ b < 63 → (wi (wi (wi (wi (wi τ 47 63 c) 47 64 (nI k)) 47 65 y) 47 67 q) 47 72 q).1 a b = τ.1 a b := fun a b hab => by
    rw [wi_o (by omega), wi_o (by omega), wi_o (by omega), wi_o (by omega), wi_o (by omega)]
  rw [o 47 62 (by omega), hcage, ev_wayM n hc0 hf hv hv2 h1 h2 (by rw [o _ _ (by omega)]; exact h7) (by rw [o _ _ (by omega)]; exact g1) (by rw [o _ _ (by omega)]; exact g2)]
  simp only [Option.bind_some]
  rw [ev_wayM n hf ht hv hv2 h2 h3 (by rw [o _ _ (by omega)]; exact h7) (by rw [o _ _ (by omega)]; exact g2) (by rw [o _ _ (by omega)]; exact g3)]
  simp only [Option.bind_some]
  rw [if_pos i66, n1, add_nI, add_nI]
  unfold lp_X6_begins_116 bgM slM
  by_cases hc : c = 111
  · rw [if_pos hc, if_pos hc, ix14, if_pos (inR_nI (by omega) (by omega)), if_pos (inR_nI (by omega) (by omega))]
    simp only [lm, nI_cl (show 14 + f < 100000 by omega)]
    rw [wi_o (by omega), o _ _ (by omega)]
  · rw [if_neg hc, if_neg hc, ix7, if_pos (inR_nI (by omega) (by omega)), if_pos (inR_nI (by omega) (by omega))]
    simp only [lm, nI_cl (show 7 + f < 100000 by omega)]
    rw [wi_o (by omega), o _ _ (by omega)]
theorem ev_begins (n : Nat) {τ : Mem} {c0 k v dc df dt : Nat} {c y q : Int32} (hc0 : c0 < 7) (hk : k < 7) (hcage : τ.1 47 62 = nI c0) (hv : 1 ≤ v) (hv2 : v ≤ 500) (h7 : τ.1 41 8 = nI v) (h1 : dc ≤ 2000) (h2 : df ≤ 2000) (h3 : dt ≤ 2000) (g1 : τ.1 42 c0 = nI dc) (g2 : τ.1 42 (fr_ c k) = nI df) (g3 : τ.1 42 (to_ c k) = nI dt) :
    sp_X6_begins n τ 41 c (nI k) y q = some ((), bgM τ c k (fr_ c k) y q (nI (1 + wyN v dc df + wyN v df dt))) := by
  unfold sp_X6_begins lp_X6_begins_11
  by_cases h : c = 100
  · rw [show fr_ c k = 0 from if_pos h] at *
    rw [show to_ c k = k from if_pos h] at *
    rw [if_pos h, if_pos h]
    exact ev_begins24 n hc0 (show 0 < 7 by omega) hk hcage hv hv2 h7 h1 h2 h3 g1 g2 g3
  · rw [show fr_ c k = k from if_neg h] at *
    rw [show to_ c k = 0 from if_neg h] at *
    rw [if_neg h, if_neg h]
    exact ev_begins24 n hc0 hk (show 0 < 7 by omega) hcage hv hv2 h7 h1 h2 h3 g1 g2 g3
end
section
/-! PURE. the relation behind a trip's beginning and its end -/
theorem acc_x {f : Nat → Int32} {x d : Int32} : ∀ j, acc (x + d) f j = acc x f j + d
  | 0 => rfl
  | j + 1 => by rw [acc, acc, acc_x j, Int32.add_assoc, Int32.add_assoc, Int32.add_comm d]
theorem acc_upd {f g : Nat → Int32} {x d : Int32} {i : Nat} (hi : g i = f i + d) (h1 : 1 ≤ i) : ∀ {j : Nat}, (∀ k, k ≠ i → k ≤ j → g k = f k) → i ≤ j → acc x g j = acc x f j + d
  | 0, _, h => by omega
  | j + 1, h0, h => by
    rw [acc, acc]
    by_cases e : i = j + 1
    · rw [acc_cong (g := f) (fun k k1 k2 => h0 k (by omega) (by omega)), ← e, hi, Int32.add_assoc]
    · rw [acc_upd hi h1 (j := j) (fun k k1 k2 => h0 k k1 (by omega)) (by omega), h0 (j + 1) (by omega) (by omega), Int32.add_assoc, Int32.add_assoc, Int32.add_comm d]
theorem i_rot (a b c : Int32) : a + b + c = a + c + b := by rw [Int32.add_assoc, Int32.add_comm b, ← Int32.add_assoc]
/-- the people of a mine: the trip's t, the surface's and the levels' -/
def pplS (t : Int32) (f : Nat → Int32) (L : Nat) : Int32 := acc (t + f 0) f L
theorem ppl_upd {f g : Nat → Int32} {t t' d : Int32} {i L : Nat} (h0 : ∀ k, k ≠ i → k ≤ L → g k = f k) (hi : g i = f i + -d) (ht : t' = t + d) (hL : i ≤ L) : pplS t' g L = pplS t f L := by
  unfold pplS
  by_cases e : i = 0
  · subst e
    rw [hi, ht, acc_cong (g := f) (fun k k1 k2 => h0 k (by omega) k2), ← Int32.add_assoc, i_rot t d, Int32.add_assoc _ d, Int32.add_right_neg, Int32.add_zero]
  · rw [acc_upd hi (by omega) h0 hL, h0 0 (by omega) (by omega), ht, i_rot t d, acc_x, Int32.add_assoc, Int32.add_right_neg, Int32.add_zero]
theorem ppl_cong {f g : Nat → Int32} {t : Int32} {L : Nat} (h0 : ∀ k, k ≤ L → g k = f k) : pplS t g L = pplS t f L := by
  unfold pplS
  rw [h0 0 (by omega)]
  exact acc_cong (fun k k1 k2 => h0 k k2)
theorem RP_iff {σ τ : Mem} {m L : Nat} : RP σ τ m L ↔ (pplS (onT σ m) (fun k => σ.1 (10 * m + k) 8) L = τ.1 41 10 ∧ ∀ k, L < k → k < 7 → σ.1 (10 * m + k) 8 = 0) := Iff.rfl
theorem kd_ne {c : Int32} (h : kd4 c) : c ≠ 45 := by
  rcases h with h | h | h | h <;> subst h <;> decide
theorem begin_R {σ τ σ' τ' : Mem} {m L : Nat} {W : Nat → Nat} {u N Q k f r : Nat} {c y q : Int32} (h : RR σ τ m L W u N Q) (hoff : σ.1 (10 * m + 8) 0 = 45) (hc : kd4 c) (hk1 : 1 ≤ k) (hk2 : k ≤ L) (hf : f ≤ L) (hr : 1 ≤ r) (hr2 : r ≤ 10000) (hq : nO N q) (hq1 : ∀ p, p < Q → σ.1 (rw_ σ m p) 0 ≠ q) (hq2 : σ.1 (10 * m + 7) 15 = q → q = -1)
    (e2 : σ'.2 = σ.2) (eo : ∀ a b, (a ≠ 10 * m + f ∨ b ≠ slC c) → a ≠ 10 * m + 8 → σ'.1 a b = σ.1 a b) (es : σ'.1 (10 * m + f) (slC c) = σ.1 (10 * m + f) (slC c) + -y) (t0 : σ'.1 (10 * m + 8) 0 = c) (t1 : σ'.1 (10 * m + 8) 1 = nI k) (t2 : σ'.1 (10 * m + 8) 2 = y) (t3 : σ'.1 (10 * m + 8) 3 = nI r) (t4 : σ'.1 (10 * m + 8) 4 = q)
    (em : τ' = bgM τ c k f y q (nI r)) : RR σ' τ' m L W u N Q := by
  obtain ⟨hS, hG, hK, hT, hQ, hP, hB⟩ := h
  have hL := hS.lv
  have hsl := slC_le c
  have hsm : slM c = 7 ∨ slM c = 14 := by unfold slM; split <;> simp
  have mo : ∀ a b, (a ≠ 47 ∨ ((b < 63 ∨ 67 < b) ∧ b ≠ 72 ∧ b ≠ slM c + f)) → τ'.1 a b = τ.1 a b := by
    intro a b hab
    rw [em]
    unfold bgM
    rw [wi_o (by omega), wi_o (by omega), wi_o (by omega), wi_o (by omega), wi_o (by omega), wi_o (by omega), wi_o (by omega)]
  have ms : τ'.1 47 (slM c + f) = τ.1 47 (slM c + f) - y := by
    rw [em]
    exact wi_eq rfl rfl
  have m63 : τ'.1 47 63 = c := by
    rw [em]
    unfold bgM
    rw [wi_o (by omega), wi_o (by omega), wi_o (by omega), wi_o (by omega), wi_o (by omega), wi_o (by omega), wi_eq rfl rfl]
  have m64 : τ'.1 47 64 = nI k := by
    rw [em]
    unfold bgM
    rw [wi_o (by omega), wi_o (by omega), wi_o (by omega), wi_o (by omega), wi_o (by omega), wi_eq rfl rfl]
  have m65 : τ'.1 47 65 = y := by
    rw [em]
    unfold bgM
    rw [wi_o (by omega), wi_o (by omega), wi_o (by omega), wi_o (by omega), wi_eq rfl rfl]
  have m67 : τ'.1 47 67 = q := by
    rw [em]
    unfold bgM
    rw [wi_o (by omega), wi_o (by omega), wi_o (by omega), wi_eq rfl rfl]
  have m72 : τ'.1 47 72 = q := by
    rw [em]
    unfold bgM
    rw [wi_o (by omega), wi_o (by omega), wi_eq rfl rfl]
  have m66 : τ'.1 47 66 = nI r := by
    rw [em]
    unfold bgM
    rw [wi_o (by omega), wi_eq rfl rfl]
  refine ⟨?_, ?_, ?_, ?_, ?_, ?_, ?_⟩
  · exact hS.to (hS.sh.to e2) (fun k b k1 b1 => eo _ _ (by omega) (by omega)) (fun b b1 b2 => eo _ _ (by omega) (by omega)) (fun a b hab => mo a b (by omega))
  · intro i hi
    obtain ⟨g1, g2, g3, g4⟩ := hG i hi
    rw [eo _ 7 (by omega) (by omega), eo _ 10 (by omega) (by omega), mo 47 i (by omega), mo 47 (21 + i) (by omega)]
    refine ⟨g1, ?_, ?_, g4⟩
    · by_cases e : c = 111
      · rw [eo _ 8 (by unfold slC; rw [if_pos e]; omega) (by omega), mo 47 (7 + i) (by unfold slM; rw [if_pos e]; omega)]
        exact g2
      · by_cases ei : i = f
        · subst ei
          have a1 : slC c = 8 := if_neg e
          have a2 : slM c = 7 := if_neg e
          rw [a1] at es
          rw [a2] at ms
          rw [es, ms, g2, Int32.sub_eq_add_neg]
        · rw [eo _ 8 (by omega) (by omega), mo 47 (7 + i) (by unfold slM; rw [if_neg e]; omega)]
          exact g2
    · by_cases e : c = 111
      · by_cases ei : i = f
        · subst ei
          have a1 : slC c = 9 := if_pos e
          have a2 : slM c = 14 := if_pos e
          rw [a1] at es
          rw [a2] at ms
          rw [es, ms, g3, Int32.sub_eq_add_neg]
        · rw [eo _ 9 (by omega) (by omega), mo 47 (14 + i) (by unfold slM; rw [if_pos e]; omega)]
          exact g3
      · rw [eo _ 9 (by unfold slC; rw [if_neg e]; omega) (by omega), mo 47 (14 + i) (by unfold slM; rw [if_neg e]; omega)]
        exact g3
  · exact hK.to (fun b b1 b2 => eo _ _ (by omega) (by omega)) (fun b hb => mo _ _ (by omega)) (mo _ _ (by omega))
  · have hne := kd_ne hc
    unfold RT
    rw [t0, t1, t2, t3, t4, m63, m64, m65, m66, m67, m72]
    exact ⟨rfl, rfl, Or.inr hc, fun q => absurd q hne, fun _ => ⟨⟨k, hk1, hk2, rfl, rfl⟩, rfl, ⟨r, hr, hr2, rfl, rfl⟩, rfl⟩⟩
  · obtain ⟨a1, a2, a3, a4, a5, a6, a7, a8, a9, a10, a11⟩ := hQ
    have er : ∀ p b, p < 8 → σ'.1 (rw_ σ' m p) b = σ.1 (rw_ σ m p) b := by
      intro p b hp
      have hh := hS.sh.2.2.1 p hp
      have hm2 := hS.m2
      show σ'.1 (σ'.2 (38 + m) p) b = _
      rw [e2, eo _ _ (by omega) (by omega)]
    have e15 : σ'.1 (10 * m + 7) 15 = σ.1 (10 * m + 7) 15 := eo _ _ (by omega) (by omega)
    refine ⟨a1, a2, by rw [eo _ _ (by omega) (by omega)]; exact a3, by rw [mo _ _ (by omega)]; exact a4, fun p hp => ?_, fun p q hp hq => ?_, by rw [t4]; exact hq, by rw [e15]; exact a8, fun p hp => ?_, ?_, fun p hp => ?_⟩
    · rw [er p 0 (by omega), er p 1 (by omega), er p 2 (by omega), er p 3 (by omega), mo 47 (28 + 4 * p) (by omega), mo 47 (29 + 4 * p) (by omega), mo 47 (30 + 4 * p) (by omega), mo 47 (31 + 4 * p) (by omega)]
      exact a5 p hp
    · rw [er p 0 (by omega), er q 0 (by omega)]
      exact a6 p q hp hq
    · rw [er p 0 (by omega), t4, e15]
      exact ⟨hq1 p hp, (a9 p hp).2⟩
    · rw [e15, t4]
      intro e
      rw [e]
      exact hq2 e
    · rw [er p 1 hp]
      exact a11 p hp
  · rw [RP_iff] at hP ⊢
    have hT2 := (hT.2.2.2.1 hoff).1
    have on0 : onT σ m = 0 := by
      unfold onT
      rw [hoff, if_neg (by decide), hT2]
    have on1 : onT σ' m = if c = 111 then 0 else y := by
      unfold onT
      rw [t0, t2]
    rw [mo 41 10 (by omega), ← hP.1, on0, on1]
    by_cases e : c = 111
    · have a1 : slC c = 9 := if_pos e
      rw [if_pos e]
      exact ⟨ppl_cong (fun i hi => eo _ _ (by omega) (by omega)), fun i i1 i2 => by rw [eo _ _ (by omega) (by omega)]; exact hP.2 i i1 i2⟩
    · have a1 : slC c = 8 := if_neg e
      rw [if_neg e]
      rw [a1] at es
      exact ⟨ppl_upd (i := f) (d := y) (fun i hi hi2 => eo _ _ (by omega) (by omega)) es (Int32.zero_add y).symm hf, fun i i1 i2 => by rw [eo _ _ (by omega) (by omega)]; exact hP.2 i i1 i2⟩
  · exact hB.to hL (fun k k1 => eo _ _ (by omega) (by omega)) (eo _ _ (by omega) (by omega)) (eo _ _ (by omega) (by omega))
/-- both systems begin the same trip -/
theorem begin_sim (n n' : Nat) {σ τ : Mem} {m L : Nat} {W : Nat → Nat} {u N Q k : Nat} {c y q : Int32} (h : RR σ τ m L W u N Q) (hoff : σ.1 (10 * m + 8) 0 = 45) (hc : kd4 c) (hk1 : 1 ≤ k) (hk2 : k ≤ L) (hq : nO N q) (hq1 : ∀ p, p < Q → σ.1 (rw_ σ m p) 0 ≠ q) (hq2 : σ.1 (10 * m + 7) 15 = q → q = -1) :
    ∃ σ' τ', sp_X1_beginTrip n σ (10 * m + 7) c (nI k) y q = some ((), σ') ∧ sp_X6_begins n' τ 41 c (nI k) y q = some ((), τ') ∧ RR σ' τ' m L W u N Q ∧ FrC σ σ' m ∧ FrM τ τ' ∧ σ'.1 (10 * m + 8) 0 = c ∧ σ'.1 (10 * m + 7) 15 = σ.1 (10 * m + 7) 15 := by
  have hS := h.1
  have hL := hS.lv
  have hm2 := hS.m2
  obtain ⟨v, v1, v2, v3, v4⟩ := hS.spd
  obtain ⟨c0, c1, c2, c3⟩ := h.2.2.1.2.2.2.2.2.1
  have hfk := fr_le c k
  have htk := to_le c k
  obtain ⟨dc, p1, p2, p3⟩ := hS.dep c1
  obtain ⟨df, q1, q2, q3⟩ := hS.dep (k := fr_ c k) (by omega)
  obtain ⟨dt, r1, r2, r3⟩ := hS.dep (k := to_ c k) (by omega)
  have w1 := wyN_le v1 p1 q1
  have w2 := wyN_le v1 q1 r1
  have hsl := slC_le c
  have hsm : slM c = 7 ∨ slM c = 14 := by unfold slM; split <;> simp
  refine ⟨_, _, ev_beginTrip n hS.sh hc (by omega) (by omega) c2 v1 v2 v3 p1 q1 r1 p2 q2 r2, ev_begins n' (c := c) (y := y) (q := q) (by omega) (by omega) c3 v1 v2 v4 p1 q1 r1 p3 q3 r3, ?_, ⟨fun a b h1 h2 => ?_, fun a ha => rfl⟩, ⟨fun a b h1 => ?_, rfl⟩, ?_, ?_⟩
  · refine begin_R (f := fr_ c k) (r := 1 + wyN v dc df + wyN v df dt) h hoff hc hk1 hk2 (by omega) (by omega) (by omega) hq hq1 hq2 rfl (fun a b h1 h2 => ?_) ?_ ?_ ?_ ?_ ?_ ?_ rfl
    · rw [wi_o (by omega), wi_o (by omega), wi_o (by omega), wi_o (by omega), wi_o (by omega), wi_o (by omega)]
    · rw [wi_o (by omega), wi_o (by omega), wi_o (by omega), wi_o (by omega), wi_o (by omega), wi_eq rfl rfl]
    · rw [wi_o (by omega), wi_o (by omega), wi_o (by omega), wi_o (by omega), wi_eq rfl rfl]
    · rw [wi_o (by omega), wi_o (by omega), wi_o (by omega), wi_eq rfl rfl]
    · rw [wi_o (by omega), wi_o (by omega), wi_eq rfl rfl]
    · rw [wi_o (by omega), wi_eq rfl rfl]
    · rw [wi_eq rfl rfl]
  · rw [wi_o (by omega), wi_o (by omega), wi_o (by omega), wi_o (by omega), wi_o (by omega), wi_o (by omega)]
  · unfold bgM
    rw [wi_o (by omega), wi_o (by omega), wi_o (by omega), wi_o (by omega), wi_o (by omega), wi_o (by omega), wi_o (by omega)]
  · rw [wi_o (by omega), wi_o (by omega), wi_o (by omega), wi_o (by omega), wi_eq rfl rfl]
  · rw [wi_o (by omega), wi_o (by omega), wi_o (by omega), wi_o (by omega), wi_o (by omega), wi_o (by omega)]
end
section
/-! PURE. flights, and a trip's end -/
theorem le0_nI {w : Nat} (h : w < 100000) : nI w ≤ 0 ↔ w = 0 := by
  rw [n0, le_nI h (by omega)]
  omega
theorem eq0_nI {w : Nat} (h : w < 100000) : nI w = 0 ↔ w = 0 := by
  rw [n0, eq_nI h (by omega)]
def fl (P A S : Nat → Int32) : Nat → Nat → Nat → Nat
  | 0, _, w => w
  | d + 1, j, w => if P (j + 1) ≤ 0 then fl P A S d (j + 1) w else if A (j + 1) = 0 then fl P A S d (j + 1) w else if w = 0 then fl P A S d (j + 1) (j + 1) else if S (j + 1) ≤ S w then fl P A S d (j + 1) w else fl P A S d (j + 1) (j + 1)
theorem fl_le {P A S : Nat → Int32} : ∀ {d j w : Nat}, w ≤ j → fl P A S d j w ≤ j + d
  | 0, _, _, h => h
  | d + 1, j, w, h => by
    have h1 := fl_le (P := P) (A := A) (S := S) (d := d) (j := j + 1) (w := w) (by omega)
    have h2 := fl_le (P := P) (A := A) (S := S) (d := d) (j := j + 1) (w := j + 1) (by omega)
    rw [fl]
    split
    · omega
    split
    · omega
    split
    · omega
    split <;> omega
def ppC (σ : Mem) (m k : Nat) : Int32 := σ.1 (10 * m + k) 8
theorem lp_startFlight (n : Nat) {σ τ : Mem} {m L : Nat} {W : Nat → Nat} {u : Nat} (h : RS σ τ m L W u) : ∀ (d k j w : Nat), j + d = L → d < k → w ≤ j →
    lp_X1_startFlight_4 n (10 * m + 7) k σ (nI w) (nI (j + 1)) = lp_X1_startFlight_4 n (10 * m + 7) (k - d) σ (nI (fl (ppC σ m) (alC σ m) (shC σ m) d j w)) (nI (L + 1)) := by
  intro d
  have hL := h.lv
  induction d with
  | zero =>
    intro k j w hj hk hw
    rw [show j = L by omega, fl]
    rfl
  | succ d ih =>
    intro k j w hj hk hw
    obtain ⟨k, rfl⟩ : ∃ z, k = z + 1 := ⟨k - 1, by omega⟩
    rw [lp_X1_startFlight_4_s, h.c4, if_neg (by rw [lt_nI (by omega) (by omega)]; omega), ev_place n h.sh (by omega)]
    simp only [Option.bind_some]
    rw [if_pos (ok_lv h.m2 (by omega)), fl, add1_nI, show k + 1 - (d + 1) = k - d by omega, show σ.1 (10 * m + (j + 1)) 8 = ppC σ m (j + 1) from rfl]
    by_cases c1 : ppC σ m (j + 1) ≤ 0
    · rw [if_pos c1, if_pos c1]
      exact ih k (j + 1) w (by omega) (by omega) (by omega)
    rw [if_neg c1, if_neg c1, h.alarm n (by omega) (by omega)]
    simp only [Option.bind_some]
    by_cases c2 : alC σ m (j + 1) = 0
    · rw [if_pos c2, if_pos c2]
      exact ih k (j + 1) w (by omega) (by omega) (by omega)
    rw [if_neg c2, if_neg c2]
    by_cases c3 : w = 0
    · rw [if_pos (by rw [c3]; rfl), if_pos c3]
      exact ih k (j + 1) (j + 1) (by omega) (by omega) (by omega)
    rw [if_neg (by rw [n0, eq_nI (by omega) (by omega)]; exact c3), if_neg c3, h.share n (by omega) (by omega)]
    simp only [Option.bind_some]
    rw [ev_place n h.sh (by omega)]
    simp only [Option.bind_some]
    rw [if_pos (ok_lv h.m2 (by omega)), h.share n (by omega) (by omega)]
    simp only [Option.bind_some]
    by_cases c4 : shC σ m (j + 1) ≤ shC σ m w
    · rw [if_pos c4, if_pos c4]
      exact ih k (j + 1) w (by omega) (by omega) (by omega)
    · rw [if_neg c4, if_neg c4]
      exact ih k (j + 1) (j + 1) (by omega) (by omega) (by omega)
theorem lp_fliesFrom (n : Nat) {σ τ : Mem} {m L : Nat} {W : Nat → Nat} {u : Nat} (h : RS σ τ m L W u) (hg : RG σ τ m) : ∀ (d k j w : Nat), j + d = L → d < k → w ≤ j →
    lp_X6_fliesFrom_4 n 41 k τ (nI w) (nI (j + 1)) = lp_X6_fliesFrom_4 n 41 (k - d) τ (nI (fl (ppC σ m) (alC σ m) (shC σ m) d j w)) (nI (L + 1)) := by
  intro d
  have hL := h.lv
  induction d with
  | zero =>
    intro k j w hj hk hw
    rw [show j = L by omega, fl]
    rfl
  | succ d ih =>
    intro k j w hj hk hw
    obtain ⟨k, rfl⟩ : ∃ z, k = z + 1 := ⟨k - 1, by omega⟩
    have hp : τ.1 47 (7 + (j + 1)) = ppC σ m (j + 1) := (hg (j + 1) (by omega)).2.1.symm
    rw [lp_X6_fliesFrom_4_s, h.t0, if_neg (by rw [lt_nI (by omega) (by omega)]; omega), h.alarmM hg n (by omega) (by omega)]
    simp only [Option.bind_some, ix7]
    rw [fl, add1_nI, show k + 1 - (d + 1) = k - d by omega]
    by_cases c2 : alC σ m (j + 1) = 0
    · rw [if_pos c2, if_pos c2]
      have := ih k (j + 1) w (by omega) (by omega) (by omega)
      split
      · exact this
      · exact this
    rw [if_neg c2, if_neg c2, if_pos (inR_nI (by omega) (by omega))]
    simp only [nI_cl (show 7 + (j + 1) < 100000 by omega), rfm_11, hp]
    by_cases c1 : ppC σ m (j + 1) ≤ 0
    · rw [if_pos c1, if_pos c1]
      exact ih k (j + 1) w (by omega) (by omega) (by omega)
    rw [if_neg c1, if_neg c1]
    by_cases c3 : w = 0
    · rw [if_pos (by rw [c3]; rfl), if_pos c3]
      exact ih k (j + 1) (j + 1) (by omega) (by omega) (by omega)
    rw [if_neg (by rw [n0, eq_nI (by omega) (by omega)]; exact c3), if_neg c3, h.shareM hg n (by omega) (by omega)]
    simp only [Option.bind_some]
    rw [h.shareM hg n (by omega) (by omega)]
    simp only [Option.bind_some]
    by_cases c4 : shC σ m (j + 1) ≤ shC σ m w
    · rw [if_pos c4, if_pos c4]
      exact ih k (j + 1) w (by omega) (by omega) (by omega)
    · rw [if_neg c4, if_neg c4]
      exact ih k (j + 1) (j + 1) (by omega) (by omega) (by omega)
theorem min_com (a b : Int32) : (if a < b then a else b) = if b < a then b else a := by
  by_cases h : a < b
  · rw [if_pos h, if_neg (Int32.not_lt.mpr (Int32.le_of_lt h))]
  · by_cases g : b < a
    · rw [if_neg h, if_pos g]
    · rw [if_neg h, if_neg g]
      exact Int32.le_antisymm (Int32.not_lt.mp h) (Int32.not_lt.mp g)
theorem flight_sim {n n' : Nat} (hn : 10 < n) (hn' : 10 < n') {σ τ : Mem} {m L : Nat} {W : Nat → Nat} {u N Q : Nat} (h : RR σ τ m L W u N Q) (hoff : σ.1 (10 * m + 8) 0 = 45) :
    ∃ r σ' τ', sp_X1_startFlight n σ (10 * m + 7) = some (r, σ') ∧ sp_X6_fliesFrom n' τ 41 = some (r, τ') ∧ RR σ' τ' m L W u N Q ∧ FrC σ σ' m ∧ FrM τ τ' ∧ (r = 0 ∧ σ' = σ ∧ τ' = τ ∨ r = 1 ∧ σ'.1 (10 * m + 8) 0 = 102) ∧ σ'.1 (10 * m + 7) 15 = σ.1 (10 * m + 7) 15 := by
  have hS := h.1
  have hL := hS.lv
  have hw : fl (ppC σ m) (alC σ m) (shC σ m) L 0 0 ≤ 0 + L := fl_le (Nat.le_refl _)
  unfold sp_X1_startFlight sp_X6_fliesFrom
  rw [n0, n1, show nI 1 = nI (0 + 1) from rfl, lp_startFlight n hS L n 0 0 (by omega) (by omega) (by omega), lp_fliesFrom n' hS h.2.1 L n' 0 0 (by omega) (by omega) (by omega)]
  obtain ⟨k, hk⟩ : ∃ z, n - L = z + 1 := ⟨n - L - 1, by omega⟩
  obtain ⟨k', hk'⟩ : ∃ z, n' - L = z + 1 := ⟨n' - L - 1, by omega⟩
  generalize fl (ppC σ m) (alC σ m) (shC σ m) L 0 0 = w at hw
  rw [hk, hk', lp_X1_startFlight_4_s, lp_X6_fliesFrom_4_s, hS.c4, hS.t0, if_pos ((lt_nI (by omega) (by omega)).mpr (by omega)), if_pos ((lt_nI (by omega) (by omega)).mpr (by omega))]
  by_cases c : w = 0
  · subst c
    rw [if_pos ((eq0_nI (by omega)).mpr rfl), if_pos ((le0_nI (by omega)).mpr rfl), if_pos ((le0_nI (by omega)).mpr rfl)]
    exact ⟨_, _, _, rfl, rfl, h, FrC.rfl' _ _, FrM.rfl' _, Or.inl ⟨rfl, rfl, rfl⟩, rfl⟩
  · have hle : ¬ nI w ≤ 0 := by rw [le0_nI (by omega)]; exact c
    rw [if_neg (by rw [eq0_nI (by omega)]; exact c), if_neg hle, ev_place n hS.sh (by omega)]
    simp only [Option.bind_some, ix7]
    rw [if_pos (ok_lv hS.m2 (by omega)), if_pos (inR_nI (by omega) (by omega))]
    simp only [nI_cl (show 7 + w < 100000 by omega), rfm_11]
    rw [← (h.2.1 w (by omega)).2.1, min_com _ 12]
    obtain ⟨σ', τ', e1, e2, e3, e4, e5, e6, e7⟩ := begin_sim n n' (c := 102) (k := w) (y := if (12 : Int32) < σ.1 (10 * m + w) 8 then 12 else σ.1 (10 * m + w) 8) (q := -1) h hoff (Or.inr (Or.inr (Or.inr rfl))) (by omega) (by omega) (Or.inl rfl) (fun p hp => by
      obtain ⟨-, a2, -, -, a5, -⟩ := h.2.2.2.2.1
      obtain ⟨⟨r, r1, r2, -⟩, -⟩ := a5 p hp
      rw [r2]
      intro e
      have := nI_pos (n := r) (by omega)
      rw [e] at this
      exact this (by decide)) (fun _ => rfl)
    rw [e1, e2]
    simp only [Option.bind_some]
    rw [if_neg hle]
    exact ⟨1, σ', τ', rfl, rfl, e3, e4, e5, Or.inr ⟨rfl, e6⟩, e7⟩
end
section
/-! PURE. the end of a trip; ticks -/
theorem to_lt {c : Int32} {k : Nat} (h : k < 7) : to_ c k < 7 := by have := to_le c k; omega
theorem ev_endCore (n : Nat) {σ : Mem} {m t : Nat} {c y q : Int32} (hm : ShM σ m) (hc : kd4 c) (ht : t < 7) (h0 : σ.1 (10 * m + 8) 0 = c) (h2 : σ.1 (10 * m + 8) 2 = y) (h4 : σ.1 (10 * m + 8) 4 = q) :
    ∃ σ', (lm (wi σ (10 * m + 7) 12 (nI t)) fun σ2 => ((sp_X1_place n σ2 (10 * m + 7) ((σ2.1 (10 * m + 7) 12))).bind fun q => match q with | (r4, σ5) => if Ok r4 0 then ((sp_X1_carry n σ5 r4 ((σ5.1 (rf (10 * m + 7) 3) 0)) ((σ5.1 (rf (10 * m + 7) 3) 2))).bind fun q => match q with | (_, σ9) => (lm (wi σ9 (10 * m + 7) 15 (σ9.1 (rf (10 * m + 7) 3) 4)) fun σ11 => (lm (wi σ11 (10 * m + 7) 13 ((σ11.1 (10 * m + 7) 13) + 1)) fun σ13 => ((sp_X3_clear n σ13 ((rf (10 * m + 7) 3))).bind fun q => match q with | (_, σ16) => some ((), σ16))))) else none)) = some ((), σ') ∧ σ'.2 = σ.2 ∧
      σ'.1 (10 * m + 7) 12 = nI t ∧ σ'.1 (10 * m + t) (slC c) = σ.1 (10 * m + t) (slC c) + y ∧ σ'.1 (10 * m + 7) 15 = q ∧ σ'.1 (10 * m + 7) 13 = σ.1 (10 * m + 7) 13 + 1 ∧ σ'.1 (10 * m + 8) 0 = 45 ∧ σ'.1 (10 * m + 8) 2 = 0 ∧ σ'.1 (10 * m + 8) 4 = -1 ∧
      ∀ a b, (a ≠ 10 * m + 7 ∨ (b ≠ 12 ∧ b ≠ 13 ∧ b ≠ 15)) → (a ≠ 10 * m + t ∨ b ≠ slC c) → a ≠ 10 * m + 8 → σ'.1 a b = σ.1 a b := by
  have hsl := slC_le c
  simp only [lm]
  rw [wi_eq rfl rfl, ev_place n (show ShM (wi σ (10 * m + 7) 12 (nI t)) m from hm.to rfl) ht]
  simp only [Option.bind_some]
  rw [if_pos (ok_lv hm.1 ht), rf_3 hm.1, wi_o (a := 10 * m + 8) (by omega), wi_o (a := 10 * m + 8) (by omega), h0, h2, ev_carry]
  simp only [Option.bind_some]
  unfold sp_X3_clear
  rw [ev_set n _ _ (Or.inl rfl)]
  simp only [Option.bind_some]
  refine ⟨_, rfl, rfl, ?_, ?_, ?_, ?_, ?_, ?_, ?_, fun a b g1 g2 g3 => ?_⟩
  · rw [wi_o (by omega), wi_o (by omega), wi_o (by omega), wi_o (by omega), wi_o (by omega), wi_o (by omega), wi_o (by omega), wi_o (by omega), wi_eq rfl rfl]
  · rw [wi_o (by omega), wi_o (by omega), wi_o (by omega), wi_o (by omega), wi_o (by omega), wi_o (by omega), wi_o (by omega), wi_eq rfl rfl, wi_o (by omega)]
  · rw [wi_o (by omega), wi_o (by omega), wi_o (by omega), wi_o (by omega), wi_o (by omega), wi_o (by omega), wi_eq rfl rfl, wi_o (by omega), wi_o (by omega)]
    exact h4
  · rw [wi_o (by omega), wi_o (by omega), wi_o (by omega), wi_o (by omega), wi_o (by omega), wi_eq rfl rfl, wi_o (by omega), wi_o (by omega), wi_o (by omega)]
  · rw [wi_o (by omega), wi_o (by omega), wi_o (by omega), wi_o (by omega), wi_eq rfl rfl]
  · rw [wi_o (by omega), wi_o (by omega), wi_eq rfl rfl]
  · rw [wi_eq rfl rfl]
  · rw [wi_o (by omega), wi_o (by omega), wi_o (by omega), wi_o (by omega), wi_o (by omega), wi_o (by omega), wi_o (by omega), wi_o (by omega), wi_o (by omega)]
theorem ev_endTrip (n : Nat) {σ : Mem} {m k : Nat} {c y q : Int32} (hm : ShM σ m) (hc : kd4 c) (hk : k < 7) (h0 : σ.1 (10 * m + 8) 0 = c) (h1 : σ.1 (10 * m + 8) 1 = nI k) (h2 : σ.1 (10 * m + 8) 2 = y) (h4 : σ.1 (10 * m + 8) 4 = q) :
    ∃ σ', sp_X1_endTrip n σ (10 * m + 7) = some ((), σ') ∧ σ'.2 = σ.2 ∧
      σ'.1 (10 * m + 7) 12 = nI (to_ c k) ∧ σ'.1 (10 * m + to_ c k) (slC c) = σ.1 (10 * m + to_ c k) (slC c) + y ∧ σ'.1 (10 * m + 7) 15 = q ∧ σ'.1 (10 * m + 7) 13 = σ.1 (10 * m + 7) 13 + 1 ∧ σ'.1 (10 * m + 8) 0 = 45 ∧ σ'.1 (10 * m + 8) 2 = 0 ∧ σ'.1 (10 * m + 8) 4 = -1 ∧
      ∀ a b, (a ≠ 10 * m + 7 ∨ (b ≠ 12 ∧ b ≠ 13 ∧ b ≠ 15)) → (a ≠ 10 * m + to_ c k ∨ b ≠ slC c) → a ≠ 10 * m + 8 → σ'.1 a b = σ.1 a b := by
  have key := ev_endCore n hm hc (to_lt (c := c) hk) h0 h2 h4
  unfold sp_X1_endTrip
  rw [rf_3 hm.1, h0, h1]
  rw [rf_3 hm.1] at key
  by_cases h : c = 100
  · rw [if_pos h]
    rw [show to_ c k = k from if_pos h] at key ⊢
    exact key
  · rw [if_neg h]
    rw [show to_ c k = 0 from if_neg h] at key ⊢
    exact key
/-- the model's memory behind ends -/
def enM (τ : Mem) (c : Int32) (t : Nat) : Mem := wi (wi (wi (wi (wi τ 47 (slM c + t) (τ.1 47 (slM c + t) + τ.1 47 65)) 47 62 (nI t)) 47 63 45) 47 67 (-1)) 47 68 (τ.1 47 68 + 1)
theorem ev_ends23 (n : Nat) {τ : Mem} {t : Nat} {c : Int32} (ht : t < 7) (h0 : τ.1 47 63 = c) : lp_X6_ends_23 n 41 τ (nI t) = some ((), enM τ c t) := by
  unfold lp_X6_ends_23 lp_X6_ends_47
  rw [if_pos i63]
  simp only [lm, rfm_11, ix62, ix63, ix65, ix67, ix68]
  rw [h0]
  unfold enM slM
  by_cases h : c = 111
  · rw [if_pos h, if_pos h, ix14, if_pos (inR_nI (by omega) (by omega)), if_pos i65, if_pos (inR_nI (by omega) (by omega)), if_pos i62, if_pos i63, if_pos i67, if_pos i68, if_pos i68]
    simp only [nI_cl (show 14 + t < 100000 by omega)]
    rw [wi_o (a := 47) (b := 68) (by omega), wi_o (a := 47) (b := 68) (by omega), wi_o (a := 47) (b := 68) (by omega), wi_o (a := 47) (b := 68) (by omega)]
  · rw [if_neg h, if_neg h, ix7, if_pos (inR_nI (by omega) (by omega)), if_pos i65, if_pos (inR_nI (by omega) (by omega)), if_pos i62, if_pos i63, if_pos i67, if_pos i68, if_pos i68]
    simp only [nI_cl (show 7 + t < 100000 by omega)]
    rw [wi_o (a := 47) (b := 68) (by omega), wi_o (a := 47) (b := 68) (by omega), wi_o (a := 47) (b := 68) (by omega), wi_o (a := 47) (b := 68) (by omega)]
theorem ev_ends (n : Nat) {τ : Mem} {k : Nat} {c : Int32} (hk : k < 7) (h0 : τ.1 47 63 = c) (h1 : τ.1 47 64 = nI k) : sp_X6_ends n τ 41 = some ((), enM τ c (to_ c k)) := by
  unfold sp_X6_ends
  rw [if_pos i63]
  simp only [rfm_11, ix63, ix64]
  rw [h0, h1]
  by_cases h : c = 100
  · rw [if_pos h, if_pos i64, show to_ c k = k from if_pos h]
    exact ev_ends23 n hk h0
  · rw [if_neg h, show to_ c k = 0 from if_neg h]
    exact ev_ends23 n (t := 0) (by omega) h0
theorem end_R {σ τ σ1 τ1 σ' τ' : Mem} {m L : Nat} {W : Nat → Nat} {u N Q k : Nat} {c : Int32} (h : RR σ τ m L W u N Q) (hc : kd4 c) (hk1 : 1 ≤ k) (hk2 : k ≤ L) (h0 : σ.1 (10 * m + 8) 0 = c)
    (f1 : ∀ a b, (a ≠ 10 * m + 8 ∨ b ≠ 3) → σ1.1 a b = σ.1 a b) (f2 : ∀ a b, (a ≠ 47 ∨ b ≠ 66) → τ1.1 a b = τ.1 a b) (e2 : σ'.2 = σ.2)
    (g12 : σ'.1 (10 * m + 7) 12 = nI (to_ c k)) (gs : σ'.1 (10 * m + to_ c k) (slC c) = σ1.1 (10 * m + to_ c k) (slC c) + σ1.1 (10 * m + 8) 2) (g15 : σ'.1 (10 * m + 7) 15 = σ1.1 (10 * m + 8) 4) (g13 : σ'.1 (10 * m + 7) 13 = σ1.1 (10 * m + 7) 13 + 1) (t0 : σ'.1 (10 * m + 8) 0 = 45) (t2 : σ'.1 (10 * m + 8) 2 = 0) (t4 : σ'.1 (10 * m + 8) 4 = -1)
    (go : ∀ a b, (a ≠ 10 * m + 7 ∨ (b ≠ 12 ∧ b ≠ 13 ∧ b ≠ 15)) → (a ≠ 10 * m + to_ c k ∨ b ≠ slC c) → a ≠ 10 * m + 8 → σ'.1 a b = σ1.1 a b) (em : τ' = enM τ1 c (to_ c k)) : RR σ' τ' m L W u N Q := by
  obtain ⟨hS, hG, hK, hT, hQ, hP, hB⟩ := h
  have hL := hS.lv
  have ht := to_le c k
  have hsl := slC_le c
  have hne := kd_ne hc
  have hsm : slM c = 7 ∨ slM c = 14 := by unfold slM; split <;> simp
  generalize to_ c k = t at *
  rw [f1 _ _ (by omega), f1 _ _ (by omega)] at gs
  rw [f1 _ _ (by omega)] at g15
  rw [f1 _ _ (by omega)] at g13
  have eo : ∀ a b, (a ≠ 10 * m + 7 ∨ (b ≠ 12 ∧ b ≠ 13 ∧ b ≠ 15)) → (a ≠ 10 * m + t ∨ b ≠ slC c) → a ≠ 10 * m + 8 → σ'.1 a b = σ.1 a b := fun a b q1 q2 q3 => by rw [go a b q1 q2 q3, f1 a b (by omega)]
  have hon := hT.2.2.2.2 (by rw [h0]; exact hne)
  have mo : ∀ a b, (a ≠ 47 ∨ (b ≠ 62 ∧ b ≠ 63 ∧ b ≠ 66 ∧ b ≠ 67 ∧ b ≠ 68 ∧ b ≠ slM c + t)) → τ'.1 a b = τ.1 a b := by
    intro a b hab
    rw [em]
    unfold enM
    rw [wi_o (by omega), wi_o (by omega), wi_o (by omega), wi_o (by omega), wi_o (by omega), f2 a b (by omega)]
  have ms : τ'.1 47 (slM c + t) = τ.1 47 (slM c + t) + σ.1 (10 * m + 8) 2 := by
    rw [em]
    unfold enM
    rw [wi_o (by omega), wi_o (by omega), wi_o (by omega), wi_o (by omega), wi_eq rfl rfl, f2 _ _ (by omega), f2 47 65 (by omega), hon.2.1]
  have m62 : τ'.1 47 62 = nI t := by
    rw [em]
    unfold enM
    rw [wi_o (by omega), wi_o (by omega), wi_o (by omega), wi_eq rfl rfl]
  have m63 : τ'.1 47 63 = 45 := by
    rw [em]
    unfold enM
    rw [wi_o (by omega), wi_o (by omega), wi_eq rfl rfl]
  have m67 : τ'.1 47 67 = -1 := by
    rw [em]
    unfold enM
    rw [wi_o (by omega), wi_eq rfl rfl]
  have m68 : τ'.1 47 68 = τ.1 47 68 + 1 := by
    rw [em]
    unfold enM
    rw [wi_eq rfl rfl, f2 _ _ (by omega)]
  refine ⟨?_, ?_, ?_, ?_, ?_, ?_, ?_⟩
  · exact hS.to (hS.sh.to e2) (fun k b k1 b1 => eo _ _ (by omega) (by omega) (by omega)) (fun b b1 b2 => eo _ _ (by omega) (by omega) (by omega)) (fun a b hab => mo a b (by omega))
  · intro i hi
    obtain ⟨g1, g2, g3, g4⟩ := hG i hi
    rw [eo _ 7 (by omega) (by omega) (by omega), eo _ 10 (by omega) (by omega) (by omega), mo 47 i (by omega), mo 47 (21 + i) (by omega)]
    refine ⟨g1, ?_, ?_, g4⟩
    · by_cases e : c = 111
      · rw [eo _ 8 (by omega) (by unfold slC; rw [if_pos e]; omega) (by omega), mo 47 (7 + i) (by unfold slM; rw [if_pos e]; omega)]
        exact g2
      · by_cases ei : i = t
        · subst ei
          have a1 : slC c = 8 := if_neg e
          have a2 : slM c = 7 := if_neg e
          rw [a1] at gs
          rw [a2] at ms
          rw [gs, ms, g2]
        · rw [eo _ 8 (by omega) (by omega) (by omega), mo 47 (7 + i) (by unfold slM; rw [if_neg e]; omega)]
          exact g2
    · by_cases e : c = 111
      · by_cases ei : i = t
        · subst ei
          have a1 : slC c = 9 := if_pos e
          have a2 : slM c = 14 := if_pos e
          rw [a1] at gs
          rw [a2] at ms
          rw [gs, ms, g3]
        · rw [eo _ 9 (by omega) (by omega) (by omega), mo 47 (14 + i) (by unfold slM; rw [if_pos e]; omega)]
          exact g3
      · rw [eo _ 9 (by omega) (by unfold slC; rw [if_neg e]; omega) (by omega), mo 47 (14 + i) (by unfold slM; rw [if_neg e]; omega)]
        exact g3
  · obtain ⟨k1, k2, k3, k4, k5, k6, k7, k8⟩ := hK
    refine ⟨?_, ?_, ?_, ?_, ?_, ⟨t, by omega, g12, m62⟩, by rw [g13, m68, k7], ?_⟩
    · rw [eo _ _ (by omega) (by omega) (by omega), mo _ _ (by omega)]; exact k1
    · rw [eo _ _ (by omega) (by omega) (by omega), mo _ _ (by omega)]; exact k2
    · rw [eo _ _ (by omega) (by omega) (by omega), mo _ _ (by omega)]; exact k3
    · rw [eo _ _ (by omega) (by omega) (by omega)]; exact k4
    · rw [mo _ _ (by omega)]; exact k5
    · rw [eo _ _ (by omega) (by omega) (by omega), mo _ _ (by omega)]; exact k8
  · unfold RT
    rw [t0, t2, t4, m63, m67, g15, mo 47 72 (by omega), hon.2.2.2]
    exact ⟨rfl, rfl, Or.inl rfl, fun _ => ⟨rfl, rfl, rfl⟩, fun q => absurd rfl q⟩
  · obtain ⟨a1, a2, a3, a4, a5, a6, a7, a8, a9, a10, a11⟩ := hQ
    have er : ∀ p b, p < 8 → σ'.1 (rw_ σ' m p) b = σ.1 (rw_ σ m p) b := by
      intro p b hp
      have hh := hS.sh.2.2.1 p hp
      have hm2 := hS.m2
      show σ'.1 (σ'.2 (38 + m) p) b = _
      rw [e2, eo _ _ (by omega) (by omega) (by omega)]
    refine ⟨a1, a2, by rw [eo _ _ (by omega) (by omega) (by omega)]; exact a3, by rw [mo _ _ (by omega)]; exact a4, fun p hp => ?_, fun p q hp hq => ?_, by rw [t4]; exact Or.inl rfl, by rw [g15]; exact a7, fun p hp => ?_, ?_, fun p hp => ?_⟩
    · rw [er p 0 (by omega), er p 1 (by omega), er p 2 (by omega), er p 3 (by omega), mo 47 (28 + 4 * p) (by omega), mo 47 (29 + 4 * p) (by omega), mo 47 (30 + 4 * p) (by omega), mo 47 (31 + 4 * p) (by omega)]
      exact a5 p hp
    · rw [er p 0 (by omega), er q 0 (by omega)]
      exact a6 p q hp hq
    · rw [er p 0 (by omega), t4, g15]
      refine ⟨?_, (a9 p hp).1⟩
      obtain ⟨⟨r, r1, r2, -⟩, -⟩ := a5 p hp
      rw [r2]
      intro e
      have := nI_pos (n := r) (by omega)
      rw [e] at this
      exact this (by decide)
    · rw [t4]
      exact fun e => e
    · rw [er p 1 hp]
      exact a11 p hp
  · rw [RP_iff] at hP ⊢
    have on0 : onT σ m = if c = 111 then 0 else σ.1 (10 * m + 8) 2 := by
      unfold onT
      rw [h0]
    have on1 : onT σ' m = 0 := by
      unfold onT
      rw [t0, t2, if_neg (by decide)]
    rw [mo 41 10 (by omega), ← hP.1, on0, on1]
    by_cases e : c = 111
    · have a1 : slC c = 9 := if_pos e
      rw [if_pos e]
      exact ⟨ppl_cong (fun i hi => eo _ _ (by omega) (by omega) (by omega)), fun i i1 i2 => by rw [eo _ _ (by omega) (by omega) (by omega)]; exact hP.2 i i1 i2⟩
    · have a1 : slC c = 8 := if_neg e
      rw [if_neg e]
      rw [a1] at gs
      exact ⟨ppl_upd (i := t) (d := -σ.1 (10 * m + 8) 2) (fun i hi hi2 => eo _ _ (by omega) (by omega) (by omega)) (by rw [Int32.neg_neg]; exact gs) (Int32.add_right_neg _).symm (by omega), fun i i1 i2 => by rw [eo _ _ (by omega) (by omega) (by omega)]; exact hP.2 i i1 i2⟩
  · exact hB.to hL (fun k k1 => eo _ _ (by omega) (by omega) (by omega)) (eo _ _ (by omega) (by omega) (by omega)) (eo _ _ (by omega) (by omega) (by omega))
theorem tick_R {σ τ : Mem} {m L : Nat} {W : Nat → Nat} {u N Q : Nat} (h : RR σ τ m L W u N Q) : RR (wi σ (10 * m + 7) 8 (σ.1 (10 * m + 7) 8 + 1)) (wi τ 47 61 (τ.1 47 61 + 1)) m L W u N Q := by
  obtain ⟨hS, hG, hK, hT, hQ, hP, hB⟩ := h
  have hL := hS.lv
  have hm2 := hS.m2
  refine ⟨hS.to (hS.sh.to rfl) (fun k b k1 b1 => wi_o (by omega)) (fun b b1 b2 => wi_o (by omega)) (fun a b hab => wi_o (by omega)), hG.to (fun k b k1 b1 b2 => wi_o (by omega)) (fun b hb => wi_o (by omega)), ?_, hT.to (fun b hb => wi_o (by omega)) (wi_o (by omega)) (fun b b1 b2 => wi_o (by omega)) (wi_o (by omega)), hQ.to (wi_o (by omega)) (fun p b hp hb => ?_) (wi_o (by omega)) (wi_o (by omega)) (fun b b1 b2 => wi_o (by omega)), hP.to hL (fun k k1 => wi_o (by omega)) (onT_cong (wi_o (by omega)) (wi_o (by omega))) (wi_o (by omega)), hB.to hL (fun k k1 => wi_o (by omega)) (wi_o (by omega)) (wi_o (by omega))⟩
  · obtain ⟨k1, k2, k3, k4, k5, k6, k7, k8⟩ := hK
    unfold RK
    rw [wi_eq rfl rfl, wi_eq rfl rfl, wi_o (by omega), wi_o (by omega), wi_o (by omega), wi_o (by omega), wi_o (by omega), wi_o (by omega), wi_o (by omega), wi_o (by omega), wi_o (by omega), wi_o (by omega), wi_o (by omega), wi_o (by omega), k1]
    exact ⟨rfl, k2, k3, k4, k5, k6, k7, k8⟩
  · have hh := hS.sh.2.2.1 p hp
    exact wi_o (Or.inl (by show σ.2 (38 + m) p ≠ _; omega))
theorem rest_R {σ τ : Mem} {m L : Nat} {W : Nat → Nat} {u N Q z : Nat} (h : RR σ τ m L W u N Q) (hon : σ.1 (10 * m + 8) 0 ≠ 45) (hz : 1 ≤ z) (hz2 : z ≤ 10000) : RR (wi σ (10 * m + 8) 3 (nI z)) (wi τ 47 66 (nI z)) m L W u N Q := by
  obtain ⟨hS, hG, hK, hT, hQ, hP, hB⟩ := h
  have hL := hS.lv
  have hm2 := hS.m2
  refine ⟨hS.to (hS.sh.to rfl) (fun k b k1 b1 => wi_o (by omega)) (fun b b1 b2 => wi_o (by omega)) (fun a b hab => wi_o (by omega)), hG.to (fun k b k1 b1 b2 => wi_o (by omega)) (fun b hb => wi_o (by omega)), hK.to (fun b b1 b2 => wi_o (by omega)) (fun b hb => wi_o (by omega)) (wi_o (by omega)), ?_, hQ.to (wi_o (by omega)) (fun p b hp hb => ?_) (wi_o (by omega)) (wi_o (by omega)) (fun b b1 b2 => wi_o (by omega)), hP.to hL (fun k k1 => wi_o (by omega)) (onT_cong (wi_o (by omega)) (wi_o (by omega))) (wi_o (by omega)), hB.to hL (fun k k1 => wi_o (by omega)) (wi_o (by omega)) (wi_o (by omega))⟩
  · obtain ⟨t1, t2, t3, t4, t5⟩ := hT
    obtain ⟨q1, q2, q3, q4⟩ := t5 hon
    unfold RT
    rw [wi_eq rfl rfl, wi_eq rfl rfl, wi_o (by omega), wi_o (by omega), wi_o (by omega), wi_o (by omega), wi_o (by omega), wi_o (by omega), wi_o (by omega), wi_o (by omega), wi_o (by omega), wi_o (by omega)]
    exact ⟨t1, t2, t3, fun q => absurd q hon, fun _ => ⟨q1, q2, ⟨z, hz, hz2, rfl, rfl⟩, q4⟩⟩
  · have hh := hS.sh.2.2.1 p hp
    exact wi_o (Or.inl (by show σ.2 (38 + m) p ≠ _; omega))
end
section
/-! PURE. a request goes; what it would take; the search for one -/
def rpi (q p : Nat) : Nat := if p < q then p else if p < 7 then p + 1 else q
theorem rpi_lt {q p : Nat} (hq : q < 8) (hp : p < 8) : rpi q p < 8 := by
  unfold rpi
  split
  · exact hp
  · split <;> omega
theorem rpi_inj {q a b : Nat} (hq : q < 8) (ha : a < 8) (hb : b < 8) (h : rpi q a = rpi q b) : a = b := by
  unfold rpi at h
  split at h <;> split at h <;> (try split at h) <;> (try split at h) <;> omega
theorem rpi_ne {q p Q : Nat} (hp : p < Q - 1) (hq : q < Q) (hQ : Q ≤ 8) : rpi q p ≠ q ∧ rpi q p < Q := by
  unfold rpi
  split
  · omega
  · split <;> omega
theorem remove_R {σ τ σ' τ' : Mem} {m L : Nat} {W : Nat → Nat} {u N Q q : Nat} (h : RR σ τ m L W u N Q) (hq : q < Q)
    (e1 : ∀ a b, (a ≠ 10 * m + 9 ∨ b ≠ 1) → σ'.1 a b = σ.1 a b) (es : σ'.1 (10 * m + 9) 1 = nI (Q - 1)) (e2 : ∀ a, a ≠ 38 + m → σ'.2 a = σ.2 a) (er : ∀ p, p < 8 → rw_ σ' m p = rw_ σ m (rpi q p))
    (m1 : ∀ a b, a ≠ 47 → τ'.1 a b = τ.1 a b) (ms : τ'.1 47 60 = nI (Q - 1)) (m2 : ∀ b, b ≠ 60 → (b < 28 + 4 * q ∨ 28 + 4 * (Q - 1) ≤ b) → τ'.1 47 b = τ.1 47 b) (m3 : ∀ b, 28 + 4 * q ≤ b → b < 28 + 4 * (Q - 1) → τ'.1 47 b = τ.1 47 (b + 4)) :
    RR σ' τ' m L W u N (Q - 1) := by
  obtain ⟨hS, hG, hK, hT, hQ, hP, hB⟩ := h
  have hL := hS.lv
  have hm2 := hS.m2
  obtain ⟨a1, a2, a3, a4, a5, a6, a7, a8, a9, a10, a11⟩ := hQ
  have hsh : ShM σ' m := by
    obtain ⟨s1, s2, s3, s4⟩ := hS.sh
    refine ⟨s1, fun j hj => by rw [e2 _ (by omega)]; exact s2 j hj, fun p hp => ?_, fun p p' hp hp' he => ?_⟩
    · rw [show σ'.2 (38 + m) p = rw_ σ' m p from rfl, er p hp]
      exact s3 _ (rpi_lt (by omega) hp)
    · rw [show σ'.2 (38 + m) p = rw_ σ' m p from rfl, show σ'.2 (38 + m) p' = rw_ σ' m p' from rfl, er p hp, er p' hp'] at he
      exact rpi_inj (by omega) hp hp' (s4 _ _ (rpi_lt (by omega) hp) (rpi_lt (by omega) hp') he)
  have mf : ∀ p j, p < Q - 1 → j < 4 → τ'.1 47 (28 + j + 4 * p) = τ.1 47 (28 + j + 4 * rpi q p) := by
    intro p j hp hj
    unfold rpi
    by_cases c : p < q
    · rw [if_pos c, m2 _ (by omega) (by omega)]
    · rw [if_neg c, if_pos (by omega), m3 _ (by omega) (by omega), show 28 + j + 4 * p + 4 = 28 + j + 4 * (p + 1) by omega]
  have ef : ∀ p b, p < 8 → σ'.1 (rw_ σ' m p) b = σ.1 (rw_ σ m (rpi q p)) b := by
    intro p b hp
    have hh := hS.sh.2.2.1 (rpi q p) (rpi_lt (by omega) hp)
    rw [er p hp, e1 _ _ (Or.inl (by show σ.2 (38 + m) _ ≠ _; omega))]
  have mo : ∀ b, b < 28 ∨ 60 < b → τ'.1 47 b = τ.1 47 b := fun b hb => m2 b (by omega) (by omega)
  refine ⟨hS.to hsh (fun k b k1 b1 => e1 _ _ (by omega)) (fun b b1 b2 => e1 _ _ (by omega)) (fun a b hab => m1 _ _ (by omega)), hG.to (fun k b k1 b1 b2 => e1 _ _ (by omega)) (fun b hb => mo _ (by omega)), hK.to (fun b b1 b2 => e1 _ _ (by omega)) (fun b hb => mo _ (by omega)) (m1 _ _ (by omega)), hT.to (fun b hb => e1 _ _ (by omega)) (e1 _ _ (by omega)) (fun b b1 b2 => mo _ (by omega)) (mo _ (by omega)), ?_, hP.to hL (fun k k1 => e1 _ _ (by omega)) (onT_cong (e1 _ _ (by omega)) (e1 _ _ (by omega))) (m1 _ _ (by omega)), hB.to hL (fun k k1 => e1 _ _ (by omega)) (e1 _ _ (by omega)) (e1 _ _ (by omega))⟩
  refine ⟨by omega, a2, es, ms, fun p hp => ?_, fun p p' hp hp' hne => ?_, by rw [e1 _ _ (by omega)]; exact a7, by rw [e1 _ _ (by omega)]; exact a8, fun p hp => ?_, ?_, fun p hp => ?_⟩
  · have hr := rpi_ne hp hq a1
    rw [ef p 0 (by omega), ef p 1 (by omega), ef p 2 (by omega), ef p 3 (by omega), mf p 0 hp (by omega), mf p 1 hp (by omega), mf p 2 hp (by omega), mf p 3 hp (by omega)]
    exact a5 _ hr.2
  · have hr := rpi_ne hp hq a1
    have hr' := rpi_ne hp' hq a1
    rw [ef p 0 (by omega), ef p' 0 (by omega)]
    exact a6 _ _ hr.2 hr'.2 (fun e => hne (rpi_inj (by omega) (by omega) (by omega) e))
  · have hr := rpi_ne hp hq a1
    rw [ef p 0 (by omega), e1 _ _ (by omega), e1 _ _ (by omega)]
    exact a9 _ hr.2
  · rw [e1 _ _ (by omega), e1 _ _ (by omega)]
    exact a10
  · rw [ef p 1 hp]
    exact a11 _ (rpi_lt (by omega) hp)
theorem sr_at {g : Nat → Int32} {x : Int32} {Q q : Nat} (hq : q < Q) (h1 : g q = x) (h2 : ∀ p, p < q → g p ≠ x) : sr g x Q 0 = q := by
  obtain ⟨-, b, c, e⟩ := sr_spec g x Q 0
  rcases Nat.lt_trichotomy (sr g x Q 0) q with h | h | h
  · exact absurd (e (by omega)) (h2 _ h)
  · exact h
  · exact absurd h1 (c q (by omega) h)
theorem RQ.num {σ τ : Mem} {m L N Q q : Nat} (h : RQ σ τ m L N Q) (hq : q < Q) : sr (fun p => σ.1 (rw_ σ m p) 0) (σ.1 (rw_ σ m q) 0) Q 0 = q :=
  sr_at hq rfl (fun p hp => h.2.2.2.2.2.1 p q (by omega) hq (by omega))
/-- both systems let request q go -/
theorem remove_sim {n n' : Nat} (hn : 10 < n) (hn' : 40 < n') {σ τ : Mem} {m L : Nat} {W : Nat → Nat} {u N Q q : Nat} (h : RR σ τ m L W u N Q) (hq : q < Q) :
    ∃ σ' τ', sp_X4_remove n σ (10 * m + 9) (σ.1 (rw_ σ m q) 0) = some ((), σ') ∧ sp_X6_goes n' τ 41 (nI q) = some ((), τ') ∧ RR σ' τ' m L W u N (Q - 1) ∧ FrC σ σ' m ∧ FrM τ τ' ∧ (∀ a b, (a ≠ 10 * m + 9 ∨ b ≠ 1) → σ'.1 a b = σ.1 a b) ∧ (∀ p, p < 8 → rw_ σ' m p = rw_ σ m (rpi q p)) := by
  have hQ := h.2.2.2.2.1
  have hS := h.1
  obtain ⟨a1, a2, a3, a4, -⟩ := hQ
  obtain ⟨σ', e0, e1, e2, e3, e4, e5, e6⟩ := ev_remove hn hS.sh a3 a1 (h.2.2.2.2.1.num hq) hq
  obtain ⟨τ', f0, f1, f2, f3, f4, f5⟩ := ev_goes hn' (σ := τ) (W := Q - 1) (q := q) (by rw [a4, show Q - 1 + 1 = Q by omega]) (by omega) (by omega)
  have er : ∀ p, p < 8 → rw_ σ' m p = rw_ σ m (rpi q p) := by
    intro p hp
    unfold rpi
    by_cases c : p < q
    · rw [if_pos c]
      exact e4 p c
    · rw [if_neg c]
      by_cases c2 : p < 7
      · rw [if_pos c2]
        exact e5 p (by omega) c2
      · rw [if_neg c2, show p = 7 by omega]
        exact e6
  refine ⟨σ', τ', e0, f0, remove_R h hq e1 e2 e3 er f2 f3 f4 f5, ⟨fun a b h1 h2 => e1 a b (by omega), e3⟩, ⟨fun a b h1 => f2 a b h1, f1⟩, e1, er⟩
def ldC (σ : Mem) (m k : Nat) (c x : Int32) : Int32 :=
  if c = 111 then (if x < σ.1 (10 * m + k) 9 then x else σ.1 (10 * m + k) 9) else if c = 117 then (if x < σ.1 (10 * m + k) 8 then x else σ.1 (10 * m + k) 8) else if alC σ m k = 0 then if cdC σ m k = 0 then (if x < σ.1 (10 * m) 8 then x else σ.1 (10 * m) 8) else 0 else 0
theorem ev_loadOf (n : Nat) {σ τ : Mem} {m L : Nat} {W : Nat → Nat} {u : Nat} (h : RS σ τ m L W u) {o k : Nat} (hk1 : 1 ≤ k) (hk2 : k ≤ L) (ho : σ.1 o 2 = nI k) : sp_X1_loadOf n σ (10 * m + 7) o = some (ldC σ m k (σ.1 o 1) (σ.1 o 3), σ) := by
  have hL := h.lv
  unfold sp_X1_loadOf ldC
  rw [ho, ev_place n h.sh (by omega)]
  simp only [Option.bind_some]
  rw [if_pos (ok_lv h.m2 (by omega))]
  by_cases c1 : σ.1 o 1 = 111
  · rw [if_pos c1, if_pos c1]
  rw [if_neg c1, if_neg c1]
  by_cases c2 : σ.1 o 1 = 117
  · rw [if_pos c2, if_pos c2]
  rw [if_neg c2, if_neg c2, h.alarm n hk1 hk2]
  simp only [Option.bind_some]
  by_cases c3 : alC σ m k = 0
  · rw [if_pos c3, if_pos c3, ev_isShut]
    simp only [Option.bind_some]
    by_cases c4 : cdC σ m k = 0
    · rw [if_pos c4, if_pos c4, rf_0 h.m2]
    · rw [if_neg c4, if_neg c4]
  · rw [if_neg c3, if_neg c3]
theorem ev_loadOfM (n : Nat) {σ τ : Mem} {m L : Nat} {W : Nat → Nat} {u N : Nat} (h : RS σ τ m L W u) (hg : RG σ τ m) (hkk : RK σ τ m L N) {k : Nat} (hk1 : 1 ≤ k) (hk2 : k ≤ L) (c : Int32) {x y : Int32} (hx : c = 111 → x = 20) (hx2 : c ≠ 111 → x = y) : sp_X6_loadOf n τ 41 c (nI k) y = some (ldC σ m k c x, τ) := by
  have hL := h.lv
  have h7 : inR (7 : Int32) 73 := by decide
  have c7 : (7 : Int32).toNatClampNeg = 7 := by decide
  unfold sp_X6_loadOf ldC
  simp only [ix14, ix7, rfm_11, nI_cl (show 14 + k < 100000 by omega), nI_cl (show 7 + k < 100000 by omega), c7]
  by_cases c1 : c = 111
  · rw [if_pos c1, if_pos c1, if_pos (inR_nI (by omega) (by omega)), hx c1, (hg k (by omega)).2.2.1, min_com _ 20]
  rw [if_neg c1, if_neg c1, hx2 c1]
  by_cases c2 : c = 117
  · rw [if_pos c2, if_pos c2, if_pos (inR_nI (by omega) (by omega)), (hg k (by omega)).2.1, min_com _ y]
  rw [if_neg c2, if_neg c2, h.alarmM hg n hk1 hk2]
  simp only [Option.bind_some]
  by_cases c3 : alC σ m k = 0
  · rw [if_pos c3, if_pos c3, ev_closedM n hg hkk (by omega)]
    simp only [Option.bind_some]
    by_cases c4 : cdC σ m k = 0
    · rw [if_pos c4, if_pos c4, if_pos h7, show σ.1 (10 * m) 8 = τ.1 47 7 from (hg 0 (by omega)).2.1, min_com _ y]
    · rw [if_neg c4, if_neg c4]
  · rw [if_neg c3, if_neg c3]
/-- is the request at p for ore? -/
def mtC (σ : Mem) (m p : Nat) : Int32 := if σ.1 (rw_ σ m p) 1 = 111 then 1 else 0
theorem lp_oldest (n : Nat) {σ : Mem} {m Q : Nat} {b a1 : Int32} (hb : b = 0 ∨ b = 1) (h : ShM σ m) (hs : σ.1 (10 * m + 9) 1 = nI Q) (hQ : Q ≤ 8) : ∀ (d k j : Nat), j + d = Q → d < k →
    lp_X4_oldest_2 n (10 * m + 9) a1 k σ b (nI j) = some (if sr (mtC σ m) b d j = Q then none else some (rw_ σ m (sr (mtC σ m) b d j)), σ) := by
  intro d
  induction d with
  | zero =>
    intro k j hj hk
    obtain ⟨k, rfl⟩ : ∃ z, k = z + 1 := ⟨k - 1, by omega⟩
    rw [lp_X4_oldest_2_s, hs, if_pos ((le_nI (by omega) (by omega)).mpr (by omega)), sr, if_pos (by omega)]
  | succ d ih =>
    intro k j hj hk
    obtain ⟨k, rfl⟩ : ∃ z, k = z + 1 := ⟨k - 1, by omega⟩
    have hr := h.2.2.1 j (by omega)
    have hi : inR (nI j) 8 ∧ Ok (rw_ σ m j) 2 := ⟨inR_nI (by omega) (by omega), ok_rq h.1 hr.1 hr.2⟩
    rw [lp_X4_oldest_2_s, hs, if_neg (by rw [le_nI (by omega) (by omega)]; omega), if_neg (show ¬ (8 : Int32) ≤ nI j by rw [n8, le_nI (by omega) (by omega)]; omega)]
    simp only [nI_cl (show j < 100000 by omega), rf_w h.1, add1_nI]
    rw [if_pos hi, sr]
    have ih' := ih k (j + 1) (by omega) (by omega)
    by_cases c : σ.1 (rw_ σ m j) 1 = 111
    · have em : mtC σ m j = 1 := if_pos c
      rw [if_pos c, em]
      by_cases c2 : (1 : Int32) = b
      · rw [if_pos c2, if_pos c2, if_pos hi, if_neg (by omega)]
      · rw [if_neg c2, if_neg c2]
        exact ih'
    · have em : mtC σ m j = 0 := if_neg c
      rw [if_neg c, em]
      by_cases c2 : (0 : Int32) = b
      · rw [if_pos c2, if_pos c2, if_pos hi, if_neg (by omega)]
      · rw [if_neg c2, if_neg c2]
        exact ih'
theorem ev_oldest {n : Nat} (hn : 10 < n) {σ : Mem} {m Q : Nat} {b : Int32} (hb : b = 0 ∨ b = 1) (h : ShM σ m) (hs : σ.1 (10 * m + 9) 1 = nI Q) (hQ : Q ≤ 8) : sp_X4_oldest n σ (10 * m + 9) b = some (if sr (mtC σ m) b Q 0 = Q then none else some (rw_ σ m (sr (mtC σ m) b Q 0)), σ) := by
  unfold sp_X4_oldest
  rw [n0]
  exact lp_oldest n hb h hs hQ Q n 0 (by omega) (by omega)
end
section
/-! PURE. the search for a request with a load, of both systems -/
theorem drop_R {σ τ : Mem} {m L : Nat} {W : Nat → Nat} {u N Q : Nat} (h : RR σ τ m L W u N Q) : RR (wi σ (10 * m + 7) 14 (σ.1 (10 * m + 7) 14 + 1)) (wi τ 47 69 (τ.1 47 69 + 1)) m L W u N Q := by
  obtain ⟨hS, hG, hK, hT, hQ, hP, hB⟩ := h
  have hL := hS.lv
  have hm2 := hS.m2
  refine ⟨hS.to (hS.sh.to rfl) (fun k b k1 b1 => wi_o (by omega)) (fun b b1 b2 => wi_o (by omega)) (fun a b hab => wi_o (by omega)), hG.to (fun k b k1 b1 b2 => wi_o (by omega)) (fun b hb => wi_o (by omega)), ?_, hT.to (fun b hb => wi_o (by omega)) (wi_o (by omega)) (fun b b1 b2 => wi_o (by omega)) (wi_o (by omega)), hQ.to (wi_o (by omega)) (fun p b hp hb => ?_) (wi_o (by omega)) (wi_o (by omega)) (fun b b1 b2 => wi_o (by omega)), hP.to hL (fun k k1 => wi_o (by omega)) (onT_cong (wi_o (by omega)) (wi_o (by omega))) (wi_o (by omega)), hB.to hL (fun k k1 => wi_o (by omega)) (wi_o (by omega)) (wi_o (by omega))⟩
  · obtain ⟨k1, k2, k3, k4, k5, k6, k7, k8⟩ := hK
    refine ⟨?_, ?_, ?_, ?_, ?_, ?_, ?_, ?_⟩
    · rw [wi_o (by omega), wi_o (by omega)]; exact k1
    · rw [wi_o (by omega), wi_o (by omega)]; exact k2
    · rw [wi_o (by omega), wi_o (by omega)]; exact k3
    · rw [wi_o (by omega)]; exact k4
    · rw [wi_o (by omega)]; exact k5
    · rw [wi_o (by omega), wi_o (by omega)]; exact k6
    · rw [wi_o (by omega), wi_o (by omega)]; exact k7
    · rw [wi_eq rfl rfl, wi_eq rfl rfl, k8]
  · have hh := hS.sh.2.2.1 p hp
    exact wi_o (Or.inl (by show σ.2 (38 + m) p ≠ _; omega))
theorem rw_ne {σ : Mem} {m p j : Nat} (h : ShM σ m) (hp : p < 8) (hj : j ≤ 9) : rw_ σ m p ≠ 10 * m + j := by
  have h1 := h.1
  have h2 := h.2.2.1 p hp
  unfold rw_
  omega
theorem ch_kd {c : Int32} (h : c = 100 ∨ c = 117 ∨ c = 111) : (c.toUInt32 % 65536).toInt32 = c := by
  rcases h with h | h | h <;> subst h <;> decide
theorem ix4_1 {p : Nat} : (28 : Int32) + (4 : Int32) * nI p + 1 = nI (29 + 4 * p) := by rw [ix4, n1, add_nI, show 28 + 4 * p + 1 = 29 + 4 * p by omega]
theorem ix4_2 {p : Nat} : (28 : Int32) + (4 : Int32) * nI p + 2 = nI (30 + 4 * p) := by rw [ix4, show (2 : Int32) = nI 2 from rfl, add_nI, show 28 + 4 * p + 2 = 30 + 4 * p by omega]
theorem ix4_3 {p : Nat} : (28 : Int32) + (4 : Int32) * nI p + 3 = nI (31 + 4 * p) := by rw [ix4, show (3 : Int32) = nI 3 from rfl, add_nI, show 28 + 4 * p + 3 = 31 + 4 * p by omega]
theorem lp_skip (n : Nat) {σ τ : Mem} {m L N Q : Nat} {b a1 : Int32} (hb : b = 0 ∨ b = 1) (h : RQ σ τ m L N Q) : ∀ (d k p : Nat), p + d ≤ Q → d < k → (∀ p0, p ≤ p0 → p0 < p + d → mtC σ m p0 ≠ b) → lp_X6_takes_2 n 41 a1 k τ b (nI p) = lp_X6_takes_2 n 41 a1 (k - d) τ b (nI (p + d)) := by
  intro d
  obtain ⟨q1, q2, q3, q4, q5, -⟩ := h
  induction d with
  | zero => intro k p hp hk hn; rfl
  | succ d ih =>
    intro k p hp hk hn
    obtain ⟨k, rfl⟩ : ∃ z, k = z + 1 := ⟨k - 1, by omega⟩
    have hm := hn p (Nat.le_refl _) (by omega)
    obtain ⟨-, ek, -⟩ := q5 p (by omega)
    have ih' := ih k (p + 1) (by omega) (by omega) (fun p0 h1 h2 => hn p0 (by omega) (by omega))
    rw [show k - d = k + 1 - (d + 1) by omega, show p + 1 + d = p + (d + 1) by omega] at ih'
    rw [lp_X6_takes_2_s, if_pos i60]
    simp only [rfm_11, c60, q4, ix4_1]
    rw [if_neg (by rw [le_nI (by omega) (by omega)]; omega), if_pos (inR_nI (by omega) (by omega))]
    simp only [nI_cl (show 29 + 4 * p < 100000 by omega)]
    rw [← ek, add1_nI]
    unfold mtC at hm
    by_cases c : σ.1 (rw_ σ m p) 1 = 111
    · rw [if_pos c] at hm
      rw [if_pos c, if_neg hm]
      exact ih'
    · rw [if_neg c] at hm
      rw [if_neg c, if_neg hm]
      exact ih'
theorem take_step (n : Nat) {τ τ1 : Mem} {b a1 : Int32} {Q q k kk : Nat} {c x num ld : Int32} (hq : q < Q) (hQ : Q ≤ 8) (q4 : τ.1 47 60 = nI Q) (hc : c = 100 ∨ c = 117 ∨ c = 111) (hb : c = 111 ∧ b = 1 ∨ c ≠ 111 ∧ b = 0) (e0 : τ.1 47 (28 + 4 * q) = num) (e1 : τ.1 47 (29 + 4 * q) = c) (e2 : τ.1 47 (30 + 4 * q) = nI kk) (e3 : τ.1 47 (31 + 4 * q) = x) (hl : sp_X6_loadOf n τ 41 c (nI kk) x = some (ld, τ)) (hg : sp_X6_goes n τ 41 (nI q) = some ((), τ1)) :
    lp_X6_takes_2 n 41 a1 (k + 1) τ b (nI q) = if ld ≤ 0 then lp_X6_takes_2 n 41 a1 k (wi τ1 47 69 (τ1.1 47 69 + 1)) b (nI q) else ((sp_X6_begins n τ1 41 c (nI kk) ld num).bind fun r => some (1, r.2)) := by
  rw [lp_X6_takes_2_s, if_pos i60]
  simp only [rfm_11, c60, q4, ix4_1, ix4_2, ix4_3]
  simp only [ix4]
  rw [if_neg (by rw [le_nI (by omega) (by omega)]; omega), if_pos (inR_nI (by omega) (by omega))]
  simp only [nI_cl (show 28 + 4 * q < 100000 by omega), nI_cl (show 29 + 4 * q < 100000 by omega), nI_cl (show 30 + 4 * q < 100000 by omega), nI_cl (show 31 + 4 * q < 100000 by omega)]
  rw [e0, e1, e2, e3, ch_kd hc]
  rcases hb with ⟨h1, h2⟩ | ⟨h1, h2⟩
  · rw [if_pos h1, if_pos h2.symm, if_pos (inR_nI (by omega) (by omega)), if_pos (inR_nI (by omega) (by omega)), if_pos (inR_nI (by omega) (by omega)), if_pos (inR_nI (by omega) (by omega)), hl]
    simp only [Option.bind_some]
    rw [hg]
    simp only [Option.bind_some]
    rw [if_pos i69, if_pos i69]
    simp only [lm, ix69]
  · rw [if_neg h1, if_pos h2.symm, if_pos (inR_nI (by omega) (by omega)), if_pos (inR_nI (by omega) (by omega)), if_pos (inR_nI (by omega) (by omega)), if_pos (inR_nI (by omega) (by omega)), hl]
    simp only [Option.bind_some]
    rw [hg]
    simp only [Option.bind_some]
    rw [if_pos i69, if_pos i69]
    simp only [lm, ix69]
theorem ldC_cong {σ σ' : Mem} {m k : Nat} {c x : Int32} (hk : k < 7) (h : ∀ a b, (a ≠ 10 * m + 9 ∨ b ≠ 1) → σ'.1 a b = σ.1 a b) : ldC σ' m k c x = ldC σ m k c x := by
  unfold ldC alC cdC shC
  rw [h _ _ (by omega), h _ _ (by omega), h _ _ (by omega), h _ _ (by omega), h _ _ (by omega), h _ _ (by omega), h _ _ (by omega), h _ _ (by omega)]
theorem take_sim {n n' : Nat} (hn : 10 < n) (hn' : 40 < n') {m L : Nat} {W : Nat → Nat} {u N : Nat} {b a1 a1' : Int32} (hb : b = 0 ∨ b = 1) : ∀ (Q : Nat) (σ τ : Mem) (i p k k' : Nat), RR σ τ m L W u N Q → σ.1 (10 * m + 8) 0 = 45 → p ≤ Q → (∀ p0, p0 < p → mtC σ m p0 ≠ b) → i + Q ≤ 8 → 8 < k + i → Q < k' + p →
    ∃ r σ' τ' Q', lp_X1_startRequest_2 n (10 * m + 7) a1 k σ b (nI i) = some (r, σ') ∧ lp_X6_takes_2 n' 41 a1' k' τ b (nI p) = some (r, τ') ∧ RR σ' τ' m L W u N Q' ∧ FrC σ σ' m ∧ FrM τ τ' ∧ (r = 0 ∧ σ'.1 (10 * m + 8) 0 = 45 ∨ r = 1 ∧ σ'.1 (10 * m + 8) 0 ≠ 45) ∧ σ'.1 (10 * m + 7) 15 = σ.1 (10 * m + 7) 15 := by
  intro Q
  induction Q with
  | zero =>
    intro σ τ i p k k' h hoff hp hmt hi hk hk'
    obtain ⟨q1, q2, q3, q4, -⟩ := h.2.2.2.2.1
    obtain ⟨k, rfl⟩ : ∃ z, k = z + 1 := ⟨k - 1, by omega⟩
    obtain ⟨k', rfl⟩ : ∃ z, k' = z + 1 := ⟨k' - 1, by omega⟩
    refine ⟨0, σ, τ, 0, ?_, ?_, h, FrC.rfl' _ _, FrM.rfl' _, Or.inl ⟨rfl, hoff⟩, rfl⟩
    · rw [lp_X1_startRequest_2_s]
      by_cases c : 8 ≤ nI i
      · rw [if_pos c]
      · rw [if_neg c, rf_2 h.1.m2, ev_oldest hn hb h.1.sh q3 (by omega), sr, if_pos rfl]
        rfl
    · rw [lp_X6_takes_2_s, if_pos i60]
      simp only [rfm_11, c60, q4]
      rw [if_pos ((le_nI (by omega) (by omega)).mpr (by omega))]
  | succ Q ih =>
    intro σ τ i p k k' h hoff hp hmt hi hk hk'
    have hQ := h.2.2.2.2.1
    have hS := h.1
    have hL := hS.lv
    obtain ⟨q1, q2, q3, q4, q5, q6, q7, q8, q9, -⟩ := id hQ
    obtain ⟨k, rfl⟩ : ∃ z, k = z + 1 := ⟨k - 1, by omega⟩
    obtain ⟨-, s1, s2, s3⟩ := sr_spec (mtC σ m) b (Q + 1) 0
    have hq : ∃ q, sr (mtC σ m) b (Q + 1) 0 = q := ⟨_, rfl⟩
    obtain ⟨q, hq⟩ := hq
    rw [hq] at s1 s2 s3
    have hpq : p ≤ q := by
      rcases Nat.lt_or_ge q p with c | c
      · exact absurd (s3 (by omega)) (hmt q c)
      · exact c
    rw [lp_skip n' (σ := σ) hb hQ (q - p) k' p (by omega) (by omega) (fun p0 h1 h2 => s2 p0 (by omega) (by omega)), show p + (q - p) = q by omega]
    obtain ⟨k', e'⟩ : ∃ z, k' - (q - p) = z + 1 := ⟨k' - (q - p) - 1, by omega⟩
    rw [e', lp_X1_startRequest_2_s, if_neg (show ¬ (8 : Int32) ≤ nI i by rw [n8, le_nI (by omega) (by omega)]; omega), rf_2 hS.m2, ev_oldest hn hb hS.sh q3 q1, hq]
    simp only [Option.bind_some]
    by_cases c : q = Q + 1
    · rw [if_pos c]
      refine ⟨0, σ, τ, Q + 1, rfl, ?_, h, FrC.rfl' _ _, FrM.rfl' _, Or.inl ⟨rfl, hoff⟩, rfl⟩
      rw [lp_X6_takes_2_s, if_pos i60]
      simp only [rfm_11, c60, q4]
      rw [if_pos ((le_nI (by omega) (by omega)).mpr (by omega))]
    · have hqQ : q < Q + 1 := by omega
      have hr := hS.sh.2.2.1 q (by omega)
      obtain ⟨σ1, τ1, f1, f2, f3, f4, f5, f6, f7⟩ := remove_sim hn hn' h hqQ
      rw [Nat.add_sub_cancel] at f3
      obtain ⟨⟨r, r1, r2, r3⟩, g2, g3, ⟨kk, g4, g5, g6, g7⟩, g8, g9⟩ := q5 q hqQ
      have fr : ∀ b, σ1.1 (rw_ σ m q) b = σ.1 (rw_ σ m q) b := fun b => f6 _ _ (Or.inl (rw_ne hS.sh (by omega) (by omega)))
      have hbb : σ.1 (rw_ σ m q) 1 = 111 ∧ b = 1 ∨ σ.1 (rw_ σ m q) 1 ≠ 111 ∧ b = 0 := by
        have := s3 (by omega)
        unfold mtC at this
        by_cases c : σ.1 (rw_ σ m q) 1 = 111
        · rw [if_pos c] at this
          exact Or.inl ⟨c, this.symm⟩
        · rw [if_neg c] at this
          exact Or.inr ⟨c, this.symm⟩
      rw [if_neg c]
      simp only []
      rw [if_pos (ok_rq hS.m2 hr.1 hr.2), f1]
      simp only [Option.bind_some]
      rw [ev_loadOf n f3.1 g4 g5 (by rw [fr]; exact g6), fr 1, fr 3, ldC_cong (by omega) f6]
      simp only [Option.bind_some]
      rw [take_step n' (a1 := a1') (k := k') hqQ q1 q4 g3 hbb r3 g2.symm g7 rfl (ev_loadOfM n' hS h.2.1 h.2.2.1 g4 g5 _ g8 g9) f2, fr 1, fr 2, fr 0, g6, r2]
      by_cases cl : ldC σ m kk (σ.1 (rw_ σ m q) 1) (σ.1 (rw_ σ m q) 3) ≤ 0
      · rw [if_pos cl, if_pos cl]
        simp only [lm, add1_nI]
        have hoff1 : σ1.1 (10 * m + 8) 0 = 45 := by rw [f6 _ _ (by omega)]; exact hoff
        obtain ⟨r', σ', τ', Q', w1, w2, w3, w4, w5, w6, w7⟩ := ih _ _ (i + 1) q k k' (drop_R f3) (by rw [wi_o (by omega)]; exact hoff1) (by omega) (fun p0 hp0 => by
          have h1 := s2 p0 (by omega) hp0
          have hh := hS.sh.2.2.1 p0 (by omega)
          have e : rw_ σ1 m p0 = rw_ σ m p0 := by rw [f7 p0 (by omega)]; unfold rpi; rw [if_pos hp0]
          unfold mtC at h1 ⊢
          rw [show rw_ (wi σ1 (10 * m + 7) 14 (σ1.1 (10 * m + 7) 14 + 1)) m p0 = rw_ σ1 m p0 from rfl, e, wi_o (Or.inl (rw_ne hS.sh (by omega) (by omega))), f6 _ _ (Or.inl (rw_ne hS.sh (by omega) (by omega)))]
          exact h1) (by omega) (by omega) (by omega)
        refine ⟨r', σ', τ', Q', w1, w2, w3, (f4.trans ⟨fun a b h1 h2 => wi_o (by omega), fun _ _ => rfl⟩).trans w4, (f5.trans ⟨fun a b h1 => wi_o (by omega), rfl⟩).trans w5, w6, ?_⟩
        rw [w7, wi_o (by omega), f6 _ _ (by omega)]
      · rw [if_neg cl, if_neg cl]
        obtain ⟨σ', τ', w1, w2, w3, w4, w5, w6, w7⟩ := begin_sim n n' (c := σ.1 (rw_ σ m q) 1) (k := kk) (y := ldC σ m kk (σ.1 (rw_ σ m q) 1) (σ.1 (rw_ σ m q) 3)) (q := nI r) f3 (by rw [f6 _ _ (by omega)]; exact hoff) (by
            rcases g3 with e | e | e
            · exact Or.inl e
            · exact Or.inr (Or.inl e)
            · exact Or.inr (Or.inr (Or.inl e))) g4 g5 (Or.inr ⟨r, r1, rfl⟩) (fun p0 hp0 => by
            have hne := rpi_ne (q := q) (Q := Q + 1) (p := p0) (by omega) hqQ q1
            have hh := hS.sh.2.2.1 (rpi q p0) (by omega)
            rw [f7 p0 (by omega), f6 _ _ (Or.inl (rw_ne hS.sh (by omega) (by omega))), ← r2]
            exact q6 _ _ hne.2 hqQ hne.1) (fun e => by
            rw [f6 _ _ (by omega), ← r2] at e
            exact absurd e.symm (q9 q hqQ).2)
        rw [w1, w2]
        simp only [Option.bind_some]
        refine ⟨1, σ', τ', Q, rfl, rfl, w3, f4.trans w4, f5.trans w5, Or.inr ⟨rfl, ?_⟩, by rw [w7, f6 _ _ (by omega)]⟩
        rw [w6]
        rcases g3 with e | e | e <;> rw [e] <;> decide
end
section
/-! PURE. a minute of both systems -/
theorem acc_mix {v : Int32} {t g c : Nat → Int32} : ∀ j, acc (acc v t j) (fun i => g i + c i - t i) j = acc (acc v g j) c j
  | 0 => rfl
  | j + 1 => by
    have ih := acc_mix (v := v) (t := t) (g := g) (c := c) j
    show acc (acc v t j + t (j + 1)) (fun i => g i + c i - t i) j + (g (j + 1) + c (j + 1) - t (j + 1)) = acc (acc v g j + g (j + 1)) c j + c (j + 1)
    rw [acc_x, acc_x, ih, Int32.sub_eq_add_neg, Int32.add_comm (g (j + 1) + c (j + 1)), Int32.add_assoc, ← Int32.add_assoc (t (j + 1)), Int32.add_right_neg, Int32.zero_add, Int32.add_assoc]
theorem gas_R {σ τ σ1 τ1 : Mem} {m L : Nat} {W : Nat → Nat} {u N Q : Nat} (h : RR σ τ m L W u N Q) (hc : PGc σ σ1 m L) (hm : PGm τ τ1 L W u) : RR σ1 τ1 m L W u N Q := by
  obtain ⟨hS, hG, hK, hT, hQ, hP, hB⟩ := h
  have hL := hS.lv
  have hm2 := hS.m2
  obtain ⟨c1, c2, c3, c4, c5⟩ := hc
  obtain ⟨m1, m2, m3, m4, m5⟩ := hm
  have es : ∀ i, 1 ≤ i → i ≤ L → σ.1 (10 * m + i) 3 = τ.1 45 i ∧ σ.1 (10 * m + i) 5 = nI (airN W L u i) ∧ σ.1 (10 * m + i) 1 = τ.1 43 i ∧ σ.1 (10 * m + i) 7 = τ.1 47 i := fun i i1 i2 => ⟨(hS.row i1 i2).2.1, (hS.row i1 i2).2.2.2.2, hS.siz i1 i2, (hG i (by omega)).1⟩
  refine ⟨hS.to (hS.sh.to c1) (fun k b k1 b1 => c5 _ _ (by omega) (by omega)) (fun b b1 b2 => c5 _ _ (by omega) (by omega)) (fun a b hab => m5 _ _ (by omega)), ?_, ?_, hT.to (fun b hb => c5 _ _ (by omega) (by omega)) (c5 _ _ (by omega) (by omega)) (fun b b1 b2 => m5 _ _ (by omega)) (m5 _ _ (by omega)), hQ.to (c5 _ _ (by omega) (by omega)) (fun p b hp hb => ?_) (c5 _ _ (by omega) (by omega)) (c5 _ _ (by omega) (by omega)) (fun b b1 b2 => m5 _ _ (by omega)), hP.to hL (fun k k1 => c5 _ _ (by omega) (by omega)) (onT_cong (c5 _ _ (by omega) (by omega)) (c5 _ _ (by omega) (by omega))) (m5 _ _ (by omega)), ?_⟩
  · intro k hk
    obtain ⟨g1, g2, g3, g4⟩ := hG k hk
    rw [c5 _ 8 (by omega) (by omega), c5 _ 9 (by omega) (by omega), c5 _ 10 (by omega) (by omega), m5 47 (7 + k) (by omega), m5 47 (14 + k) (by omega), m5 47 (21 + k) (by omega)]
    refine ⟨?_, g2, g3, g4⟩
    by_cases c : 1 ≤ k ∧ k ≤ L
    · obtain ⟨e1, e2, e3, e4⟩ := es k c.1 c.2
      rw [c2 k c.1 c.2, m2 k c.1 c.2, e1, e2, e3, e4]
    · rw [c5 _ 7 (by omega) (by omega), m5 47 k (by omega)]
      exact g1
  · obtain ⟨k1, k2, k3, k4, k5, k6, k7, k8⟩ := hK
    refine ⟨?_, ?_, ?_, ?_, ?_, ?_, ?_, ?_⟩
    · rw [c5 _ _ (by omega) (by omega), m5 _ _ (by omega)]; exact k1
    · rw [c3, m3, k2]
      exact acc_cong (fun i i1 i2 => (es i i1 i2).1)
    · rw [c4, m4, k3]
      exact acc_cong (fun i i1 i2 => by
        obtain ⟨e1, e2, e3, e4⟩ := es i i1 i2
        rw [e1, e2, e3, e4])
    · rw [c5 _ _ (by omega) (by omega)]; exact k4
    · rw [m5 _ _ (by omega)]; exact k5
    · rw [c5 _ _ (by omega) (by omega), m5 _ _ (by omega)]; exact k6
    · rw [c5 _ _ (by omega) (by omega), m5 _ _ (by omega)]; exact k7
    · rw [c5 _ _ (by omega) (by omega), m5 _ _ (by omega)]; exact k8
  · show σ1.1 (σ1.2 (38 + m) p) b = _
    have h1 := rw_ne hS.sh hp (show 7 ≤ 9 by omega)
    have h2 := hS.sh.2.2.1 p hp
    rw [c1]
    exact c5 _ _ (by omega) (by omega)
  · refine ⟨?_, fun k k1 k2 => by rw [c5 _ _ (by omega) (by omega)]; exact hB.2 k k1 k2⟩
    rw [c3, c4, ← hB.1]
    exact (acc_cong (g := fun i => σ.1 (10 * m + i) 7 + σ.1 (10 * m + i) 3 - tkG (σ.1 (10 * m + i) 7 + σ.1 (10 * m + i) 3) (σ.1 (10 * m + i) 5) (σ.1 (10 * m + i) 1)) (fun i i1 i2 => c2 i i1 i2)).trans (acc_mix L)
theorem lp_minGas (n : Nat) {σ τ : Mem} {m L : Nat} {W : Nat → Nat} {u : Nat} (h : RS σ τ m L W u) : ∀ (d k j : Nat) (σ1 : Mem), j + d = L → d < k → PGc σ σ1 m j → ∃ σ2, lp_X1_passMinute_2 n (10 * m + 7) k σ1 (nI (j + 1)) = lp_X1_passMinute_2 n (10 * m + 7) (k - d) σ2 (nI (L + 1)) ∧ PGc σ σ2 m L := by
  intro d
  have hL := h.lv
  induction d with
  | zero =>
    intro k j σ1 hj hk hP
    refine ⟨σ1, ?_, by rw [show L = j by omega]; exact hP⟩
    rw [show j = L by omega]
    rfl
  | succ d ih =>
    intro k j σ1 hj hk hP
    obtain ⟨k, rfl⟩ : ∃ z, k = z + 1 := ⟨k - 1, by omega⟩
    obtain ⟨z, z1, z2, z3, -⟩ := (h.row (k := j + 1) (by omega) (by omega)).1
    obtain ⟨σ2, e1, e2⟩ := PGc_step n (m := m) (show j + 1 ≤ 6 by omega) z1 z2 z3 hP
    obtain ⟨σ3, e3, e4⟩ := ih k (j + 1) σ2 (by omega) (by omega) e2
    refine ⟨σ3, ?_, e4⟩
    rw [lp_X1_passMinute_2_s, hP.2.2.2.2 _ 4 (by omega) (by omega), h.c4, if_neg (by rw [lt_nI (by omega) (by omega)]; omega), ev_place n (h.sh.to hP.1) (by omega)]
    simp only [Option.bind_some]
    rw [if_pos (ok_lv h.m2 (by omega)), e1]
    simp only [Option.bind_some, add1_nI]
    rw [e3, show k + 1 - (d + 1) = k - d by omega]
theorem ev_isOn (n : Nat) (σ : Mem) (o : Nat) : sp_X3_isOn n σ o = some (if σ.1 o 0 = 45 then 0 else 1, σ) := by
  unfold sp_X3_isOn
  split <;> rfl
theorem half_sim (n n' : Nat) {l1 : Int32} {σ τ : Mem} {m L : Nat} {W : Nat → Nat} {u N Q : Nat} (h : RR σ τ m L W u N Q) :
    ∃ σ' τ', lp_X1_passMinute_56 n (10 * m + 7) σ l1 = some ((), σ') ∧ lp_X6_minute_44 n' 41 τ (if σ.1 (10 * m + 8) 0 = 45 then 0 else 1) = some ((), τ') ∧ RR σ' τ' m L W u N Q ∧ FrC σ σ' m ∧ FrM τ τ' ∧ τ'.1 47 72 = τ.1 47 72 ∧ (σ'.1 (10 * m + 8) 0 ≠ 45 → σ'.1 (10 * m + 7) 15 = σ.1 (10 * m + 7) 15 ∧ σ'.1 (10 * m + 8) 4 = σ.1 (10 * m + 8) 4) := by
  have hS := h.1
  have hL := hS.lv
  have hm2 := hS.m2
  have hT := h.2.2.2.1
  unfold lp_X1_passMinute_56 lp_X6_minute_44 lp_X1_passMinute_93 lp_X6_minute_74
  rw [rf_3 hm2, ev_isOn]
  simp only [Option.bind_some, lm, rfm_11, ix66, c61]
  by_cases c : σ.1 (10 * m + 8) 0 = 45
  · rw [if_pos c, if_pos rfl, if_pos rfl, if_pos i61, if_pos i61]
    exact ⟨_, _, rfl, rfl, tick_R h, ⟨fun a b h1 h2 => wi_o (by omega), fun _ _ => rfl⟩, ⟨fun a b h1 => wi_o (by omega), rfl⟩, wi_o (by omega), fun _ => ⟨wi_o (by omega), wi_o (by omega)⟩⟩
  · obtain ⟨⟨k, k1, k2, k3, k4⟩, hl, ⟨z, z1, z2, z3, z4⟩, hb⟩ := hT.2.2.2.2 c
    have hc : kd4 (σ.1 (10 * m + 8) 0) := hT.2.2.1.resolve_left c
    obtain ⟨z, rfl⟩ : ∃ y, z = y + 1 := ⟨z - 1, by omega⟩
    rw [if_neg c, if_neg (show ¬ (1 : Int32) = 0 by decide), if_neg (show ¬ (1 : Int32) = 0 by decide), if_pos i66, if_pos i66, z3, z4, nI_pred, wi_eq rfl rfl, wi_eq rfl rfl, if_pos i66]
    by_cases hz : z = 0
    · subst hz
      rw [if_neg (by decide), if_pos (show nI 0 = 0 from rfl)]
      obtain ⟨σ', e0, e2, g1, g2, g3, g4, g5, g6, g7, g8⟩ := ev_endTrip n (σ := wi σ (10 * m + 8) 3 (nI 0)) (m := m) (k := k) (c := σ.1 (10 * m + 8) 0) (y := (wi σ (10 * m + 8) 3 (nI 0)).1 (10 * m + 8) 2) (q := (wi σ (10 * m + 8) 3 (nI 0)).1 (10 * m + 8) 4) (hS.sh.to rfl) hc (by omega) (wi_o (by omega)) (by rw [wi_o (by omega)]; exact k3) rfl rfl
      have f0 := ev_ends n' (τ := wi τ 47 66 (nI 0)) (k := k) (c := σ.1 (10 * m + 8) 0) (by omega) (by rw [wi_o (by omega)]; exact hT.1.symm) (by rw [wi_o (by omega)]; exact k4)
      rw [e0, f0]
      simp only [Option.bind_some]
      rw [if_pos i61, if_pos i61]
      have hR := end_R (σ1 := wi σ (10 * m + 8) 3 (nI 0)) (τ1 := wi τ 47 66 (nI 0)) h hc k1 k2 rfl (fun a b hab => wi_o hab) (fun a b hab => wi_o hab) e2 g1 g2 g3 g4 g5 g6 g7 g8 rfl
      have ht := to_le (σ.1 (10 * m + 8) 0) k
      have hsm : slM (σ.1 (10 * m + 8) 0) = 7 ∨ slM (σ.1 (10 * m + 8) 0) = 14 := by unfold slM; split <;> simp
      refine ⟨_, _, rfl, rfl, tick_R hR, ⟨fun a b h1 h2 => ?_, fun a ha => ?_⟩, ⟨fun a b h1 => ?_, rfl⟩, ?_, fun hon => absurd ?_ hon⟩
      · rw [wi_o (by omega), g8 _ _ (by omega) (by omega) (by omega), wi_o (by omega)]
      · rw [get_wi2, e2]
        rfl
      · unfold enM
        rw [wi_o (by omega), wi_o (by omega), wi_o (by omega), wi_o (by omega), wi_o (by omega), wi_o (by omega), wi_o (by omega)]
      · unfold enM
        rw [wi_o (by omega), wi_o (by omega), wi_o (by omega), wi_o (by omega), wi_o (by omega), wi_o (by omega), wi_o (by omega)]
      · rw [wi_o (by omega)]
        exact g5
    · rw [if_pos (show (0 : Int32) < nI z by rw [n0, lt_nI (by omega) (by omega)]; omega), if_neg (by rw [eq0_nI (by omega)]; exact hz), if_pos i61, if_pos i61]
      refine ⟨_, _, rfl, rfl, tick_R (rest_R h c (by omega) (by omega)), ⟨fun a b h1 h2 => ?_, fun _ _ => rfl⟩, ⟨fun a b h1 => ?_, rfl⟩, ?_, fun _ => ⟨?_, ?_⟩⟩
      · rw [wi_o (by omega), wi_o (by omega)]
      · rw [wi_o (by omega), wi_o (by omega)]
      · rw [wi_o (by omega), wi_o (by omega)]
      · rw [wi_o (by omega), wi_o (by omega)]
      · rw [wi_o (by omega), wi_o (by omega)]
theorem minute_sim {n n' : Nat} (hn : 20 < n) (hn' : 40 < n') {σ τ : Mem} {m L : Nat} {W : Nat → Nat} {u N Q : Nat} (h : RR σ τ m L W u N Q) :
    ∃ σ' τ' Q', sp_X1_passMinute n σ (10 * m + 7) = some ((), σ') ∧ sp_X6_minute n' τ 41 = some ((), τ') ∧ RR σ' τ' m L W u N Q' ∧ FrC σ σ' m ∧ FrM τ τ' ∧ (σ.1 (10 * m + 8) 0 ≠ 45 → τ'.1 47 72 = τ.1 47 72 ∧ (σ'.1 (10 * m + 8) 0 ≠ 45 → σ'.1 (10 * m + 8) 4 = σ.1 (10 * m + 8) 4)) ∧ (σ'.1 (10 * m + 8) 0 ≠ 45 → σ'.1 (10 * m + 7) 15 = σ.1 (10 * m + 7) 15) := by
  have hS := h.1
  have hL := hS.lv
  have hm2 := hS.m2
  obtain ⟨-, -, -, -, -, s6, s7, -, s9, -⟩ := id hS
  obtain ⟨σ1, e1, e2⟩ := lp_minGas n hS L n 0 σ (by omega) (by omega) (PGc_0 σ m)
  obtain ⟨τ1, f1, f2⟩ := ev_gases (n := n') (by omega) hS.t0 hL s6 s7 s9 (fun k k1 k2 => by
    obtain ⟨z, z1, z2, z3, z4⟩ := (hS.row k1 k2).1
    exact ⟨z, z1, z2, z4⟩)
  have hR := gas_R h e2 f2
  have fc1 : FrC σ σ1 m := ⟨fun a b h1 h2 => e2.2.2.2.2 _ _ (by omega) (by omega), fun _ _ => by rw [e2.1]⟩
  have fm1 : FrM τ τ1 := ⟨fun a b h1 => f2.2.2.2.2 _ _ (by omega), f2.1⟩
  have k0 : σ1.1 (10 * m + 8) 0 = σ.1 (10 * m + 8) 0 := e2.2.2.2.2 _ _ (by omega) (by omega)
  have k4 : σ1.1 (10 * m + 8) 4 = σ.1 (10 * m + 8) 4 := e2.2.2.2.2 _ _ (by omega) (by omega)
  have k15 : σ1.1 (10 * m + 7) 15 = σ.1 (10 * m + 7) 15 := e2.2.2.2.2 _ _ (by omega) (by omega)
  have k72 : τ1.1 47 72 = τ.1 47 72 := f2.2.2.2.2 _ _ (by omega)
  unfold sp_X1_passMinute sp_X6_minute
  have e1' : lp_X1_passMinute_2 n (10 * m + 7) n σ 1 = lp_X1_passMinute_2 n (10 * m + 7) (n - L) σ1 (nI (L + 1)) := e1
  rw [f1, e1']
  obtain ⟨kk, hkk⟩ : ∃ z, n - L = z + 1 := ⟨n - L - 1, by omega⟩
  rw [hkk, lp_X1_passMinute_2_s, hR.1.c4, if_pos ((lt_nI (by omega) (by omega)).mpr (by omega)), rf_3 hm2, ev_isOn]
  simp only [Option.bind_some, rfm_11, ix63]
  rw [if_pos i63, ← hR.2.2.2.1.1, ← k0]
  by_cases c : σ1.1 (10 * m + 8) 0 = 45
  · rw [if_pos c, if_pos rfl, if_pos c]
    obtain ⟨r, σ2, τ2, a1, a2, a3, a4, a5, a6, a7⟩ := flight_sim (n := n) (n' := n') (by omega) (by omega) hR c
    rw [a1, a2]
    simp only [Option.bind_some]
    rcases a6 with ⟨r0, rs, rt⟩ | ⟨r1, rs⟩
    · subst r0
      subst rs
      subst rt
      rw [if_pos rfl, if_pos rfl]
      unfold sp_X1_startRequest sp_X6_takes
      obtain ⟨r, σ3, τ3, Q3, b1, b2, b3, b4, b5, b6, b7⟩ := take_sim (n := n) (n' := n') (a1 := 0) (a1' := 0) (by omega) (by omega) (Or.inl rfl) Q _ _ 0 0 n n' a3 c (by omega) (fun p0 hp => by omega) (by have := a3.2.2.2.2.1.1; omega) (by omega) (by have := a3.2.2.2.2.1.1; omega)
      have b1' : lp_X1_startRequest_2 n (10 * m + 7) 0 n σ2 0 0 = some (r, σ3) := b1
      have b2' : lp_X6_takes_2 n' 41 0 n' τ2 0 0 = some (r, τ3) := b2
      rw [b1', b2']
      simp only [Option.bind_some]
      rcases b6 with ⟨r0, c2⟩ | ⟨r1, c2⟩
      · subst r0
        rw [if_pos rfl, if_pos rfl]
        obtain ⟨r, σ4, τ4, Q4, d1, d2, d3, d4, d5, d6, d7⟩ := take_sim (n := n) (n' := n') (a1 := nI 1) (a1' := nI 1) (b := 1) (by omega) (by omega) (Or.inr rfl) Q3 _ _ 0 0 n n' b3 c2 (by omega) (fun p0 hp => by omega) (by have := b3.2.2.2.2.1.1; omega) (by omega) (by have := b3.2.2.2.2.1.1; omega)
        have d1' : lp_X1_startRequest_2 n (10 * m + 7) 1 n σ3 1 0 = some (r, σ4) := d1
        have d2' : lp_X6_takes_2 n' 41 1 n' τ3 1 0 = some (r, τ4) := d2
        rw [d1', d2']
        simp only [Option.bind_some]
        obtain ⟨σ5, τ5, w1, w2, w3, w4, w5, w6, w7⟩ := half_sim n n' (l1 := nI (L + 1)) d3
        rw [w1]
        refine ⟨σ5, τ5, Q4, rfl, ?_, w3, ((fc1.trans b4).trans d4).trans w4, ((fm1.trans b5).trans d5).trans w5, fun hon => absurd c hon, fun hon => by rw [(w7 hon).1, d7, b7, k15]⟩
        rcases d6 with ⟨r0, c3⟩ | ⟨r1, c3⟩
        · subst r0
          rw [if_pos c3] at w2
          rw [if_pos rfl]
          exact w2
        · subst r1
          rw [if_neg c3] at w2
          rw [if_neg (by decide)]
          exact w2
      · subst r1
        rw [if_neg (by decide), if_neg (by decide)]
        obtain ⟨σ5, τ5, w1, w2, w3, w4, w5, w6, w7⟩ := half_sim n n' (l1 := nI (L + 1)) b3
        rw [if_neg c2] at w2
        rw [w1]
        exact ⟨σ5, τ5, Q3, rfl, w2, w3, (fc1.trans b4).trans w4, (fm1.trans b5).trans w5, fun hon => absurd c hon, fun hon => by rw [(w7 hon).1, b7, k15]⟩
    · subst r1
      rw [if_neg (by decide), if_neg (by decide)]
      obtain ⟨σ5, τ5, w1, w2, w3, w4, w5, w6, w7⟩ := half_sim n n' (l1 := nI (L + 1)) a3
      rw [if_neg (by rw [rs]; decide)] at w2
      rw [w1]
      exact ⟨σ5, τ5, Q, rfl, w2, w3, (fc1.trans a4).trans w4, (fm1.trans a5).trans w5, fun hon => absurd c hon, fun hon => by rw [(w7 hon).1, a7, k15]⟩
  · rw [if_neg c, if_neg (by decide), if_neg c]
    obtain ⟨σ5, τ5, w1, w2, w3, w4, w5, w6, w7⟩ := half_sim n n' (l1 := nI (L + 1)) hR
    rw [if_neg c] at w2
    rw [w1]
    exact ⟨σ5, τ5, Q, rfl, w2, w3, fc1.trans w4, fm1.trans w5, fun _ => ⟨by rw [w6, k72], fun hon => by rw [(w7 hon).2, k4]⟩, fun hon => by rw [(w7 hon).1, k15]⟩
end
section
/-! PURE. the trial is a copy of the mine -/
theorem ev_copyLevel (n : Nat) {σ : Mem} {o o1 : Nat} (hne : o1 ≠ o) (hb : σ.1 o1 4 = 0 ∨ σ.1 o1 4 = 1) : ∃ σ', sp_X0_copyFrom n σ o o1 = some ((), σ') ∧ σ'.2 = σ.2 ∧ (∀ b, b < 11 → σ'.1 o b = σ.1 o1 b) ∧ ∀ a b, a ≠ o → σ'.1 a b = σ.1 a b := by
  have ho : ∀ (σ : Mem) k v b, (wi σ o k v).1 o1 b = σ.1 o1 b := fun σ k v b => wi_o (Or.inl hne)
  unfold sp_X0_copyFrom
  simp only [lm, ho]
  rw [if_pos hb]
  refine ⟨_, rfl, rfl, fun b hb => ?_, fun a b ha => ?_⟩
  · rcases (show b = 0 ∨ b = 1 ∨ b = 2 ∨ b = 3 ∨ b = 4 ∨ b = 5 ∨ b = 6 ∨ b = 7 ∨ b = 8 ∨ b = 9 ∨ b = 10 by omega) with rfl | rfl | rfl | rfl | rfl | rfl | rfl | rfl | rfl | rfl | rfl <;> simp [get_wi]
  · simp [get_wi, ha]
theorem lp_copyRows (n : Nat) {σ0 : Mem} (h0 : ShM σ0 0) (h1 : ShM σ0 1) (hc : ∀ p, p < 8 → 0 ≤ σ0.1 (rw_ σ0 0 p) 1 ∧ σ0.1 (rw_ σ0 0 p) 1 ≤ 65535) {σ1 : Mem} : ∀ (d k p : Nat) (σ : Mem), p + d = 8 → d < k → σ.2 = σ0.2 → (∀ a b, (a < 28 ∨ 35 < a) → σ.1 a b = σ1.1 a b) → (∀ q b, q < 8 → b < 4 → σ1.1 (rw_ σ0 0 q) b = σ0.1 (rw_ σ0 0 q) b) → (∀ q b, q < p → b < 4 → σ.1 (rw_ σ0 1 q) b = σ0.1 (rw_ σ0 0 q) b) →
    ∃ σ', lp_X4_copyFrom_10 n 19 9 k σ (nI p) = some ((), σ') ∧ σ'.2 = σ0.2 ∧ (∀ a b, (a < 28 ∨ 35 < a) → σ'.1 a b = σ1.1 a b) ∧ (∀ q b, q < 8 → b < 4 → σ'.1 (rw_ σ0 1 q) b = σ0.1 (rw_ σ0 0 q) b) := by
  intro d
  induction d with
  | zero =>
    intro k p σ hp hk e2 ef es er
    obtain ⟨k, rfl⟩ : ∃ z, k = z + 1 := ⟨k - 1, by omega⟩
    refine ⟨σ, ?_, e2, ef, fun q b hq hb => er q b (by omega) hb⟩
    rw [lp_X4_copyFrom_10_s, if_pos (show (8 : Int32) ≤ nI p by rw [n8, le_nI (by omega) (by omega)]; omega)]
  | succ d ih =>
    intro k p σ hp hk e2 ef es er
    obtain ⟨k, rfl⟩ : ∃ z, k = z + 1 := ⟨k - 1, by omega⟩
    have r0 := h0.2.2.1 p (by omega)
    have r1 := h1.2.2.1 p (by omega)
    have nle : ¬ (8 : Int32) ≤ nI p := by rw [n8, le_nI (by omega) (by omega)]; omega
    rw [lp_X4_copyFrom_10_s, if_neg nle, if_neg nle]
    have w0 : σ.2 (rf 9 0) (nI p).toNatClampNeg = rw_ σ0 0 p := by rw [nI_cl (by omega), e2]; rfl
    have w1 : σ.2 (rf 19 0) (nI p).toNatClampNeg = rw_ σ0 1 p := by rw [nI_cl (by omega), e2]; rfl
    simp only [w0, w1]
    rw [if_pos ⟨inR_nI (by omega) (by omega), ok_rq h0.1 r0.1 r0.2⟩, if_pos ⟨inR_nI (by omega) (by omega), ok_rq h1.1 r1.1 r1.2⟩]
    have rd : ∀ b, b < 4 → σ.1 (rw_ σ0 0 p) b = σ0.1 (rw_ σ0 0 p) b := fun b hb => by
      rw [ef _ _ (Or.inl (by show σ0.2 (38 + 0) p < 28; omega)), es p b (by omega) hb]
    unfold sp_X2_set
    simp only [lm]
    rw [rd 0 (by omega), rd 1 (by omega), rd 2 (by omega), rd 3 (by omega), if_pos (hc p (by omega))]
    simp only [Option.bind_some, add1_nI]
    refine ih k (p + 1) _ (by omega) (by omega) e2 (fun a b ha => ?_) es (fun q b hq hb => ?_)
    · have : a ≠ rw_ σ0 1 p := by show a ≠ σ0.2 (38 + 1) p; omega
      rw [wi_o (Or.inl this), wi_o (Or.inl this), wi_o (Or.inl this), wi_o (Or.inl this)]
      exact ef a b ha
    · by_cases e : q = p
      · subst e
        rcases (show b = 0 ∨ b = 1 ∨ b = 2 ∨ b = 3 by omega) with rfl | rfl | rfl | rfl <;> simp [get_wi]
      · have : rw_ σ0 1 q ≠ rw_ σ0 1 p := fun he => e (h1.2.2.2 q p (by omega) (by omega) he)
        rw [wi_o (Or.inl this), wi_o (Or.inl this), wi_o (Or.inl this), wi_o (Or.inl this)]
        exact er q b (by omega) hb
/-- σ' is σ with the trial a copy of the mine -/
def CpM (σ σ' : Mem) : Prop := σ'.2 = σ.2 ∧ (∀ k b, k < 7 → b < 11 → σ'.1 (10 + k) b = σ.1 k b) ∧ (∀ b, 4 ≤ b → b < 16 → σ'.1 17 b = σ.1 7 b) ∧ (∀ b, b < 5 → σ'.1 18 b = σ.1 8 b) ∧ σ'.1 19 1 = σ.1 9 1 ∧ (∀ p b, p < 8 → b < 4 → σ'.1 (rw_ σ 1 p) b = σ.1 (rw_ σ 0 p) b) ∧ ∀ a b, (a < 10 ∨ 19 < a) → (a < 28 ∨ 35 < a) → σ'.1 a b = σ.1 a b
theorem lp_copyFrom (n : Nat) (hn : 10 < n) {σ0 : Mem} (h0 : ShM σ0 0) (h1 : ShM σ0 1) (hc : ∀ p, p < 8 → 0 ≤ σ0.1 (rw_ σ0 0 p) 1 ∧ σ0.1 (rw_ σ0 0 p) 1 ≤ 65535) (hb : ∀ k, k < 7 → σ0.1 k 4 = 0 ∨ σ0.1 k 4 = 1) (hk : 0 ≤ σ0.1 8 0 ∧ σ0.1 8 0 ≤ 65535) : ∀ (d k j : Nat) (σ : Mem), j + d = 7 → d < k → σ.2 = σ0.2 → (∀ i b, i < j → b < 11 → σ.1 (10 + i) b = σ0.1 i b) → (∀ a b, (a < 10 ∨ 10 + j ≤ a) → σ.1 a b = σ0.1 a b) →
    ∃ σ', lp_X1_copyFrom_2 n 17 7 k σ (nI j) = some ((), σ') ∧ CpM σ0 σ' := by
  intro d
  induction d with
  | zero =>
    intro k j σ hj hk2 e2 el eo
    obtain ⟨k, rfl⟩ : ∃ z, k = z + 1 := ⟨k - 1, by omega⟩
    rw [lp_X1_copyFrom_2_s, if_pos (show (7 : Int32) ≤ nI j by rw [n7, le_nI (by omega) (by omega)]; omega)]
    have es : (rf 17 2) = 19 ∧ rf 7 2 = 9 ∧ rf 17 3 = 18 ∧ rf 7 3 = 8 := ⟨rfl, rfl, rfl, rfl⟩
    rw [es.1, es.2.1, es.2.2.1, es.2.2.2]
    have rows : ∀ p b, p < 8 → b < 4 → (wi σ 19 1 (σ.1 9 1)).1 (rw_ σ0 0 p) b = σ0.1 (rw_ σ0 0 p) b := fun p b hp _ => by
      have r0 := h0.2.2.1 p hp
      rw [wi_o (Or.inl (by show σ0.2 (38 + 0) p ≠ _; omega)), eo _ _ (Or.inr (by show _ ≤ σ0.2 (38 + 0) p; omega))]
    obtain ⟨σ1, f0, f1, f2, f3⟩ := lp_copyRows n h0 h1 hc (σ1 := wi σ 19 1 (σ.1 9 1)) 8 n 0 (wi σ 19 1 (σ.1 9 1)) (by omega) (by omega) e2 (fun _ _ _ => rfl) rows (fun q b hq => by omega)
    have f0' : sp_X4_copyFrom n σ 19 9 = some ((), σ1) := f0
    rw [f0']
    simp only [Option.bind_some]
    have g8 : ∀ b, σ1.1 8 b = σ0.1 8 b := fun b => by rw [f2 _ _ (by omega), wi_o (by omega), eo _ _ (by omega)]
    have g7 : ∀ b, σ1.1 7 b = σ0.1 7 b := fun b => by rw [f2 _ _ (by omega), wi_o (by omega), eo _ _ (by omega)]
    unfold sp_X3_copyFrom sp_X3_set
    rw [g8 0, if_pos hk]
    simp only [lm, Option.bind_some]
    have p7 : ∀ (σ : Mem) k v b, (wi σ 17 k v).1 7 b = σ.1 7 b := fun σ k v b => wi_o (by omega)
    have p78 : ∀ (σ : Mem) k v b, (wi σ 18 k v).1 7 b = σ.1 7 b := fun σ k v b => wi_o (by omega)
    simp only [p7, p78, g7, g8]
    refine ⟨_, rfl, f1, fun i b hi hb => ?_, fun b b1 b2 => ?_, fun b hb => ?_, ?_, fun p b hp hb => ?_, fun a b q1 q2 => ?_⟩
    · have : ∀ (σ : Mem) k v, (wi σ 17 k v).1 (10 + i) b = σ.1 (10 + i) b := fun σ k v => wi_o (by omega)
      simp only [this]
      have : ∀ (σ : Mem) k v, (wi σ 18 k v).1 (10 + i) b = σ.1 (10 + i) b := fun σ k v => wi_o (by omega)
      simp only [this]
      rw [f2 _ _ (by omega), wi_o (by omega)]
      exact el i b (by omega) hb
    · rcases (show b = 4 ∨ b = 5 ∨ b = 6 ∨ b = 7 ∨ b = 8 ∨ b = 9 ∨ b = 10 ∨ b = 11 ∨ b = 12 ∨ b = 13 ∨ b = 14 ∨ b = 15 by omega) with rfl | rfl | rfl | rfl | rfl | rfl | rfl | rfl | rfl | rfl | rfl | rfl <;> simp [get_wi]
    · have : ∀ (σ : Mem) k v, (wi σ 17 k v).1 18 b = σ.1 18 b := fun σ k v => wi_o (by omega)
      simp only [this]
      rcases (show b = 0 ∨ b = 1 ∨ b = 2 ∨ b = 3 ∨ b = 4 by omega) with rfl | rfl | rfl | rfl | rfl <;> simp [get_wi]
    · have : ∀ (σ : Mem) k v, (wi σ 17 k v).1 19 1 = σ.1 19 1 := fun σ k v => wi_o (by omega)
      simp only [this]
      have : ∀ (σ : Mem) k v, (wi σ 18 k v).1 19 1 = σ.1 19 1 := fun σ k v => wi_o (by omega)
      simp only [this]
      rw [f2 _ _ (by omega), wi_eq rfl rfl, eo _ _ (by omega)]
    · have r1 := h1.2.2.1 p hp
      have hq : ∀ j, j < 28 → rw_ σ0 1 p ≠ j := fun j hj => by show σ0.2 (38 + 1) p ≠ j; omega
      have : ∀ (σ : Mem) k v, (wi σ 17 k v).1 (rw_ σ0 1 p) b = σ.1 (rw_ σ0 1 p) b := fun σ k v => wi_o (Or.inl (hq _ (by omega)))
      simp only [this]
      have : ∀ (σ : Mem) k v, (wi σ 18 k v).1 (rw_ σ0 1 p) b = σ.1 (rw_ σ0 1 p) b := fun σ k v => wi_o (Or.inl (hq _ (by omega)))
      simp only [this]
      exact f3 p b hp hb
    · have : ∀ (σ : Mem) k v, (wi σ 17 k v).1 a b = σ.1 a b := fun σ k v => wi_o (by omega)
      simp only [this]
      have : ∀ (σ : Mem) k v, (wi σ 18 k v).1 a b = σ.1 a b := fun σ k v => wi_o (by omega)
      simp only [this]
      rw [f2 _ _ q2, wi_o (by omega), eo _ _ (by omega)]
  | succ d ih =>
    intro k j σ hj hk2 e2 el eo
    obtain ⟨k, rfl⟩ : ∃ z, k = z + 1 := ⟨k - 1, by omega⟩
    have nle : ¬ (7 : Int32) ≤ nI j := by rw [n7, le_nI (by omega) (by omega)]; omega
    have w0 : σ.2 (rf 7 1) (nI j).toNatClampNeg = j := by rw [nI_cl (by omega), e2, show rf 7 1 = 36 + 0 from rfl, h0.2.1 j (by omega), Nat.mul_zero, Nat.zero_add]
    have w1 : σ.2 (rf 17 1) (nI j).toNatClampNeg = 10 + j := by rw [nI_cl (by omega), e2, show rf 17 1 = 36 + 1 from rfl, h1.2.1 j (by omega)]
    obtain ⟨σ1, f0, f1, f2, f3⟩ := ev_copyLevel n (σ := σ) (o := 10 + j) (o1 := j) (by omega) (by rw [eo _ _ (by omega)]; exact hb j (by omega))
    rw [lp_X1_copyFrom_2_s, if_neg nle, if_neg nle]
    simp only [w0, w1]
    rw [if_pos ⟨inR_nI (by omega) (by omega), ok_lv (m := 1) (by omega) (by omega)⟩, if_pos ⟨inR_nI (by omega) (by omega), by have := ok_lv (m := 0) (k := j) (by omega) (by omega); rwa [Nat.mul_zero, Nat.zero_add] at this⟩, f0]
    simp only [Option.bind_some, add1_nI]
    refine ih k (j + 1) σ1 (by omega) (by omega) (f1.trans e2) (fun i b hi hb => ?_) (fun a b ha => ?_)
    · by_cases e : i = j
      · rw [e, f2 b hb, eo _ _ (by omega)]
      · rw [f3 _ _ (by omega)]
        exact el i b (by omega) hb
    · rw [f3 _ _ (by omega)]
      exact eo a b (by omega)
theorem copy_sim {n : Nat} (hn : 10 < n) {σ τ : Mem} {L : Nat} {W : Nat → Nat} {u N Q : Nat} (h : RR σ τ 0 L W u N Q) (h1 : ShM σ 1) : ∃ σ', sp_X1_copyFrom n σ 17 7 = some ((), σ') ∧ RR σ' τ 1 L W u N Q ∧ FrC σ σ' 1 ∧ σ'.2 = σ.2 := by
  obtain ⟨hS, hG, hK, hT, hQ, hP, hB⟩ := h
  have hL := hS.lv
  obtain ⟨q1, q2, q3, q4, q5, q6, q7, q8, q9, q10, q11⟩ := id hQ
  have hk : 0 ≤ σ.1 8 0 ∧ σ.1 8 0 ≤ 65535 := kd_ch hT.2.2.1
  obtain ⟨σ', e0, c2, cl, cm, ct, cw, cr, co⟩ := lp_copyFrom n hn hS.sh h1 q11 (fun k hk => by
    have := hS.2.2.2.2.2.2.2.2.2.2.2.2.2 k hk
    rwa [Nat.mul_zero, Nat.zero_add] at this) hk 7 n 0 σ (by omega) (by omega) rfl (fun i b hi => by omega) (fun _ _ _ => rfl)
  have cl' : ∀ k b, k ≤ 6 → b < 11 → σ'.1 (10 * 1 + k) b = σ.1 (10 * 0 + k) b := fun k b k1 b1 => by
    rw [Nat.mul_zero, Nat.zero_add]
    exact cl k b (by omega) b1
  have cr' : ∀ p b, p < 8 → b < 4 → σ'.1 (rw_ σ' 1 p) b = σ.1 (rw_ σ 0 p) b := fun p b hp hb => by
    rw [show rw_ σ' 1 p = rw_ σ 1 p by unfold rw_; rw [c2]]
    exact cr p b hp hb
  refine ⟨σ', e0, ⟨hS.to (h1.to c2) (fun k b k1 b1 => cl' k b k1 (by omega)) (fun b b1 b2 => cm b b1 (by omega)) (fun _ _ _ => rfl), hG.to (fun k b k1 b1 b2 => cl' k b k1 (by omega)) (fun _ _ => rfl), hK.to (fun b b1 b2 => cm b (by omega) (by omega)) (fun _ _ => rfl) rfl, hT.to (fun b hb => ct b hb) (cm 15 (by omega) (by omega)) (fun _ _ _ => rfl) rfl, hQ.to cw cr' (cm 15 (by omega) (by omega)) (ct 4 (by omega)) (fun _ _ _ => rfl), hP.to hL (fun k k1 => cl' k 8 k1 (by omega)) (onT_cong (ct 0 (by omega)) (ct 2 (by omega))) rfl, hB.to hL (fun k k1 => cl' k 7 k1 (by omega)) (cm 9 (by omega) (by omega)) (cm 10 (by omega) (by omega))⟩, ⟨fun a b h1 h2 => co a b (by omega) (by omega), fun _ _ => by rw [c2]⟩, c2⟩
end
section
/-! PURE. the looks ahead: what the model keeps, waiting for a request -/
theorem lp_keeps (n : Nat) {τ0 : Mem} : ∀ (d k j : Nat) (τ : Mem), j + d = 73 → d < k → τ.2 = τ0.2 → (∀ a b, (a ≠ 48 ∨ j ≤ b) → τ.1 a b = τ0.1 a b) → (∀ b, b < j → τ.1 48 b = τ0.1 47 b) → ∃ τ', lp_X6_keeps_2 n 41 k τ (nI j) = some ((), τ') ∧ τ'.2 = τ0.2 ∧ (∀ a b, (a ≠ 48 ∨ 73 ≤ b) → τ'.1 a b = τ0.1 a b) ∧ ∀ b, b < 73 → τ'.1 48 b = τ0.1 47 b := by
  intro d
  induction d with
  | zero =>
    intro k j τ hj hk e2 eo es
    obtain ⟨k, rfl⟩ : ∃ z, k = z + 1 := ⟨k - 1, by omega⟩
    refine ⟨τ, ?_, e2, fun a b h => eo a b (by omega), fun b hb => es b (by omega)⟩
    rw [lp_X6_keeps_2_s, if_pos (show (73 : Int32) ≤ nI j by rw [show (73 : Int32) = nI 73 from rfl, le_nI (by omega) (by omega)]; omega)]
  | succ d ih =>
    intro k j τ hj hk e2 eo es
    obtain ⟨k, rfl⟩ : ∃ z, k = z + 1 := ⟨k - 1, by omega⟩
    rw [lp_X6_keeps_2_s, if_neg (show ¬ (73 : Int32) ≤ nI j by rw [show (73 : Int32) = nI 73 from rfl, le_nI (by omega) (by omega)]; omega), if_pos (inR_nI (by omega) (by omega)), if_pos (inR_nI (by omega) (by omega))]
    simp only [lm, nI_cl (show j < 100000 by omega), rfm_11, rfm_12, add1_nI]
    refine ih k (j + 1) _ (by omega) (by omega) e2 (fun a b h => ?_) (fun b hb => ?_)
    · rw [wi_o (by omega)]
      exact eo a b (by omega)
    · rw [get_wi]
      by_cases e : b = j
      · rw [if_pos ⟨rfl, e⟩, eo _ _ (by omega), e]
      · rw [if_neg (by omega)]
        exact es b (by omega)
theorem ev_keeps {n : Nat} (hn : 80 < n) (τ : Mem) : ∃ τ', sp_X6_keeps n τ 41 = some ((), τ') ∧ τ'.2 = τ.2 ∧ (∀ a b, (a ≠ 48 ∨ 73 ≤ b) → τ'.1 a b = τ.1 a b) ∧ ∀ b, b < 73 → τ'.1 48 b = τ.1 47 b := by
  unfold sp_X6_keeps
  exact lp_keeps n 73 n 0 τ (by omega) (by omega) rfl (fun _ _ _ => rfl) (fun b hb => by omega)
theorem lp_goesBack (n : Nat) {τ0 : Mem} : ∀ (d k j : Nat) (τ : Mem), j + d = 73 → d < k → τ.2 = τ0.2 → (∀ a b, (a ≠ 47 ∨ j ≤ b) → τ.1 a b = τ0.1 a b) → (∀ b, b < j → τ.1 47 b = τ0.1 48 b) → ∃ τ', lp_X6_goesBack_2 n 41 k τ (nI j) = some ((), τ') ∧ τ'.2 = τ0.2 ∧ (∀ a b, (a ≠ 47 ∨ 73 ≤ b) → τ'.1 a b = τ0.1 a b) ∧ ∀ b, b < 73 → τ'.1 47 b = τ0.1 48 b := by
  intro d
  induction d with
  | zero =>
    intro k j τ hj hk e2 eo es
    obtain ⟨k, rfl⟩ : ∃ z, k = z + 1 := ⟨k - 1, by omega⟩
    refine ⟨τ, ?_, e2, fun a b h => eo a b (by omega), fun b hb => es b (by omega)⟩
    rw [lp_X6_goesBack_2_s, if_pos (show (73 : Int32) ≤ nI j by rw [show (73 : Int32) = nI 73 from rfl, le_nI (by omega) (by omega)]; omega)]
  | succ d ih =>
    intro k j τ hj hk e2 eo es
    obtain ⟨k, rfl⟩ : ∃ z, k = z + 1 := ⟨k - 1, by omega⟩
    rw [lp_X6_goesBack_2_s, if_neg (show ¬ (73 : Int32) ≤ nI j by rw [show (73 : Int32) = nI 73 from rfl, le_nI (by omega) (by omega)]; omega), if_pos (inR_nI (by omega) (by omega)), if_pos (inR_nI (by omega) (by omega))]
    simp only [lm, nI_cl (show j < 100000 by omega), rfm_11, rfm_12, add1_nI]
    refine ih k (j + 1) _ (by omega) (by omega) e2 (fun a b h => ?_) (fun b hb => ?_)
    · rw [wi_o (by omega)]
      exact eo a b (by omega)
    · rw [get_wi]
      by_cases e : b = j
      · rw [if_pos ⟨rfl, e⟩, eo _ _ (by omega), e]
      · rw [if_neg (by omega)]
        exact es b (by omega)
theorem ev_goesBack {n : Nat} (hn : 80 < n) (τ : Mem) : ∃ τ', sp_X6_goesBack n τ 41 = some ((), τ') ∧ τ'.2 = τ.2 ∧ (∀ a b, (a ≠ 47 ∨ 73 ≤ b) → τ'.1 a b = τ.1 a b) ∧ ∀ b, b < 73 → τ'.1 47 b = τ.1 48 b := by
  unfold sp_X6_goesBack
  exact lp_goesBack n 73 n 0 τ (by omega) (by omega) rfl (fun _ _ _ => rfl) (fun b hb => by omega)
/-- only what no one reads has changed of the model -/
def SmM (τ τ' : Mem) : Prop := τ'.2 = τ.2 ∧ ∀ a b, a ≠ 48 → (a ≠ 41 ∨ b ≠ 14) → (a ≠ 47 ∨ b < 73) → τ'.1 a b = τ.1 a b
theorem RR.toM {σ τ τ' : Mem} {m L : Nat} {W : Nat → Nat} {u N Q : Nat} (h : RR σ τ m L W u N Q) (e : ∀ a b, 41 ≤ a → a ≤ 47 → (a ≠ 41 ∨ b ≠ 14) → (a ≠ 47 ∨ b < 73) → τ'.1 a b = τ.1 a b) : RR σ τ' m L W u N Q := by
  obtain ⟨hS, hG, hK, hT, hQ, hP, hB⟩ := h
  exact ⟨hS.to hS.sh (fun _ _ _ _ => rfl) (fun _ _ _ => rfl) (fun a b hab => e _ _ (by omega) (by omega) (by omega) (by omega)), hG.to (fun _ _ _ _ _ => rfl) (fun b hb => e _ _ (by omega) (by omega) (by omega) (by omega)), hK.to (fun _ _ _ => rfl) (fun b hb => e _ _ (by omega) (by omega) (by omega) (by omega)) (e _ _ (by omega) (by omega) (by omega) (by omega)), hT.to (fun _ _ => rfl) rfl (fun b b1 b2 => e _ _ (by omega) (by omega) (by omega) (by omega)) (e _ _ (by omega) (by omega) (by omega) (by omega)), hQ.to rfl (fun _ _ _ _ => rfl) rfl rfl (fun b b1 b2 => e _ _ (by omega) (by omega) (by omega) (by omega)), hP.to hS.lv (fun _ _ => rfl) rfl (e _ _ (by omega) (by omega) (by omega) (by omega)), hB⟩
/-! pending requests -/
def inq (σ : Mem) (m Q : Nat) (x : Int32) : Prop := ∃ p, p < Q ∧ σ.1 (rw_ σ m p) 0 = x
theorem sr_no {g : Nat → Int32} {x : Int32} {Q : Nat} (h : ∀ p, p < Q → g p ≠ x) : sr g x Q 0 = Q := by
  obtain ⟨-, b, -, e⟩ := sr_spec g x Q 0
  rcases Nat.lt_or_ge (sr g x Q 0) Q with c | c
  · exact absurd (e (by omega)) (h _ c)
  · omega
theorem sr_yes {g : Nat → Int32} {x : Int32} {Q : Nat} (h : ∃ p, p < Q ∧ g p = x) : sr g x Q 0 < Q := by
  obtain ⟨p, hp, e⟩ := h
  obtain ⟨-, b, c, -⟩ := sr_spec g x Q 0
  rcases Nat.lt_or_ge (sr g x Q 0) Q with q | q
  · exact q
  · exact absurd e (c p (by omega) (by omega))
theorem place_yes {n : Nat} (hn : 10 < n) {σ τ : Mem} {m L N Q : Nat} {x : Int32} (h : RQ σ τ m L N Q) (hi : inq σ m Q x) : ∃ q, q < Q ∧ sp_X6_place n τ 41 x = some (nI q, τ) ∧ σ.1 (rw_ σ m q) 0 = x := by
  obtain ⟨q1, q2, q3, q4, q5, -⟩ := h
  have e : ∀ p, p < Q → σ.1 (rw_ σ m p) 0 = τ.1 47 (28 + 4 * p) := fun p hp => by
    obtain ⟨⟨r, -, r1, r2⟩, -⟩ := q5 p hp
    rw [r1, r2]
  have hs : sr (fun p => τ.1 47 (28 + 4 * p)) x Q 0 < Q := sr_yes (by
    obtain ⟨p, hp, ep⟩ := hi
    exact ⟨p, hp, (e p hp).symm.trans ep⟩)
  have hs2 := (sr_spec (fun p => τ.1 47 (28 + 4 * p)) x Q 0).2.2.2 (by omega)
  refine ⟨_, hs, ?_, (e _ hs).trans hs2⟩
  rw [ev_placeM hn q4 q1, if_neg (by omega)]
theorem place_no {n : Nat} (hn : 10 < n) {σ τ : Mem} {m L N Q : Nat} {x : Int32} (h : RQ σ τ m L N Q) (hi : ¬ inq σ m Q x) : sp_X6_place n τ 41 x = some (-1, τ) := by
  obtain ⟨q1, q2, q3, q4, q5, -⟩ := h
  rw [ev_placeM hn q4 q1, sr_no (fun p hp => ?_), if_pos rfl]
  intro e
  obtain ⟨⟨r, -, r1, r2⟩, -⟩ := q5 p hp
  exact hi ⟨p, hp, by rw [r1, ← r2]; exact e⟩
theorem holds_yes {n : Nat} (hn : 10 < n) {σ τ : Mem} {m L N Q : Nat} {x : Int32} (hs : ShM σ m) (h : RQ σ τ m L N Q) (hi : inq σ m Q x) : sp_X4_holds n σ (10 * m + 9) x = some (1, σ) := by
  have := sr_yes (g := fun p => σ.1 (rw_ σ m p) 0) hi
  rw [ev_holds hn hs h.2.2.1 h.1, if_neg (by omega)]
theorem holds_no {n : Nat} (hn : 10 < n) {σ τ : Mem} {m L N Q : Nat} {x : Int32} (hs : ShM σ m) (h : RQ σ τ m L N Q) (hi : ¬ inq σ m Q x) : sp_X4_holds n σ (10 * m + 9) x = some (0, σ) := by
  rw [ev_holds hn hs h.2.2.1 h.1, sr_no (fun p hp e => hi ⟨p, hp, e⟩), if_pos rfl]
/-- is the trip for x? -/
def trp (σ : Mem) (m : Nat) (x : Int32) : Prop := σ.1 (10 * m + 8) 0 ≠ 45 ∧ σ.1 (10 * m + 8) 4 ≠ -1 ∧ σ.1 (10 * m + 8) 4 = x
theorem isPending_yes {n : Nat} (hn : 10 < n) {σ τ : Mem} {m L N Q : Nat} {x : Int32} (hs : ShM σ m) (h : RQ σ τ m L N Q) (hi : inq σ m Q x ∨ trp σ m x) : sp_X1_isPending n σ (10 * m + 7) x = some (1, σ) := by
  unfold sp_X1_isPending
  rw [rf_2 hs.1, rf_3 hs.1]
  by_cases c : inq σ m Q x
  · rw [holds_yes hn hs h c]
    rfl
  · obtain ⟨t1, t2, t3⟩ := hi.resolve_left c
    rw [holds_no hn hs h c]
    simp only [Option.bind_some]
    unfold sp_X3_isFor
    rw [if_pos trivial, ev_isOn, if_neg t1]
    simp only [Option.bind_some]
    rw [if_neg (by decide), if_neg t2, if_pos t3]
    rfl
theorem isPending_no {n : Nat} (hn : 10 < n) {σ τ : Mem} {m L N Q : Nat} {x : Int32} (hs : ShM σ m) (h : RQ σ τ m L N Q) (hi : ¬ inq σ m Q x) (ht : ¬ trp σ m x) : sp_X1_isPending n σ (10 * m + 7) x = some (0, σ) := by
  unfold sp_X1_isPending
  rw [rf_2 hs.1, rf_3 hs.1, holds_no hn hs h hi]
  simp only [Option.bind_some]
  unfold sp_X3_isFor
  rw [if_pos trivial, ev_isOn]
  by_cases c1 : σ.1 (10 * m + 8) 0 = 45
  · rw [if_pos c1]
    rfl
  · rw [if_neg c1]
    simp only [Option.bind_some]
    rw [if_neg (by decide)]
    by_cases c2 : σ.1 (10 * m + 8) 4 = -1
    · rw [if_pos c2]
      rfl
    · rw [if_neg c2, if_neg (fun c3 => ht ⟨c1, c2, c3⟩)]
      rfl
theorem nI_m1 {r : Nat} (h : r < 90000) : nI r ≠ -1 := by
  intro e
  have := nI_pos (n := r) (by omega)
  rw [e] at this
  exact this (by decide)
/-- x waits or is on its way, and no trip for x was the last to end -/
theorem RR.notD {σ τ : Mem} {m L : Nat} {W : Nat → Nat} {u N Q : Nat} {r : Nat} (h : RR σ τ m L W u N Q) (hr : r < 90000) (hi : inq σ m Q (nI r) ∨ σ.1 (10 * m + 8) 4 = nI r) : σ.1 (10 * m + 7) 15 ≠ nI r := by
  obtain ⟨-, -, -, -, -, -, -, -, q9, q10, -⟩ := h.2.2.2.2.1
  intro e
  rcases hi with ⟨p, hp, ep⟩ | e2
  · exact (q9 p hp).2 (ep.trans e.symm)
  · exact nI_m1 hr (e.symm.trans (q10 (e.trans e2.symm)))
theorem wait_sim {n n' : Nat} (hn : 20 < n) (hn' : 80 < n') {L : Nat} {W : Nat → Nat} {u N r : Nat} {a1 l2 : Int32} (hr : r < 90000) : ∀ (d k k' j Q : Nat) (σ τ : Mem), j + d = 500 → d < k → d < k' → RR σ τ 1 L W u N Q → (inq σ 1 Q (nI r) ∨ σ.1 18 4 = nI r) →
    ∃ v σ' τ' l3 l4 l5, lp_X1_passToEndOf_2 n 17 a1 k σ (nI r) (nI (j + 1)) = some (v, σ') ∧ lp_X6_waitFor_65 n' 41 a1 k' τ (nI r) l2 (nI j) 0 1 = lp_X6_waitFor_160 n' 41 a1 τ' (nI r) l2 l3 l4 l5 ∧ FrC σ σ' 1 ∧ FrM τ τ' ∧ ShM σ' 1 ∧ (v = -1 ∧ l4 = 0 ∨ (∃ w, w < 1000 ∧ v = nI w) ∧ l4 = 1 ∧ l3 = v) := by
  intro d
  induction d with
  | zero =>
    intro k k' j Q σ τ hj hk hk' h hi
    obtain ⟨k, rfl⟩ : ∃ z, k = z + 1 := ⟨k - 1, by omega⟩
    obtain ⟨k', rfl⟩ : ∃ z, k' = z + 1 := ⟨k' - 1, by omega⟩
    refine ⟨-1, σ, τ, nI j, 0, 1, ?_, ?_, FrC.rfl' _ _, FrM.rfl' _, h.1.sh, Or.inl ⟨rfl, rfl⟩⟩
    · rw [lp_X1_passToEndOf_2_s, if_pos (show (500 : Int32) < nI (j + 1) by rw [show (500 : Int32) = nI 500 from rfl, lt_nI (by omega) (by omega)]; omega)]
    · rw [lp_X6_waitFor_65_s, if_neg (by decide), if_pos (show (500 : Int32) ≤ nI j by rw [show (500 : Int32) = nI 500 from rfl, le_nI (by omega) (by omega)]; omega)]
  | succ d ih =>
    intro k k' j Q σ τ hj hk hk' h hi
    obtain ⟨k, rfl⟩ : ∃ z, k = z + 1 := ⟨k - 1, by omega⟩
    obtain ⟨k', rfl⟩ : ∃ z, k' = z + 1 := ⟨k' - 1, by omega⟩
    have hS := h.1
    have hT := h.2.2.2.1
    have hQ := h.2.2.2.2.1
    have hm1 := nI_m1 hr
    have hD := h.notD hr hi
    have hTon : σ.1 18 4 = nI r → trp σ 1 (nI r) := fun e => ⟨fun c => hm1 (e.symm.trans (hT.2.2.2.1 c).2.1), fun c => hm1 (e.symm.trans c), e⟩
    have hp := isPending_yes (n := n) (by omega) hS.sh hQ (x := nI r) (hi.imp id hTon)
    obtain ⟨σ1, τ1, Q1, a2, a3, a4, a5, a6, a7, a8⟩ := minute_sim (n := n) (n' := n') (by omega) (by omega) h
    have hS1 := a4.1
    have hT1 := a4.2.2.2.1
    have hQ1 := a4.2.2.2.2.1
    have nlt : ¬ (500 : Int32) < nI (j + 1) := by rw [show (500 : Int32) = nI 500 from rfl, lt_nI (by omega) (by omega)]; omega
    have nle : ¬ (500 : Int32) ≤ nI j := by rw [show (500 : Int32) = nI 500 from rfl, le_nI (by omega) (by omega)]; omega
    have e67 : τ.1 47 67 = σ.1 18 4 := hT.2.1.symm
    have e67' : τ1.1 47 67 = σ1.1 18 4 := hT1.2.1.symm
    have hcl : lp_X1_passToEndOf_2 n 17 a1 (k + 1) σ (nI r) (nI (j + 1)) = if σ1.1 17 15 = nI r then some (nI (j + 1), σ1) else lp_X1_passToEndOf_2 n 17 a1 k σ1 (nI r) (nI (j + 1 + 1)) := by
      rw [lp_X1_passToEndOf_2_s, if_neg nlt, hp]
      simp only [Option.bind_some]
      rw [if_neg (by decide), show sp_X1_passMinute n σ 17 = some ((), σ1) from a2]
      simp only [Option.bind_some, add1_nI]
    rw [hcl]
    -- still pending behind the minute
    by_cases hi1 : inq σ1 1 Q1 (nI r) ∨ σ1.1 18 4 = nI r
    · have hD1 := a4.notD hr hi1
      obtain ⟨v, σ', τ', l3, l4, l5, b1, b2, b3, b4, b5, b6⟩ := ih k k' (j + 1) Q1 σ1 τ1 (by omega) (by omega) (by omega) a4 hi1
      refine ⟨v, σ', τ', l3, l4, l5, ?_, ?_, a5.trans b3, a6.trans b4, b5, b6⟩
      · rw [if_neg hD1]
        exact b1
      · rw [lp_X6_waitFor_65_s, if_neg (by decide), if_neg nle, if_pos i67]
        simp only [rfm_11, ix67]
        rw [a3]
        simp only [Option.bind_some, add1_nI, rfm_11, ix67]
        by_cases c1 : σ1.1 18 4 = nI r
        · by_cases c : τ.1 47 67 = nI r
          · rw [if_pos c, if_pos i67, e67', if_pos c1]
            exact b2
          · rw [if_neg c, if_pos i67, e67', if_pos c1]
            exact b2
        · obtain ⟨q, hq, eq, -⟩ := place_yes (n := n') (by omega) hQ1 (hi1.resolve_right c1)
          have hq1 := hQ1.1
          by_cases c : τ.1 47 67 = nI r
          · rw [if_pos c, if_pos i67, e67', if_neg c1, eq]
            simp only [Option.bind_some]
            rw [if_neg (nI_m1 (by omega))]
            exact b2
          · rw [if_neg c, if_pos i67, e67', if_neg c1, eq]
            simp only [Option.bind_some]
            rw [if_neg (nI_m1 (by omega))]
            exact b2
    · have hni : ¬ inq σ1 1 Q1 (nI r) := fun c => hi1 (Or.inl c)
      have hnt : ¬ σ1.1 18 4 = nI r := fun c => hi1 (Or.inr c)
      have pn := place_no (n := n') (by omega) hQ1 hni
      obtain ⟨k', rfl⟩ : ∃ z, k' = z + 1 := ⟨k' - 1, by omega⟩
      -- was the last trip that ended for x?
      have key : (σ.1 18 4 = nI r → σ1.1 17 15 = nI r) ∧ (σ.1 18 4 ≠ nI r → (σ1.1 17 15 = nI r ↔ τ1.1 47 72 = nI r)) := by
        constructor
        · intro e
          have hon := hTon e
          obtain ⟨t1, t2⟩ := a7 hon.1
          by_cases c : σ1.1 (10 * 1 + 8) 0 = 45
          · rw [show σ1.1 17 15 = τ1.1 47 72 from (hT1.2.2.2.1 c).2.2, t1, (hT.2.2.2.2 hon.1).2.2.2]
            exact e
          · exact absurd ((t2 c).trans e) hnt
        · intro e
          by_cases c : σ1.1 (10 * 1 + 8) 0 = 45
          · rw [show σ1.1 17 15 = τ1.1 47 72 from (hT1.2.2.2.1 c).2.2]
          · rw [(hT1.2.2.2.2 c).2.2.2]
            refine ⟨fun q => absurd ((a8 c).symm.trans q) hD, fun q => absurd q hnt⟩
      have hend : ∀ v l4, (σ1.1 17 15 = nI r ∧ v = nI (j + 1) ∧ l4 = 1 ∨ σ1.1 17 15 ≠ nI r ∧ v = -1 ∧ l4 = (0 : Int32)) → lp_X6_waitFor_65 n' 41 a1 (k' + 1 + 1) τ (nI r) l2 (nI j) 0 1 = lp_X6_waitFor_65 n' 41 a1 (k' + 1) τ1 (nI r) l2 (nI (j + 1)) l4 0 → ∃ v σ' τ' l3 l4 l5, (if σ1.1 17 15 = nI r then some (nI (j + 1), σ1) else lp_X1_passToEndOf_2 n 17 a1 k σ1 (nI r) (nI (j + 1 + 1))) = some (v, σ') ∧ lp_X6_waitFor_65 n' 41 a1 (k' + 1 + 1) τ (nI r) l2 (nI j) 0 1 = lp_X6_waitFor_160 n' 41 a1 τ' (nI r) l2 l3 l4 l5 ∧ FrC σ σ' 1 ∧ FrM τ τ' ∧ ShM σ' 1 ∧ (v = -1 ∧ l4 = 0 ∨ (∃ w, w < 1000 ∧ v = nI w) ∧ l4 = 1 ∧ l3 = v) := by
        intro v l4 hv hm
        refine ⟨v, σ1, τ1, nI (j + 1), l4, 0, ?_, ?_, a5, a6, hS1.sh, ?_⟩
        · rcases hv with ⟨c, c2, c3⟩ | ⟨c, c2, c3⟩
          · rw [if_pos c, c2]
          · rw [if_neg c, c2]
            obtain ⟨k, rfl⟩ : ∃ z, k = z + 1 := ⟨k - 1, by omega⟩
            rw [lp_X1_passToEndOf_2_s]
            by_cases g : (500 : Int32) < nI (j + 1 + 1)
            · rw [if_pos g]
            · rw [if_neg g, show sp_X1_isPending n σ1 17 (nI r) = some (0, σ1) from isPending_no (m := 1) (by omega) hS1.sh hQ1 hni (fun t => hnt t.2.2)]
              simp only [Option.bind_some]
              rw [if_pos trivial]
        · rw [hm, lp_X6_waitFor_65_s, if_pos rfl]
        · rcases hv with ⟨c, c2, c3⟩ | ⟨c, c2, c3⟩
          · exact Or.inr ⟨⟨j + 1, by omega, c2⟩, c3, c2.symm⟩
          · exact Or.inl ⟨c2, c3⟩
      have hstep : ∀ l4, (σ1.1 17 15 = nI r ∧ l4 = 1 ∨ σ1.1 17 15 ≠ nI r ∧ l4 = (0 : Int32)) → lp_X6_waitFor_65 n' 41 a1 (k' + 1 + 1) τ (nI r) l2 (nI j) 0 1 = lp_X6_waitFor_65 n' 41 a1 (k' + 1) τ1 (nI r) l2 (nI (j + 1)) l4 0 := by
        intro l4 hl
        rw [lp_X6_waitFor_65_s, if_neg (by decide), if_neg nle, if_pos i67]
        simp only [rfm_11, ix67]
        rw [a3]
        simp only [Option.bind_some, add1_nI, rfm_11, ix67]
        by_cases c : τ.1 47 67 = nI r
        · have := key.1 (e67.symm.trans c)
          rw [if_pos c, if_pos i67, e67', if_neg hnt, pn]
          simp only [Option.bind_some]
          rw [if_pos trivial]
          rcases hl with ⟨_, e⟩ | ⟨e, _⟩
          · rw [e]
          · exact absurd this e
        · have := key.2 (fun q => c (e67.trans q))
          rw [if_neg c, if_pos i67, e67', if_neg hnt, pn]
          simp only [Option.bind_some]
          rw [if_pos trivial, if_pos i72]
          simp only [ix72]
          rcases hl with ⟨g, e⟩ | ⟨g, e⟩
          · rw [if_pos (this.mp g), e]
          · rw [if_neg (fun q => g (this.mpr q)), e]
      by_cases c : σ1.1 17 15 = nI r
      · exact hend (nI (j + 1)) 1 (Or.inl ⟨c, rfl, rfl⟩) (hstep 1 (Or.inl ⟨c, rfl⟩))
      · exact hend (-1) 0 (Or.inr ⟨c, rfl, rfl⟩) (hstep 0 (Or.inr ⟨c, rfl⟩))
end
section
/-! PURE. the ops of both systems, one by one: what is read -/
def RX (B : Nat) (σ τ : Mem) : Prop := ∃ L W u N Q, RR σ τ 0 L W u N Q ∧ ShM σ 1 ∧ N ≤ B
def FC (σ σ' : Mem) : Prop := (∀ a b, 40 ≤ a → a ≤ 48 → σ'.1 a b = σ.1 a b) ∧ ∀ a, 40 ≤ a → σ'.2 a = σ.2 a
def FM (τ τ' : Mem) : Prop := (∀ a b, a < 41 ∨ 48 < a → τ'.1 a b = τ.1 a b) ∧ τ'.2 = τ.2
/-- an op that may throw: t what was thrown, r the answer -/
def OpG (B : Nat) (σ τ : Mem) (c d : Option (Int32 × Mem)) : Prop := ∃ t σ' r τ', c = some (t, σ') ∧ d = some (r, τ') ∧ τ'.1 41 14 = t ∧ (t = 0 → σ'.1 49 0 = r) ∧ RX B σ' τ' ∧ FC σ σ' ∧ FM τ τ'
/-- an op that throws nothing -/
def OpN (B : Nat) (σ τ : Mem) (c d : Option (Int32 × Mem)) : Prop := ∃ r σ' τ', c = some (r, σ') ∧ d = some (r, τ') ∧ τ'.1 41 14 = 0 ∧ RX B σ' τ' ∧ FC σ σ' ∧ FM τ τ'
theorem RR.toC {σ σ' τ : Mem} {m L : Nat} {W : Nat → Nat} {u N Q : Nat} (h : RR σ τ m L W u N Q) (e : ∀ a b, a < 36 → b ≠ 6 ∨ 6 < a → σ'.1 a b = σ.1 a b) (e2 : σ'.2 (36 + m) = σ.2 (36 + m) ∧ σ'.2 (38 + m) = σ.2 (38 + m)) : RR σ' τ m L W u N Q := by
  obtain ⟨hS, hG, hK, hT, hQ, hP, hB⟩ := h
  have hL := hS.lv
  have hm2 := hS.m2
  have hs : ShM σ' m := by
    have := hS.sh
    unfold ShM at this ⊢
    rw [e2.1, e2.2]
    exact this
  have er : ∀ p b, p < 8 → σ'.1 (rw_ σ' m p) b = σ.1 (rw_ σ m p) b := fun p b hp => by
    have hh := hS.sh.2.2.1 p hp
    show σ'.1 (σ'.2 (38 + m) p) b = _
    rw [e2.2]
    exact e _ _ (by omega) (by omega)
  by_cases hm : m = 0
  · subst hm
    exact ⟨hS.to hs (fun k b k1 b1 => e _ _ (by omega) (by omega)) (fun b b1 b2 => e _ _ (by omega) (by omega)) (fun _ _ _ => rfl), hG.to (fun k b k1 b1 b2 => e _ _ (by omega) (by omega)) (fun _ _ => rfl), hK.to (fun b b1 b2 => e _ _ (by omega) (by omega)) (fun _ _ => rfl) rfl, hT.to (fun b b1 => e _ _ (by omega) (by omega)) (e _ _ (by omega) (by omega)) (fun _ _ _ => rfl) rfl, hQ.to (e _ _ (by omega) (by omega)) (fun p b hp hb => er p b hp) (e _ _ (by omega) (by omega)) (e _ _ (by omega) (by omega)) (fun _ _ _ => rfl), hP.to hL (fun k k1 => e _ _ (by omega) (by omega)) (onT_cong (e _ _ (by omega) (by omega)) (e _ _ (by omega) (by omega))) rfl, hB.to hL (fun k k1 => e _ _ (by omega) (by omega)) (e _ _ (by omega) (by omega)) (e _ _ (by omega) (by omega))⟩
  · have hm : m = 1 := by omega
    subst hm
    exact ⟨hS.to hs (fun k b k1 b1 => e _ _ (by omega) (by omega)) (fun b b1 b2 => e _ _ (by omega) (by omega)) (fun _ _ _ => rfl), hG.to (fun k b k1 b1 b2 => e _ _ (by omega) (by omega)) (fun _ _ => rfl), hK.to (fun b b1 b2 => e _ _ (by omega) (by omega)) (fun _ _ => rfl) rfl, hT.to (fun b b1 => e _ _ (by omega) (by omega)) (e _ _ (by omega) (by omega)) (fun _ _ _ => rfl) rfl, hQ.to (e _ _ (by omega) (by omega)) (fun p b hp hb => er p b hp) (e _ _ (by omega) (by omega)) (e _ _ (by omega) (by omega)) (fun _ _ _ => rfl), hP.to hL (fun k k1 => e _ _ (by omega) (by omega)) (onT_cong (e _ _ (by omega) (by omega)) (e _ _ (by omega) (by omega))) rfl, hB.to hL (fun k k1 => e _ _ (by omega) (by omega)) (e _ _ (by omega) (by omega)) (e _ _ (by omega) (by omega))⟩
/-- only what the relation does not read has changed -/
theorem RX.to {B B' : Nat} {σ τ σ' τ' : Mem} (h : RX B σ τ) (hB : B ≤ B') (e : ∀ a b, a < 36 → b ≠ 6 ∨ 6 < a → (a < 10 ∨ 19 < a) → (a < 28 ∨ 35 < a) → σ'.1 a b = σ.1 a b) (e2 : ∀ a, a < 40 → σ'.2 a = σ.2 a) (e3 : ∀ a b, 41 ≤ a → a ≤ 47 → (a ≠ 41 ∨ b ≠ 14) → (a ≠ 47 ∨ b < 73) → τ'.1 a b = τ.1 a b) : RX B' σ' τ' := by
  obtain ⟨L, W, u, N, Q, h, h1, hN⟩ := h
  obtain ⟨hS, hG, hK, hT, hQ, hP, hB⟩ := h
  have hL := hS.lv
  have hs : ∀ m, ShM σ m → ShM σ' m := fun m hm => by
    have := hm.1
    unfold ShM at hm ⊢
    rw [e2 _ (by omega), e2 _ (by omega)]
    exact hm
  have er : ∀ p b, p < 8 → σ'.1 (rw_ σ' 0 p) b = σ.1 (rw_ σ 0 p) b := fun p b hp => by
    have hh := hS.sh.2.2.1 p hp
    show σ'.1 (σ'.2 (38 + 0) p) b = _
    rw [e2 _ (by omega)]
    exact e _ _ (by omega) (by omega) (by omega) (by omega)
  have e' : ∀ a b, a < 10 → b ≠ 6 ∨ 6 < a → σ'.1 a b = σ.1 a b := fun a b h1 h2 => e a b (by omega) h2 (by omega) (by omega)
  refine ⟨L, W, u, N, Q, RR.toM (τ := τ) ?_ e3, hs 1 h1, by omega⟩
  exact ⟨hS.to (hs 0 hS.sh) (fun k b k1 b1 => e' _ _ (by omega) (by omega)) (fun b b1 b2 => e' _ _ (by omega) (by omega)) (fun _ _ _ => rfl), hG.to (fun k b k1 b1 b2 => e' _ _ (by omega) (by omega)) (fun _ _ => rfl), hK.to (fun b b1 b2 => e' _ _ (by omega) (by omega)) (fun _ _ => rfl) rfl, hT.to (fun b b1 => e' _ _ (by omega) (by omega)) (e' _ _ (by omega) (by omega)) (fun _ _ _ => rfl) rfl, hQ.to (e' _ _ (by omega) (by omega)) (fun p b hp hb => er p b hp) (e' _ _ (by omega) (by omega)) (e' _ _ (by omega) (by omega)) (fun _ _ _ => rfl), hP.to hL (fun k k1 => e' _ _ (by omega) (by omega)) (onT_cong (e' _ _ (by omega) (by omega)) (e' _ _ (by omega) (by omega))) rfl, hB.to hL (fun k k1 => e' _ _ (by omega) (by omega)) (e' _ _ (by omega) (by omega)) (e' _ _ (by omega) (by omega))⟩
theorem RX.set {B : Nat} {σ τ : Mem} (h : RX B σ τ) (v t : Int32) : RX B (wi σ 49 0 v) (wi τ 41 14 t) := h.to (Nat.le_refl _) (fun a b h1 _ _ _ => wi_o (by omega)) (fun _ _ => rfl) (fun a b h1 h2 h3 _ => wi_o (by omega))
theorem RX.thr {B : Nat} {σ τ : Mem} (h : RX B σ τ) (t : Int32) : RX B σ (wi τ 41 14 t) := h.to (Nat.le_refl _) (fun _ _ _ _ _ _ => rfl) (fun _ _ => rfl) (fun a b h1 h2 h3 _ => wi_o (by omega))
theorem FC.rfl' (σ : Mem) : FC σ σ := ⟨fun _ _ _ _ => rfl, fun _ _ => rfl⟩
theorem FC.out (σ : Mem) (k : Nat) (v : Int32) : FC σ (wi σ 49 k v) := ⟨fun a b h1 h2 => wi_o (by omega), fun _ _ => rfl⟩
theorem FC.trans {σ σ1 σ2 : Mem} (h : FC σ σ1) (g : FC σ1 σ2) : FC σ σ2 := ⟨fun a b h1 h2 => (g.1 a b h1 h2).trans (h.1 a b h1 h2), fun a ha => (g.2 a ha).trans (h.2 a ha)⟩
theorem FM.trans {σ σ1 σ2 : Mem} (h : FM σ σ1) (g : FM σ1 σ2) : FM σ σ2 := ⟨fun a b h1 => (g.1 a b h1).trans (h.1 a b h1), g.2.trans h.2⟩
theorem FM.thr (τ : Mem) (t : Int32) : FM τ (wi τ 41 14 t) := ⟨fun a b h => wi_o (by omega), rfl⟩
theorem FrC.fc {σ σ' : Mem} {m : Nat} (h : FrC σ σ' m) (hm : m < 2) : FC σ σ' := ⟨fun a b h1 h2 => h.1 a b (by omega) (by omega), fun a ha => h.2 a (by omega)⟩
theorem FrM.fm {τ τ' : Mem} (h : FrM τ τ') : FM τ τ' := ⟨fun a b h1 => h.1 a b (by omega), h.2⟩
theorem op_get {B : Nat} {σ τ : Mem} {v : Int32} {c d : Option (Int32 × Mem)} (h : RX B σ τ) (hc : c = some (0, wi σ 49 0 v)) (hd : d = some (v, wi τ 41 14 0)) : OpG B σ τ c d :=
  ⟨0, _, v, _, hc, hd, wi_eq rfl rfl, fun _ => wi_eq rfl rfl, h.set v 0, FC.out _ _ _, FM.thr _ _⟩
theorem op_bad {B : Nat} {σ τ : Mem} {t r : Int32} {c d : Option (Int32 × Mem)} (h : RX B σ τ) (ht : t ≠ 0) (hc : c = some (t, σ)) (hd : d = some (r, wi τ 41 14 t)) : OpG B σ τ c d :=
  ⟨t, _, r, _, hc, hd, wi_eq rfl rfl, fun e => absurd e ht, h.thr t, FC.rfl' _, FM.thr _ _⟩
theorem op_num {B : Nat} {σ τ : Mem} {v : Int32} {c d : Option (Int32 × Mem)} (h : RX B σ τ) (hc : c = some (v, σ)) (hd : d = some (v, wi τ 41 14 0)) : OpN B σ τ c d :=
  ⟨v, _, _, hc, hd, wi_eq rfl rfl, h.thr 0, FC.rfl' _, FM.thr _ _⟩
/-! levels as arguments -/
theorem lvl_or (L : Nat) (hL : L ≤ 6) (a : Int32) : (∃ k, k ≤ L ∧ a = nI k) ∨ a < 0 ∨ (¬ a < 0 ∧ nI L < a) := by
  by_cases h : a < 0
  · exact Or.inr (Or.inl h)
  · by_cases h2 : a ≤ nI L
    · exact Or.inl (nI_of2 (nI_toInt (by omega)) h h2)
    · exact Or.inr (Or.inr ⟨h, Int32.not_le.mp h2⟩)
theorem not_neg {k : Nat} (h : k < 100000) : ¬ nI k < 0 := nI_pos (by omega)
theorem ckP_ok (n : Nat) {σ : Mem} {L k : Nat} (h4 : σ.1 7 4 = nI L) (hL : L ≤ 6) (hk : k ≤ L) : sp_X5_checkPlace n σ 40 (nI k) = some (.inl (), σ) := by
  unfold sp_X5_checkPlace
  rw [if_neg (not_neg (by omega)), show σ.1 (rf 40 0) 4 = nI L from h4, if_pos ((le_nI (by omega) (by omega)).mpr hk)]
theorem ckP_bad (n : Nat) {σ : Mem} {L : Nat} {a : Int32} (h4 : σ.1 7 4 = nI L) (h : a < 0 ∨ (¬ a < 0 ∧ nI L < a)) : sp_X5_checkPlace n σ 40 a = some (.inr "java/lang/IndexOutOfBoundsException", σ) := by
  unfold sp_X5_checkPlace
  rcases h with h | ⟨h, g⟩
  · rw [if_pos h]
  · rw [if_neg h, show σ.1 (rf 40 0) 4 = nI L from h4, if_neg (Int32.not_le.mpr g)]
theorem ckL_ok (n : Nat) {σ : Mem} {L k : Nat} (h4 : σ.1 7 4 = nI L) (hL : L ≤ 6) (h1 : 1 ≤ k) (hk : k ≤ L) : sp_X5_checkLevel n σ 40 (nI k) = some (.inl (), σ) := by
  unfold sp_X5_checkLevel
  rw [if_neg (by rw [eq0_nI (by omega)]; omega), ckP_ok n h4 hL hk]
  rfl
/-- a is no level -/
def noL (L : Nat) (a : Int32) : Prop := a = 0 ∨ a < 0 ∨ (¬ a < 0 ∧ nI L < a)
theorem lvl_or1 (L : Nat) (hL : L ≤ 6) (a : Int32) : (∃ k, 1 ≤ k ∧ k ≤ L ∧ a = nI k) ∨ noL L a := by
  rcases lvl_or L hL a with ⟨k, hk, e⟩ | h
  · by_cases h0 : k = 0
    · subst h0
      exact Or.inr (Or.inl e)
    · exact Or.inl ⟨k, by omega, hk, e⟩
  · exact Or.inr (Or.inr h)
theorem ckL_bad (n : Nat) {σ : Mem} {L : Nat} {a : Int32} (h4 : σ.1 7 4 = nI L) (h : noL L a) : sp_X5_checkLevel n σ 40 a = some (.inr "java/lang/IndexOutOfBoundsException", σ) := by
  unfold sp_X5_checkLevel
  rcases h with h | h
  · rw [if_pos h]
  · by_cases h0 : a = 0
    · rw [if_pos h0]
    · rw [if_neg h0, ckP_bad n h4 h]
      rfl
theorem isL_ok (n : Nat) {τ : Mem} {L k : Nat} (h : τ.1 41 0 = nI L) (hL : L ≤ 6) (h1 : 1 ≤ k) (hk : k ≤ L) : sp_X6_isLevel n τ 41 (nI k) = some (1, τ) := by
  unfold sp_X6_isLevel sp_X6_in
  rw [h, if_neg (by rw [n1, lt_nI (by omega) (by omega)]; omega), if_neg (by rw [lt_nI (by omega) (by omega)]; omega)]
  rfl
theorem isL_bad (n : Nat) {τ : Mem} {L : Nat} {a : Int32} (h : τ.1 41 0 = nI L) (hb : noL L a) : sp_X6_isLevel n τ 41 a = some (0, τ) := by
  unfold sp_X6_isLevel sp_X6_in
  rw [h]
  by_cases c : a < 1
  · rw [if_pos c]
    rfl
  · have : nI L < a := by
      rcases hb with e | e | e
      · subst e
        exact absurd (by decide) c
      · exact absurd (Int32.lt_trans e (by decide)) c
      · exact e.2
    rw [if_neg c, if_pos this]
    rfl
theorem lacks_ok (n : Nat) {τ : Mem} {L k : Nat} (h : τ.1 41 0 = nI L) (hL : L ≤ 6) (h1 : 1 ≤ k) (hk : k ≤ L) : sp_X6_lacks n τ 41 (nI k) = some (0, wi τ 41 14 0) := by
  unfold sp_X6_lacks
  rw [isL_ok n h hL h1 hk]
  simp only [Option.bind_some, lm]
  rw [if_neg (by decide), wi_eq rfl rfl, if_pos (by decide)]
theorem lacks_bad (n : Nat) {τ : Mem} {L : Nat} {a : Int32} (h : τ.1 41 0 = nI L) (hb : noL L a) : sp_X6_lacks n τ 41 a = some (1, wi τ 41 14 1) := by
  unfold sp_X6_lacks
  rw [isL_bad n h hb]
  simp only [Option.bind_some, lm]
  rw [if_pos trivial, wi_eq rfl rfl, if_neg (by decide)]
theorem lacksP_ok (n : Nat) {τ : Mem} {L k : Nat} (h : τ.1 41 0 = nI L) (hL : L ≤ 6) (hk : k ≤ L) : sp_X6_lacksPlace n τ 41 (nI k) = some (0, wi τ 41 14 0) := by
  unfold sp_X6_lacksPlace sp_X6_in
  rw [h, if_neg (not_neg (by omega)), if_neg (by rw [lt_nI (by omega) (by omega)]; omega)]
  simp only [Option.bind_some, lm]
  rw [if_neg (by decide), wi_eq rfl rfl, if_pos (by decide)]
theorem lacksP_bad (n : Nat) {τ : Mem} {L : Nat} {a : Int32} (h : τ.1 41 0 = nI L) (hb : a < 0 ∨ (¬ a < 0 ∧ nI L < a)) : sp_X6_lacksPlace n τ 41 a = some (1, wi τ 41 14 1) := by
  unfold sp_X6_lacksPlace sp_X6_in
  rw [h]
  rcases hb with c | ⟨c, g⟩
  · rw [if_pos c]
    simp only [Option.bind_some, lm]
    rw [if_pos trivial, wi_eq rfl rfl, if_neg (by decide)]
  · rw [if_neg c, if_pos g]
    simp only [Option.bind_some, lm]
    rw [if_pos trivial, wi_eq rfl rfl, if_neg (by decide)]
theorem pl_0 (n : Nat) {σ : Mem} {k : Nat} (h : ShM σ 0) (hk : k < 7) : sp_X1_place n σ (rf 40 0) (nI k) = some (k, σ) := by
  have := ev_place n h hk
  rw [Nat.mul_zero, Nat.zero_add, Nat.zero_add] at this
  exact this
theorem ok_0 {k : Nat} (hk : k < 7) : Ok k 0 := by
  have := ok_lv (m := 0) (by omega) hk
  rwa [Nat.mul_zero, Nat.zero_add] at this
theorem RX.to14 {B : Nat} {σ τ : Mem} {L : Nat} {W : Nat → Nat} {u : Nat} (h : RS σ τ 0 L W u) (t : Int32) : RS σ (wi τ 41 14 t) 0 L W u := h.to h.sh (fun _ _ _ _ => rfl) (fun _ _ _ => rfl) (fun a b hab => wi_o (by omega))
theorem RG.to14 {σ τ : Mem} (h : RG σ τ 0) (t : Int32) : RG σ (wi τ 41 14 t) 0 := h.to (fun _ _ _ _ _ => rfl) (fun b hb => wi_o (by omega))
theorem RK.to14 {σ τ : Mem} {L N : Nat} (h : RK σ τ 0 L N) (t : Int32) : RK σ (wi τ 41 14 t) 0 L N := h.to (fun _ _ _ => rfl) (fun b hb => wi_o (by omega)) (wi_o (by omega))
theorem op_depthOf {n n' B : Nat} {σ τ : Mem} (a : Int32) (h : RX B σ τ) : OpG B σ τ (sp_L_depthOf n σ 40 a 49) (sp_X6_depthOf n' τ 41 a) := by
  obtain ⟨L, W, u, N, Q, hR, h1, hN⟩ := id h
  have hS := hR.1
  have hL := hS.lv
  rcases lvl_or L hL a with ⟨k, hk, rfl⟩ | hb
  · obtain ⟨d, -, d1, d2⟩ := hS.dep hk
    rw [Nat.mul_zero, Nat.zero_add] at d1
    refine op_get (v := nI d) h ?_ ?_
    · unfold sp_L_depthOf sp_X5_depthOf
      rw [ckP_ok n hS.c4 hL hk]
      simp only [Option.bind_some]
      rw [pl_0 n hS.sh (by omega)]
      simp only [Option.bind_some]
      rw [if_pos (ok_0 (by omega)), d1]
      rfl
    · unfold sp_X6_depthOf
      rw [lacksP_ok n' hS.t0 hL hk]
      simp only [Option.bind_some]
      rw [if_pos trivial, if_pos (inR_nI (by omega) (by omega))]
      simp only [nI_cl (show k < 100000 by omega), rfm_1]
      rw [wi_o (by omega), d2]
  · refine op_bad (t := 1) (r := 0) h (by decide) ?_ ?_
    · unfold sp_L_depthOf sp_X5_depthOf
      rw [ckP_bad n hS.c4 hb]
      simp
    · unfold sp_X6_depthOf
      rw [lacksP_bad n' hS.t0 hb]
      simp
theorem op_peopleAt {n n' B : Nat} {σ τ : Mem} (a : Int32) (h : RX B σ τ) : OpG B σ τ (sp_L_peopleAt n σ 40 a 49) (sp_X6_peopleAt n' τ 41 a) := by
  obtain ⟨L, W, u, N, Q, hR, h1, hN⟩ := id h
  have hS := hR.1
  have hL := hS.lv
  rcases lvl_or L hL a with ⟨k, hk, rfl⟩ | hb
  · have g := (hR.2.1 k (by omega)).2.1
    rw [Nat.mul_zero, Nat.zero_add] at g
    refine op_get (v := σ.1 k 8) h ?_ ?_
    · unfold sp_L_peopleAt sp_X5_peopleAt
      rw [ckP_ok n hS.c4 hL hk]
      simp only [Option.bind_some]
      rw [pl_0 n hS.sh (by omega)]
      simp only [Option.bind_some]
      rw [if_pos (ok_0 (by omega))]
      rfl
    · unfold sp_X6_peopleAt
      rw [lacksP_ok n' hS.t0 hL hk]
      simp only [Option.bind_some, ix7]
      rw [if_pos trivial, if_pos (inR_nI (by omega) (by omega))]
      simp only [nI_cl (show 7 + k < 100000 by omega), rfm_11]
      rw [wi_o (by omega), g]
  · refine op_bad (t := 1) (r := 0) h (by decide) ?_ ?_
    · unfold sp_L_peopleAt sp_X5_peopleAt
      rw [ckP_bad n hS.c4 hb]
      simp
    · unfold sp_X6_peopleAt
      rw [lacksP_bad n' hS.t0 hb]
      simp
theorem op_oreAt {n n' B : Nat} {σ τ : Mem} (a : Int32) (h : RX B σ τ) : OpG B σ τ (sp_L_oreAt n σ 40 a 49) (sp_X6_oreAt n' τ 41 a) := by
  obtain ⟨L, W, u, N, Q, hR, h1, hN⟩ := id h
  have hS := hR.1
  have hL := hS.lv
  rcases lvl_or L hL a with ⟨k, hk, rfl⟩ | hb
  · have g := (hR.2.1 k (by omega)).2.2.1
    rw [Nat.mul_zero, Nat.zero_add] at g
    refine op_get (v := σ.1 k 9) h ?_ ?_
    · unfold sp_L_oreAt sp_X5_oreAt
      rw [ckP_ok n hS.c4 hL hk]
      simp only [Option.bind_some]
      rw [pl_0 n hS.sh (by omega)]
      simp only [Option.bind_some]
      rw [if_pos (ok_0 (by omega))]
      rfl
    · unfold sp_X6_oreAt
      rw [lacksP_ok n' hS.t0 hL hk]
      simp only [Option.bind_some, ix14]
      rw [if_pos trivial, if_pos (inR_nI (by omega) (by omega))]
      simp only [nI_cl (show 14 + k < 100000 by omega), rfm_11]
      rw [wi_o (by omega), g]
  · refine op_bad (t := 1) (r := 0) h (by decide) ?_ ?_
    · unfold sp_L_oreAt sp_X5_oreAt
      rw [ckP_bad n hS.c4 hb]
      simp
    · unfold sp_X6_oreAt
      rw [lacksP_bad n' hS.t0 hb]
      simp
theorem op_gasOf {n n' B : Nat} {σ τ : Mem} (a : Int32) (h : RX B σ τ) : OpG B σ τ (sp_L_gasOf n σ 40 a 49) (sp_X6_gasOf n' τ 41 a) := by
  obtain ⟨L, W, u, N, Q, hR, h1, hN⟩ := id h
  have hS := hR.1
  have hL := hS.lv
  rcases lvl_or1 L hL a with ⟨k, hk1, hk, rfl⟩ | hb
  · have g := (hR.2.1 k (by omega)).1
    rw [Nat.mul_zero, Nat.zero_add] at g
    refine op_get (v := σ.1 k 7) h ?_ ?_
    · unfold sp_L_gasOf sp_X5_gasOf
      rw [ckL_ok n hS.c4 hL hk1 hk]
      simp only [Option.bind_some]
      rw [pl_0 n hS.sh (by omega)]
      simp only [Option.bind_some]
      rw [if_pos (ok_0 (by omega))]
      rfl
    · unfold sp_X6_gasOf
      rw [lacks_ok n' hS.t0 hL hk1 hk]
      simp only [Option.bind_some, ix_0 (show k < 73 by omega)]
      rw [if_pos trivial, if_pos (inR_nI (by omega) (by omega))]
      simp only [nI_cl (show k < 100000 by omega), rfm_11]
      rw [wi_o (by omega), g]
  · refine op_bad (t := 1) (r := 0) h (by decide) ?_ ?_
    · unfold sp_L_gasOf sp_X5_gasOf
      rw [ckL_bad n hS.c4 hb]
      simp
    · unfold sp_X6_gasOf
      rw [lacks_bad n' hS.t0 hb]
      simp
theorem op_airOf {n n' B : Nat} (hn' : 10 < n') {σ τ : Mem} (a : Int32) (h : RX B σ τ) : OpG B σ τ (sp_L_airOf n σ 40 a 49) (sp_X6_airOf n' τ 41 a) := by
  obtain ⟨L, W, u, N, Q, hR, h1, hN⟩ := id h
  have hS := hR.1
  have hL := hS.lv
  rcases lvl_or1 L hL a with ⟨k, hk1, hk, rfl⟩ | hb
  · have g := (hS.row hk1 hk).2.2.2.2
    have hS' := RX.to14 (B := B) hS 0
    obtain ⟨-, -, -, s4, -, s6, s7, -, s9, -⟩ := hS'
    rw [Nat.mul_zero, Nat.zero_add] at g
    refine op_get (v := nI (airN W L u k)) h ?_ ?_
    · unfold sp_L_airOf sp_X5_airOf
      rw [ckL_ok n hS.c4 hL hk1 hk]
      simp only [Option.bind_some]
      rw [pl_0 n hS.sh (by omega)]
      simp only [Option.bind_some]
      rw [if_pos (ok_0 (by omega)), g]
      rfl
    · unfold sp_X6_airOf
      rw [lacks_ok n' hS.t0 hL hk1 hk]
      simp only [Option.bind_some]
      rw [if_pos trivial, ev_air hn' s4 hL s6 s7 s9 hk1 hk]
      rfl
  · refine op_bad (t := 1) (r := 0) h (by decide) ?_ ?_
    · unfold sp_L_airOf sp_X5_airOf
      rw [ckL_bad n hS.c4 hb]
      simp
    · unfold sp_X6_airOf
      rw [lacks_bad n' hS.t0 hb]
      simp
theorem sh0 {σ : Mem} {k : Nat} : shC σ 0 k = shC σ 0 k := rfl
theorem op_gasShare {n n' B : Nat} {σ τ : Mem} (a : Int32) (h : RX B σ τ) : OpG B σ τ (sp_L_gasShare n σ 40 a 49) (sp_X6_gasShare n' τ 41 a) := by
  obtain ⟨L, W, u, N, Q, hR, h1, hN⟩ := id h
  have hS := hR.1
  have hL := hS.lv
  rcases lvl_or1 L hL a with ⟨k, hk1, hk, rfl⟩ | hb
  · have g := hS.share n hk1 hk
    rw [Nat.mul_zero, Nat.zero_add] at g
    refine op_get (v := shC σ 0 k) h ?_ ?_
    · unfold sp_L_gasShare sp_X5_gasShare
      rw [ckL_ok n hS.c4 hL hk1 hk]
      simp only [Option.bind_some]
      rw [pl_0 n hS.sh (by omega)]
      simp only [Option.bind_some]
      rw [if_pos (ok_0 (by omega)), g]
      rfl
    · unfold sp_X6_gasShare
      rw [lacks_ok n' hS.t0 hL hk1 hk]
      simp only [Option.bind_some]
      rw [if_pos trivial, (RX.to14 (B := B) hS 0).shareM (hR.2.1.to14 0) n' hk1 hk]
      rfl
  · refine op_bad (t := 1) (r := 0) h (by decide) ?_ ?_
    · unfold sp_L_gasShare sp_X5_gasShare
      rw [ckL_bad n hS.c4 hb]
      simp
    · unfold sp_X6_gasShare
      rw [lacks_bad n' hS.t0 hb]
      simp
theorem alC_or (σ : Mem) (m k : Nat) : alC σ m k = 0 ∨ alC σ m k = 1 := by
  unfold alC
  split
  · exact Or.inl rfl
  · exact Or.inr rfl
theorem cdC_or (σ : Mem) (m k : Nat) : cdC σ m k = 0 ∨ cdC σ m k = 1 := by
  unfold cdC
  split
  · exact Or.inl rfl
  · exact Or.inr rfl
theorem op_isAlarm {n n' B : Nat} {σ τ : Mem} (a : Int32) (h : RX B σ τ) : OpG B σ τ (sp_L_isAlarm n σ 40 a 49) (sp_X6_isAlarm n' τ 41 a) := by
  obtain ⟨L, W, u, N, Q, hR, h1, hN⟩ := id h
  have hS := hR.1
  have hL := hS.lv
  rcases lvl_or1 L hL a with ⟨k, hk1, hk, rfl⟩ | hb
  · have g := hS.alarm n hk1 hk
    rw [Nat.mul_zero, Nat.zero_add, Nat.zero_add] at g
    refine op_get (v := alC σ 0 k) h ?_ ?_
    · unfold sp_L_isAlarm sp_X5_isAlarm
      rw [ckL_ok n hS.c4 hL hk1 hk]
      simp only [Option.bind_some]
      rw [pl_0 n hS.sh (by omega)]
      simp only [Option.bind_some]
      rw [if_pos (ok_0 (by omega)), show rf 40 0 = 7 from rfl, g]
      simp only [Option.bind_some]
      rcases alC_or σ 0 k with e | e <;> rw [e] <;> rfl
    · unfold sp_X6_isAlarm
      rw [lacks_ok n' hS.t0 hL hk1 hk]
      simp only [Option.bind_some]
      rw [if_pos trivial, (RX.to14 (B := B) hS 0).alarmM (hR.2.1.to14 0) n' hk1 hk]
      simp only [Option.bind_some]
      rcases alC_or σ 0 k with e | e <;> rw [e] <;> rfl
  · refine op_bad (t := 1) (r := 0) h (by decide) ?_ ?_
    · unfold sp_L_isAlarm sp_X5_isAlarm
      rw [ckL_bad n hS.c4 hb]
      simp
    · unfold sp_X6_isAlarm
      rw [lacks_bad n' hS.t0 hb]
      simp
theorem op_isClosed {n n' B : Nat} {σ τ : Mem} (a : Int32) (h : RX B σ τ) : OpG B σ τ (sp_L_isClosed n σ 40 a 49) (sp_X6_isClosed n' τ 41 a) := by
  obtain ⟨L, W, u, N, Q, hR, h1, hN⟩ := id h
  have hS := hR.1
  have hL := hS.lv
  rcases lvl_or1 L hL a with ⟨k, hk1, hk, rfl⟩ | hb
  · have g := ev_isShut n σ 0 k
    rw [Nat.mul_zero, Nat.zero_add, Nat.zero_add] at g
    refine op_get (v := cdC σ 0 k) h ?_ ?_
    · unfold sp_L_isClosed sp_X5_isClosed
      rw [ckL_ok n hS.c4 hL hk1 hk]
      simp only [Option.bind_some]
      rw [pl_0 n hS.sh (by omega)]
      simp only [Option.bind_some]
      rw [if_pos (ok_0 (by omega)), show rf 40 0 = 7 from rfl, g]
      simp only [Option.bind_some]
      rcases cdC_or σ 0 k with e | e <;> rw [e] <;> rfl
    · unfold sp_X6_isClosed
      rw [lacks_ok n' hS.t0 hL hk1 hk]
      simp only [Option.bind_some]
      rw [if_pos trivial, ev_closedM n' (hR.2.1.to14 0) (hR.2.2.1.to14 0) (by omega)]
      simp only [Option.bind_some]
      rcases cdC_or σ 0 k with e | e <;> rw [e] <;> rfl
  · refine op_bad (t := 1) (r := 0) h (by decide) ?_ ?_
    · unfold sp_L_isClosed sp_X5_isClosed
      rw [ckL_bad n hS.c4 hb]
      simp
    · unfold sp_X6_isClosed
      rw [lacks_bad n' hS.t0 hb]
      simp
end
section
/-! PURE. the ops that set something; the plain counts -/
theorem op_put {B B' : Nat} {σ τ σ1 τ1 : Mem} {v : Int32} {c d : Option (Int32 × Mem)} (hB : B ≤ B') (hc : c = some (0, wi σ1 49 0 v)) (hd : d = some (v, τ1)) (ht : τ1.1 41 14 = 0) (h : RX B' σ1 τ1) (hf : FC σ σ1) (hm : FM τ τ1) : OpG B' σ τ c d :=
  ⟨0, _, v, τ1, hc, hd, ht, fun _ => wi_eq rfl rfl, h.to (Nat.le_refl _) (fun a b h1 _ _ _ => wi_o (by omega)) (fun _ _ => rfl) (fun _ _ _ _ _ _ => rfl), hf.trans (FC.out _ _ _), hm⟩
theorem rng (a lo hi : Int32) : (¬ a < lo ∧ a ≤ hi ∧ (∀ n σ, sp_X5_checkRange n σ a lo hi = some (.inl (), σ)) ∧ ∀ n τ, sp_X6_in n τ a lo hi = some (1, τ)) ∨ ((∀ n σ, sp_X5_checkRange n σ a lo hi = some (.inr "java/lang/IllegalArgumentException", σ)) ∧ ∀ n τ, sp_X6_in n τ a lo hi = some (0, τ)) := by
  unfold sp_X5_checkRange sp_X6_in
  by_cases h : a < lo
  · exact Or.inr ⟨fun n σ => by rw [if_pos h], fun n τ => by rw [if_pos h]⟩
  · by_cases g : a ≤ hi
    · exact Or.inl ⟨h, g, fun n σ => by rw [if_neg h, if_pos g], fun n τ => by rw [if_neg h, if_neg (Int32.not_lt.mpr g)]⟩
    · exact Or.inr ⟨fun n σ => by rw [if_neg h, if_neg g], fun n τ => by rw [if_neg h, if_pos (Int32.not_le.mp g)]⟩
/-- an int from lo to hi is a number -/
theorem rng_nI {a : Int32} {lo hi : Nat} (h1 : ¬ a < nI lo) (h2 : a ≤ nI hi) (hh : hi < 100000) (hl : lo ≤ hi) : ∃ j, lo ≤ j ∧ j ≤ hi ∧ a = nI j := by
  have h0 : ¬ a < 0 := fun c => h1 (Int32.lt_of_lt_of_le c (nI_pos' (by omega)))
  obtain ⟨j, j1, j2⟩ := nI_of2 (nI_toInt (show hi < 2 ^ 31 by omega)) h0 h2
  subst j2
  exact ⟨j, by rw [lt_nI (by omega) (by omega)] at h1; omega, j1, rfl⟩
theorem RR.newRS {σ τ σ' τ' : Mem} {L : Nat} {W W' : Nat → Nat} {u u' N Q : Nat} (h : RR σ τ 0 L W u N Q) (hs : RS σ' τ' 0 L W' u') (e : ∀ a b, a < 36 → (a ≤ 6 → 7 ≤ b) → (a = 7 → 8 ≤ b) → σ'.1 a b = σ.1 a b) (e2 : σ'.2 = σ.2) (m1 : ∀ b, τ'.1 47 b = τ.1 47 b) (m9 : τ'.1 41 9 = τ.1 41 9) (m10 : τ'.1 41 10 = τ.1 41 10) : RR σ' τ' 0 L W' u' N Q := by
  obtain ⟨hS, hG, hK, hT, hQ, hP, hB⟩ := h
  have hL := hS.lv
  have er : ∀ p b, p < 8 → σ'.1 (rw_ σ' 0 p) b = σ.1 (rw_ σ 0 p) b := fun p b hp => by
    have hh := hS.sh.2.2.1 p hp
    show σ'.1 (σ'.2 (38 + 0) p) b = _
    rw [e2]
    exact e _ _ (by omega) (by omega) (by omega)
  exact ⟨hs, hG.to (fun k b k1 b1 b2 => e _ _ (by omega) (by omega) (by omega)) (fun b hb => m1 b), hK.to (fun b b1 b2 => e _ _ (by omega) (by omega) (by omega)) (fun b hb => m1 b) m9, hT.to (fun b b1 => e _ _ (by omega) (by omega) (by omega)) (e _ _ (by omega) (by omega) (by omega)) (fun b _ _ => m1 b) (m1 _), hQ.to (e _ _ (by omega) (by omega) (by omega)) (fun p b hp hb => er p b hp) (e _ _ (by omega) (by omega) (by omega)) (e _ _ (by omega) (by omega) (by omega)) (fun b _ _ => m1 b), hP.to hL (fun k k1 => e _ _ (by omega) (by omega) (by omega)) (onT_cong (e _ _ (by omega) (by omega) (by omega)) (e _ _ (by omega) (by omega) (by omega))) m10, hB.to hL (fun k k1 => e _ _ (by omega) (by omega) (by omega)) (e _ _ (by omega) (by omega) (by omega)) (e _ _ (by omega) (by omega) (by omega))⟩
theorem op_setLimit {n n' B : Nat} {σ τ : Mem} (a : Int32) (h : RX B σ τ) : OpG B σ τ (sp_L_setLimit n σ 40 a 49) (sp_X6_setLimit n' τ 41 a) := by
  obtain ⟨L, W, u, N, Q, hR, h1, hN⟩ := id h
  have hS := hR.1
  rcases rng a 1 1000 with ⟨-, -, c1, c2⟩ | ⟨c1, c2⟩
  · refine op_put (B := B) (v := σ.1 7 6) (σ1 := wi σ 7 6 a) (τ1 := wi (wi τ 41 14 0) 41 7 a) (Nat.le_refl _) ?_ ?_ ?_ ⟨L, W, u, N, Q, hR.newRS (W' := W) (u' := u) ?_ (fun a b h1 h2 h3 => wi_o (by omega)) rfl (fun b => ?_) ?_ ?_, h1.to rfl, hN⟩ ⟨fun a b h1 h2 => wi_o (by omega), fun _ _ => rfl⟩ ⟨fun a b h1 => by rw [wi_o (by omega), wi_o (by omega)], rfl⟩
    · unfold sp_L_setLimit sp_X5_setLimit
      rw [c1]
      rfl
    · unfold sp_X6_setLimit
      rw [c2]
      simp only [Option.bind_some, lm]
      rw [if_neg (by decide), wi_eq rfl rfl, if_pos (by decide), wi_o (by omega), show σ.1 7 6 = τ.1 41 7 from hS.lim]
    · rw [wi_o (by omega), wi_eq rfl rfl]
    · obtain ⟨a1, a2, a3, a4, a5, a6, a7, a8, a9, a10, a11, a12, a13, a14⟩ := hS
      refine ⟨a1.to rfl, a2, ?_, ?_, ?_, ?_, a7, ?_, ?_, ?_, ?_, ?_, ?_, ?_⟩
      · rw [wi_o (by omega)]; exact a3
      · rw [wi_o (by omega), wi_o (by omega)]; exact a4
      · intro k k1 k2
        rw [owC_cong (σ := σ) (wi_o (by omega)) (wi_o (by omega))]
        exact a5 k k1 k2
      · intro k k1 k2
        rw [wi_o (by omega), wi_o (by omega), wi_o (by omega), wi_o (by omega)]
        exact a6 k k1 k2
      · rw [wi_o (by omega)]; exact a8
      · rw [wi_o (by omega), wi_o (by omega)]; exact a9
      · rw [wi_eq rfl rfl, wi_eq rfl rfl]
      · obtain ⟨v, v1, v2, v3, v4⟩ := a11
        exact ⟨v, v1, v2, by rw [wi_o (by omega)]; exact v3, by rw [wi_o (by omega), wi_o (by omega)]; exact v4⟩
      · intro k k1
        rw [wi_o (by omega), wi_o (by omega), wi_o (by omega)]
        exact a12 k k1
      · intro k k1 k2
        rw [wi_o (by omega), wi_o (by omega), wi_o (by omega), wi_o (by omega), wi_o (by omega), wi_o (by omega), wi_o (by omega), wi_o (by omega), wi_o (by omega), wi_o (by omega), wi_o (by omega), wi_o (by omega), wi_o (by omega)]
        exact a13 k k1 k2
      · intro k k1
        rw [wi_o (by omega)]
        exact a14 k k1
    · rw [wi_o (by omega), wi_o (by omega)]
    · rw [wi_o (by omega), wi_o (by omega)]
    · rw [wi_o (by omega), wi_o (by omega)]
  · refine op_bad (t := 1) (r := 0) h (by decide) ?_ ?_
    · unfold sp_L_setLimit sp_X5_setLimit
      rw [c1]
      simp
    · unfold sp_X6_setLimit
      rw [c2]
      simp only [Option.bind_some, lm]
      rw [if_pos trivial, wi_eq rfl rfl, if_neg (by decide)]
theorem op_setSpeed {n n' B : Nat} {σ τ : Mem} (a : Int32) (h : RX B σ τ) : OpG B σ τ (sp_L_setSpeed n σ 40 a 49) (sp_X6_setSpeed n' τ 41 a) := by
  obtain ⟨L, W, u, N, Q, hR, h1, hN⟩ := id h
  have hS := hR.1
  rcases rng a 10 500 with ⟨g1, g2, c1, c2⟩ | ⟨c1, c2⟩
  · obtain ⟨v0, v1, v2, v3⟩ := rng_nI (lo := 10) (hi := 500) g1 g2 (by omega) (by omega)
    refine op_put (B := B) (v := σ.1 7 7) (σ1 := wi σ 7 7 a) (τ1 := wi (wi τ 41 14 0) 41 8 a) (Nat.le_refl _) ?_ ?_ ?_ ⟨L, W, u, N, Q, hR.newRS (W' := W) (u' := u) ?_ (fun a b h1 h2 h3 => wi_o (by omega)) rfl (fun b => ?_) ?_ ?_, h1.to rfl, hN⟩ ⟨fun a b h1 h2 => wi_o (by omega), fun _ _ => rfl⟩ ⟨fun a b h1 => by rw [wi_o (by omega), wi_o (by omega)], rfl⟩
    · unfold sp_L_setSpeed sp_X5_setSpeed
      rw [c1]
      rfl
    · obtain ⟨w, -, -, w3, w4⟩ := hS.spd
      unfold sp_X6_setSpeed
      rw [c2]
      simp only [Option.bind_some, lm]
      rw [if_neg (by decide), wi_eq rfl rfl, if_pos (by decide), wi_o (by omega), w4, show σ.1 7 7 = nI w from w3]
    · rw [wi_o (by omega), wi_eq rfl rfl]
    · obtain ⟨a1, a2, a3, a4, a5, a6, a7, a8, a9, a10, a11, a12, a13, a14⟩ := hS
      refine ⟨a1.to rfl, a2, ?_, ?_, ?_, ?_, a7, ?_, ?_, ?_, ?_, ?_, ?_, ?_⟩
      · rw [wi_o (by omega)]; exact a3
      · rw [wi_o (by omega), wi_o (by omega)]; exact a4
      · intro k k1 k2
        rw [owC_cong (σ := σ) (wi_o (by omega)) (wi_o (by omega))]
        exact a5 k k1 k2
      · intro k k1 k2
        rw [wi_o (by omega), wi_o (by omega), wi_o (by omega), wi_o (by omega)]
        exact a6 k k1 k2
      · rw [wi_o (by omega)]; exact a8
      · rw [wi_o (by omega), wi_o (by omega)]; exact a9
      · rw [wi_o (by omega), wi_o (by omega), wi_o (by omega)]; exact a10
      · exact ⟨v0, by omega, v2, by rw [wi_eq rfl rfl]; exact v3, by rw [wi_eq rfl rfl]; exact v3⟩
      · intro k k1
        rw [wi_o (by omega), wi_o (by omega), wi_o (by omega)]
        exact a12 k k1
      · intro k k1 k2
        rw [wi_o (by omega), wi_o (by omega), wi_o (by omega), wi_o (by omega), wi_o (by omega), wi_o (by omega), wi_o (by omega), wi_o (by omega), wi_o (by omega), wi_o (by omega), wi_o (by omega), wi_o (by omega), wi_o (by omega)]
        exact a13 k k1 k2
      · intro k k1
        rw [wi_o (by omega)]
        exact a14 k k1
    · rw [wi_o (by omega), wi_o (by omega)]
    · rw [wi_o (by omega), wi_o (by omega)]
    · rw [wi_o (by omega), wi_o (by omega)]
  · refine op_bad (t := 1) (r := 0) h (by decide) ?_ ?_
    · unfold sp_L_setSpeed sp_X5_setSpeed
      rw [c1]
      simp
    · unfold sp_X6_setSpeed
      rw [c2]
      simp only [Option.bind_some, lm]
      rw [if_pos trivial, wi_eq rfl rfl, if_neg (by decide)]
/-- the relation behind spreadAir, with new widths and a new fan -/
theorem spread_RS {σ τ : Mem} {L : Nat} {W : Nat → Nat} {u : Nat} (h1 : ShM σ 0) (hL : L ≤ 6) (h4 : σ.1 7 4 = nI L) (t0 : τ.1 41 0 = nI L) (hW : NW σ 0 L W) (hM : NM τ L W) (hu : u ≤ 1000) (h5 : σ.1 7 5 = nI u) (t6 : τ.1 41 6 = nI u) (hl : σ.1 7 6 = τ.1 41 7) (hv : ∃ v, 1 ≤ v ∧ v ≤ 500 ∧ σ.1 7 7 = nI v ∧ τ.1 41 8 = nI v) (hd : ∀ k, k ≤ L → ∃ d, d ≤ 2000 ∧ σ.1 k 0 = nI d ∧ τ.1 42 k = nI d) (hr : ∀ k, 1 ≤ k → k ≤ L → (∃ z, 1 ≤ z ∧ z ≤ 500 ∧ σ.1 k 1 = nI z ∧ τ.1 43 k = nI z) ∧ σ.1 k 3 = τ.1 45 k ∧ (∃ w, 1 ≤ w ∧ w ≤ 20 ∧ σ.1 k 2 = nI w ∧ τ.1 44 k = nI w) ∧ σ.1 k 4 = τ.1 46 k) (ho : ∀ k, k < 7 → σ.1 k 4 = 0 ∨ σ.1 k 4 = 1) : RS (spA σ 0 L W u L) τ 0 L W u := by
  have o : ∀ a b, (b = 5 → a ≤ 0 ∨ L < a) → (spA σ 0 L W u L).1 a b = σ.1 a b := fun a b hab => spA_o (by omega)
  refine ⟨h1.to (spA_2 _ _ _ _ _ _), hL, ?_, t0, ?_, hM, hu, ?_, t6, ?_, ?_, ?_, ?_, ?_⟩
  · rw [o _ _ (by omega)]; exact h4
  · intro k k1 k2
    rw [owC_cong (σ := σ) (o _ _ (by omega)) (o _ _ (by omega))]
    exact hW k k1 k2
  · rw [o _ _ (by omega)]; exact h5
  · rw [o _ _ (by omega)]; exact hl
  · rw [o _ _ (by omega)]; exact hv
  · intro k k1
    rw [o _ _ (by omega), show 10 * 0 + k = k by omega]
    exact hd k k1
  · intro k k1 k2
    rw [o _ 1 (by omega), o _ 2 (by omega), o _ 3 (by omega), o _ 4 (by omega), spA_at k1 k2, show 10 * 0 + k = k by omega]
    obtain ⟨q1, q2, q3, q4⟩ := hr k k1 k2
    exact ⟨q1, q2, q3, q4, rfl⟩
  · intro k k1
    rw [o _ 4 (by omega), show 10 * 0 + k = k by omega]
    exact ho k k1
theorem ev_spread0 {n : Nat} (hn : 10 < n) {σ : Mem} {L : Nat} {W : Nat → Nat} {u : Nat} (h : ShM σ 0) (hL : σ.1 7 4 = nI L) (hL6 : L ≤ 6) (hW : NW σ 0 L W) (hu : u ≤ 1000) (hf : σ.1 7 5 = nI u) : sp_X1_spreadAir n σ (rf 40 0) = some ((), spA σ 0 L W u L) := ev_spreadAir hn h hL hL6 hW hu hf
theorem op_setFan {n n' B : Nat} (hn : 10 < n) {σ τ : Mem} (a : Int32) (h : RX B σ τ) : OpG B σ τ (sp_L_setFan n σ 40 a 49) (sp_X6_setFan n' τ 41 a) := by
  obtain ⟨L, W, u, N, Q, hR, h1, hN⟩ := id h
  have hS := hR.1
  have hL := hS.lv
  rcases rng a 0 1000 with ⟨g1, g2, c1, c2⟩ | ⟨c1, c2⟩
  · obtain ⟨v0, v1, v2, v3⟩ := rng_nI (lo := 0) (hi := 1000) g1 g2 (by omega) (by omega)
    obtain ⟨a1, a2, a3, a4, a5, a6, a7, a8, a9, a10, a11, a12, a13, a14⟩ := hS
    have e7 : (wi σ 7 5 a).1 7 4 = nI L := by rw [wi_o (by omega)]; exact a3
    have eW : NW (wi σ 7 5 a) 0 L W := fun k k1 k2 => by
      rw [owC_cong (σ := σ) (wi_o (by omega)) (wi_o (by omega))]
      exact a5 k k1 k2
    have o2 : ∀ a' b, a' ≠ 41 ∨ (b ≠ 6 ∧ b ≠ 14) → (wi (wi τ 41 14 0) 41 6 a).1 a' b = τ.1 a' b := fun a' b hab => by rw [wi_o (by omega), wi_o (by omega)]
    refine op_put (B := B) (v := σ.1 7 5) (σ1 := spA (wi σ 7 5 a) 0 L W v0 L) (τ1 := wi (wi τ 41 14 0) 41 6 a) (Nat.le_refl _) ?_ ?_ ?_ ⟨L, W, v0, N, Q, hR.newRS (W' := W) (u' := v0) ?_ (fun a b h1 h2 h3 => ?_) (spA_2 _ _ _ _ _ _) (fun b => o2 _ _ (by omega)) (o2 _ _ (by omega)) (o2 _ _ (by omega)), h1.to (spA_2 _ _ _ _ _ _), hN⟩ ⟨fun a b h1 h2 => ?_, fun _ _ => by rw [spA_2]; rfl⟩ ⟨fun a b h1 => o2 _ _ (by omega), rfl⟩
    · unfold sp_L_setFan sp_X5_setFan
      rw [c1]
      simp only [Option.bind_some, lm]
      rw [show rf 40 0 = 7 from rfl, show sp_X1_spreadAir n (wi σ 7 5 a) 7 = some ((), spA (wi σ 7 5 a) 0 L W v0 L) from ev_spread0 hn (a1.to rfl) e7 hL eW v2 (by rw [wi_eq rfl rfl]; exact v3)]
      rfl
    · unfold sp_X6_setFan
      rw [c2]
      simp only [Option.bind_some, lm]
      rw [if_neg (by decide), wi_eq rfl rfl, if_pos (by decide), wi_o (by omega), a9, show σ.1 7 5 = nI u from a8]
    · rw [wi_o (by omega), wi_eq rfl rfl]
    · refine spread_RS (a1.to rfl) hL e7 (by rw [o2 _ _ (by omega)]; exact a4) eW (fun k k1 k2 => by rw [o2 _ _ (by omega), o2 _ _ (by omega)]; exact a6 k k1 k2) v2 (by rw [wi_eq rfl rfl]; exact v3) (by rw [wi_eq rfl rfl]; exact v3) (by rw [wi_o (by omega), o2 _ _ (by omega)]; exact a10) (by rw [wi_o (by omega), o2 _ _ (by omega)]; exact a11) (fun k k1 => ?_) (fun k k1 k2 => ?_) (fun k k1 => ?_)
      · have := a12 k k1
        rw [show 10 * 0 + k = k by omega] at this
        rw [wi_o (by omega), o2 _ _ (by omega)]
        exact this
      · have := a13 k k1 k2
        rw [show 10 * 0 + k = k by omega] at this
        obtain ⟨q1, q2, q3, q4, -⟩ := this
        have o1 : ∀ b, (wi σ 7 5 a).1 k b = σ.1 k b := fun b => wi_o (by omega)
        rw [o1 1, o1 2, o1 3, o1 4, o2 43 _ (by omega), o2 44 _ (by omega), o2 45 _ (by omega), o2 46 _ (by omega)]
        exact ⟨q1, q2, q3, q4⟩
      · have := a14 k k1
        rw [show 10 * 0 + k = k by omega] at this
        rw [wi_o (by omega)]
        exact this
    · rw [spA_o (by omega), wi_o (by omega)]
    · rw [spA_o (by omega), wi_o (by omega)]
  · refine op_bad (t := 1) (r := 0) h (by decide) ?_ ?_
    · unfold sp_L_setFan sp_X5_setFan
      rw [c1]
      simp
    · unfold sp_X6_setFan
      rw [c2]
      simp only [Option.bind_some, lm]
      rw [if_pos trivial, wi_eq rfl rfl, if_neg (by decide)]
theorem vp_nar_b {b : Int32} (h : b = 0 ∨ b = 1) : vp_nar .boolean b = b := by
  rcases h with h | h <;> subst h <;> rfl
theorem op_setDoor {n n' B : Nat} (hn : 10 < n) {σ τ : Mem} (a b : Int32) (hb : b = 0 ∨ b = 1) (h : RX B σ τ) : OpG B σ τ (sp_L_setDoor n σ 40 a b 49) (sp_X6_setDoor n' τ 41 a b) := by
  obtain ⟨L, W, u, N, Q, hR, h1, hN⟩ := id h
  have hS := hR.1
  have hL := hS.lv
  rcases lvl_or1 L hL a with ⟨k, hk1, hk, rfl⟩ | hbad
  · obtain ⟨a1, a2, a3, a4, a5, a6, a7, a8, a9, a10, a11, a12, a13, a14⟩ := id hS
    obtain ⟨-, -, ⟨w, w1, w2, w3, w4⟩, rd, -⟩ := a13 k hk1 hk
    have rb := a14 k (by omega)
    rw [Nat.mul_zero, Nat.zero_add] at w3 rd rb
    have e7 : (wi σ k 4 b).1 7 4 = nI L := by rw [wi_o (by omega)]; exact a3
    have eW : NW (wi σ k 4 b) 0 L (fun i => if i = k then (if b = 0 then 0 else w) else W i) := fun i i1 i2 => by
      by_cases e : i = k
      · subst e
        simp only [if_pos]
        unfold owC
        rw [show 10 * 0 + i = i by omega, wi_eq rfl rfl, wi_o (by omega), w3]
        by_cases e0 : b = 0
        · rw [if_pos e0, if_pos e0]
          exact ⟨rfl, by omega⟩
        · rw [if_neg e0, if_neg e0]
          exact ⟨rfl, by omega⟩
      · simp only [if_neg e]
        rw [owC_cong (σ := σ) (wi_o (by omega)) (wi_o (by omega))]
        exact a5 i i1 i2
    have o2 : ∀ a' b', (a' ≠ 41 ∨ b' ≠ 14) → (a' ≠ 46 ∨ b' ≠ k) → (wi (wi τ 41 14 0) 46 k b).1 a' b' = τ.1 a' b' := fun a' b' hab hab2 => by rw [wi_o (by omega), wi_o (by omega)]
    have eM : NM (wi (wi τ 41 14 0) 46 k b) L (fun i => if i = k then (if b = 0 then 0 else w) else W i) := fun i i1 i2 => by
      by_cases e : i = k
      · subst e
        simp only [if_pos]
        rw [wi_eq rfl rfl, o2 _ _ (by omega) (by omega), w4]
        by_cases e0 : b = 0
        · rw [if_pos e0]
          exact Or.inl ⟨e0, rfl⟩
        · rw [if_neg e0]
          exact Or.inr ⟨e0, rfl, w1, w2⟩
      · simp only [if_neg e]
        rw [o2 _ _ (by omega) (by omega), o2 _ _ (by omega) (by omega)]
        exact a6 i i1 i2
    refine op_put (B := B) (v := σ.1 k 4) (σ1 := spA (wi σ k 4 b) 0 L (fun i => if i = k then (if b = 0 then 0 else w) else W i) u L) (τ1 := wi (wi τ 41 14 0) 46 k b) (Nat.le_refl _) ?_ ?_ ?_ ⟨L, _, u, N, Q, hR.newRS (W' := fun i => if i = k then (if b = 0 then 0 else w) else W i) (u' := u) ?_ (fun a b h1 h2 h3 => ?_) (spA_2 _ _ _ _ _ _) (fun b => o2 _ _ (by omega) (by omega)) (o2 _ _ (by omega) (by omega)) (o2 _ _ (by omega) (by omega)), h1.to (spA_2 _ _ _ _ _ _), hN⟩ ⟨fun a b h1 h2 => ?_, fun _ _ => by rw [spA_2]; rfl⟩ ⟨fun a b h1 => o2 _ _ (by omega) (by omega), rfl⟩
    · unfold sp_L_setDoor sp_X5_setDoor
      rw [ckL_ok n a3 hL hk1 hk]
      simp only [Option.bind_some]
      rw [pl_0 n a1 (by omega)]
      simp only [Option.bind_some]
      rw [if_pos (ok_0 (by omega)), if_pos hb]
      simp only [lm]
      rw [ev_spread0 hn (show ShM (wi σ k 4 b) 0 from a1.to rfl) e7 hL eW a7 (by rw [wi_o (by omega)]; exact a8)]
      simp only [Option.bind_some]
      rw [if_pos rb]
      simp only [Option.bind_some]
      rcases rb with e | e <;> rw [e] <;> rfl
    · unfold sp_X6_setDoor
      rw [lacks_ok n' a4 hL hk1 hk]
      simp only [Option.bind_some]
      rw [if_pos trivial, if_pos (inR_nI (by omega) (by omega)), if_pos (inR_nI (by omega) (by omega))]
      simp only [lm, nI_cl (show k < 100000 by omega), rfm_5, vp_nar_b hb]
      rw [wi_o (by omega), ← rd, if_pos rb]
    · rw [wi_o (by omega), wi_eq rfl rfl]
    · refine spread_RS (a1.to rfl) hL e7 (by rw [o2 _ _ (by omega) (by omega)]; exact a4) eW eM a7 (by rw [wi_o (by omega)]; exact a8) (by rw [o2 _ _ (by omega) (by omega)]; exact a9) (by rw [wi_o (by omega), o2 _ _ (by omega) (by omega)]; exact a10) (by rw [wi_o (by omega), o2 _ _ (by omega) (by omega)]; exact a11) (fun i i1 => ?_) (fun i i1 i2 => ?_) (fun i i1 => ?_)
      · have := a12 i i1
        rw [show 10 * 0 + i = i by omega] at this
        rw [wi_o (by omega), o2 _ _ (by omega) (by omega)]
        exact this
      · have := a13 i i1 i2
        rw [show 10 * 0 + i = i by omega] at this
        obtain ⟨q1, q2, q3, q4, -⟩ := this
        have o1 : ∀ b', b' ≠ 4 → (wi σ k 4 b).1 i b' = σ.1 i b' := fun b' hb' => wi_o (by omega)
        rw [o1 1 (by omega), o1 2 (by omega), o1 3 (by omega), o2 43 _ (by omega) (by omega), o2 44 _ (by omega) (by omega), o2 45 _ (by omega) (by omega)]
        refine ⟨q1, q2, q3, ?_⟩
        by_cases e : i = k
        · subst e
          rw [wi_eq rfl rfl, wi_eq rfl rfl]
        · rw [wi_o (by omega), o2 _ _ (by omega) (by omega)]
          exact q4
      · have := a14 i i1
        rw [show 10 * 0 + i = i by omega] at this
        by_cases e : i = k
        · subst e
          rw [wi_eq rfl rfl]
          exact hb
        · rw [wi_o (by omega)]
          exact this
    · rw [spA_o (by omega), wi_o (by omega)]
    · rw [spA_o (by omega), wi_o (by omega)]
  · refine op_bad (t := 1) (r := 0) h (by decide) ?_ ?_
    · unfold sp_L_setDoor sp_X5_setDoor
      rw [ckL_bad n hS.c4 hbad]
      simp
    · unfold sp_X6_setDoor
      rw [lacks_bad n' hS.t0 hbad]
      simp
end
section
/-! PURE. the plain counts, people, the air by paths, the trip's and the queue's ops -/
theorem op_levelCount {n n' B : Nat} {σ τ : Mem} (h : RX B σ τ) : OpN B σ τ (sp_X5_levelCount n σ 40) (sp_X6_levelCount n' τ 41) := by
  obtain ⟨L, W, u, N, Q, hR, h1, hN⟩ := id h
  refine op_num (v := nI L) h (by unfold sp_X5_levelCount; rw [show σ.1 (rf 40 0) 4 = nI L from hR.1.c4]) ?_
  unfold sp_X6_levelCount
  simp only [lm]
  rw [wi_o (by omega), hR.1.t0]
theorem op_gasTotal {n n' B : Nat} {σ τ : Mem} (h : RX B σ τ) : OpN B σ τ (sp_X5_gasTotal n σ 40) (sp_X6_gasTotal n' τ 41) := by
  obtain ⟨L, W, u, N, Q, hR, h1, hN⟩ := id h
  refine op_num (v := τ.1 47 70) h (by unfold sp_X5_gasTotal; rw [show σ.1 (rf 40 0) 9 = τ.1 47 70 from hR.2.2.1.2.1]) ?_
  unfold sp_X6_gasTotal
  simp only [lm, rfm_11, c70]
  rw [if_pos i70, wi_o (by omega)]
theorem op_ventedTotal {n n' B : Nat} {σ τ : Mem} (h : RX B σ τ) : OpN B σ τ (sp_X5_ventedTotal n σ 40) (sp_X6_ventedTotal n' τ 41) := by
  obtain ⟨L, W, u, N, Q, hR, h1, hN⟩ := id h
  refine op_num (v := τ.1 47 71) h (by unfold sp_X5_ventedTotal; rw [show σ.1 (rf 40 0) 10 = τ.1 47 71 from hR.2.2.1.2.2.1]) ?_
  unfold sp_X6_ventedTotal
  simp only [lm, rfm_11, c71]
  rw [if_pos i71, wi_o (by omega)]
theorem op_waitingCount {n n' B : Nat} {σ τ : Mem} (h : RX B σ τ) : OpN B σ τ (sp_X5_waitingCount n σ 40) (sp_X6_waitingCount n' τ 41) := by
  obtain ⟨L, W, u, N, Q, hR, h1, hN⟩ := id h
  refine op_num (v := nI Q) h (by unfold sp_X5_waitingCount; rw [show σ.1 (rf (rf 40 0) 2) 1 = nI Q from hR.2.2.2.2.1.2.2.1]) ?_
  unfold sp_X6_waitingCount
  simp only [lm, rfm_11, c60]
  rw [if_pos i60, wi_o (by omega), hR.2.2.2.2.1.2.2.2.1]
theorem op_clock {n n' B : Nat} {σ τ : Mem} (h : RX B σ τ) : OpN B σ τ (sp_X5_clock n σ 40) (sp_X6_clock n' τ 41) := by
  obtain ⟨L, W, u, N, Q, hR, h1, hN⟩ := id h
  refine op_num (v := τ.1 47 61) h (by unfold sp_X5_clock; rw [show σ.1 (rf 40 0) 8 = τ.1 47 61 from hR.2.2.1.1]) ?_
  unfold sp_X6_clock
  simp only [lm, rfm_11, c61]
  rw [if_pos i61, wi_o (by omega)]
theorem op_cageLevel {n n' B : Nat} {σ τ : Mem} (h : RX B σ τ) : OpN B σ τ (sp_X5_cageLevel n σ 40) (sp_X6_cageLevel n' τ 41) := by
  obtain ⟨L, W, u, N, Q, hR, h1, hN⟩ := id h
  obtain ⟨c, -, c1, c2⟩ := hR.2.2.1.2.2.2.2.2.1
  refine op_num (v := nI c) h (by unfold sp_X5_cageLevel; rw [show σ.1 (rf 40 0) 12 = nI c from c1]) ?_
  unfold sp_X6_cageLevel
  simp only [lm, rfm_11, ix62]
  rw [if_pos i62, wi_o (by omega), c2]
theorem op_doneCount {n n' B : Nat} {σ τ : Mem} (h : RX B σ τ) : OpN B σ τ (sp_X5_doneCount n σ 40) (sp_X6_doneCount n' τ 41) := by
  obtain ⟨L, W, u, N, Q, hR, h1, hN⟩ := id h
  refine op_num (v := τ.1 47 68) h (by unfold sp_X5_doneCount; rw [show σ.1 (rf 40 0) 13 = τ.1 47 68 from hR.2.2.1.2.2.2.2.2.2.1]) ?_
  unfold sp_X6_doneCount
  simp only [lm, rfm_11, ix68]
  rw [if_pos i68, wi_o (by omega)]
theorem op_droppedCount {n n' B : Nat} {σ τ : Mem} (h : RX B σ τ) : OpN B σ τ (sp_X5_droppedCount n σ 40) (sp_X6_droppedCount n' τ 41) := by
  obtain ⟨L, W, u, N, Q, hR, h1, hN⟩ := id h
  refine op_num (v := τ.1 47 69) h (by unfold sp_X5_droppedCount; rw [show σ.1 (rf 40 0) 14 = τ.1 47 69 from hR.2.2.1.2.2.2.2.2.2.2]) ?_
  unfold sp_X6_droppedCount
  simp only [lm, rfm_11, ix69]
  rw [if_pos i69, wi_o (by omega)]
theorem ch_kd5 {c : Int32} (h : c = 45 ∨ kd4 c) : (c.toUInt32 % 65536).toInt32 = c := by
  rcases h with h | h | h | h | h <;> subst h <;> decide
theorem op_tripKind {n n' B : Nat} {σ τ : Mem} (h : RX B σ τ) : OpN B σ τ (sp_X5_tripKind n σ 40) (sp_X6_tripKind n' τ 41) := by
  obtain ⟨L, W, u, N, Q, hR, h1, hN⟩ := id h
  have hT := hR.2.2.2.1
  have hk : σ.1 8 0 = 45 ∨ kd4 (σ.1 8 0) := hT.2.2.1
  have e : τ.1 47 63 = σ.1 8 0 := hT.1.symm
  refine op_num (v := σ.1 8 0) h ?_ ?_
  · unfold sp_X5_tripKind
    rw [show rf (rf 40 0) 3 = 8 from rfl, if_pos (kd_ch hk)]
  · unfold sp_X6_tripKind
    simp only [lm, rfm_11, ix63]
    rw [if_pos i63, wi_o (by omega), e, ch_kd5 hk, if_pos (kd_ch hk)]
/-- all people, of the class -/
theorem lp_allPeople (n : Nat) {σ τ : Mem} {L : Nat} {W : Nat → Nat} {u : Nat} (h : RS σ τ 0 L W u) {x : Int32} : ∀ (d k j : Nat), j + d = L → d < k → lp_X1_allPeople_26 n 7 k σ (acc x (fun i => σ.1 (10 * 0 + i) 8) j) (nI (j + 1)) = some (acc x (fun i => σ.1 (10 * 0 + i) 8) L, σ) := by
  intro d
  have hL := h.lv
  have h4 : σ.1 7 4 = nI L := h.c4
  induction d with
  | zero =>
    intro k j hj hk
    obtain ⟨k, rfl⟩ : ∃ z, k = z + 1 := ⟨k - 1, by omega⟩
    rw [lp_X1_allPeople_26_s, h4, if_pos ((lt_nI (by omega) (by omega)).mpr (by omega)), show j = L by omega]
  | succ d ih =>
    intro k j hj hk
    obtain ⟨k, rfl⟩ : ∃ z, k = z + 1 := ⟨k - 1, by omega⟩
    rw [lp_X1_allPeople_26_s, h4, if_neg (by rw [lt_nI (by omega) (by omega)]; omega), show sp_X1_place n σ 7 (nI (j + 1)) = some (j + 1, σ) from pl_0 n h.sh (by omega)]
    simp only [Option.bind_some]
    rw [if_pos (ok_0 (by omega)), add1_nI]
    have := ih k (j + 1) (by omega) (by omega)
    rw [acc, show 10 * 0 + (j + 1) = j + 1 by omega] at this
    exact this
theorem ev_allPeople {n : Nat} (hn : 10 < n) {σ τ : Mem} {L : Nat} {W : Nat → Nat} {u N Q : Nat} (h : RR σ τ 0 L W u N Q) : sp_X1_allPeople n σ 7 = some (τ.1 41 10, σ) := by
  have hS := h.1
  have hL := hS.lv
  have h4 : σ.1 7 4 = nI L := hS.c4
  have hp := h.2.2.2.2.2.1.1
  obtain ⟨k, rfl⟩ : ∃ z, n = z + 1 := ⟨n - 1, by omega⟩
  have key : ∀ x : Int32, lp_X1_allPeople_26 (k + 1) 7 (k + 1) σ x 0 = some (acc (x + σ.1 (10 * 0) 8) (fun i => σ.1 (10 * 0 + i) 8) L, σ) := fun x => by
    rw [lp_X1_allPeople_26_s, h4, if_neg (not_neg (by omega)), show sp_X1_place (k + 1) σ 7 0 = some (0, σ) from pl_0 (k + 1) (k := 0) hS.sh (by omega)]
    simp only [Option.bind_some]
    rw [if_pos (ok_0 (by omega))]
    exact lp_allPeople (k + 1) hS L k 0 (by omega) (by omega)
  unfold sp_X1_allPeople
  unfold onT at hp
  rw [show rf 7 3 = 10 * 0 + 8 from rfl]
  by_cases c : σ.1 (10 * 0 + 8) 0 = 111
  · rw [if_pos c] at hp
    rw [if_pos c, key, hp]
  · rw [if_neg c] at hp
    rw [if_neg c, key, hp]
theorem op_peopleTotal {n n' B : Nat} (hn : 10 < n) {σ τ : Mem} (h : RX B σ τ) : OpN B σ τ (sp_X5_peopleTotal n σ 40) (sp_X6_peopleTotal n' τ 41) := by
  obtain ⟨L, W, u, N, Q, hR, h1, hN⟩ := id h
  refine op_num (v := τ.1 41 10) h ?_ ?_
  · unfold sp_X5_peopleTotal
    rw [show rf 40 0 = 7 from rfl, ev_allPeople hn hR]
    rfl
  · unfold sp_X6_peopleTotal
    simp only [lm]
    rw [wi_o (by omega)]
theorem op_hire {n n' B : Nat} (hn : 10 < n) {σ τ : Mem} (a : Int32) (h : RX B σ τ) : OpG B σ τ (sp_L_hire n σ 40 a 49) (sp_X6_hire n' τ 41 a) := by
  obtain ⟨L, W, u, N, Q, hR, h1, hN⟩ := id h
  have hS := hR.1
  have hL := hS.lv
  have h7 : inR (7 : Int32) 73 := by decide
  have c7 : (7 : Int32).toNatClampNeg = 7 := by decide
  rcases rng a 1 99 with ⟨-, -, c1, c2⟩ | ⟨c1, c2⟩
  · by_cases c : τ.1 41 10 + a ≤ 200
    · have g := (hR.2.1 0 (by omega)).2.1
      have o2 : ∀ a' b', (a' ≠ 41 ∨ (b' ≠ 14 ∧ b' ≠ 10)) → (a' ≠ 47 ∨ b' ≠ 7) → (wi (wi (wi τ 41 14 0) 41 10 (τ.1 41 10 + a)) 47 7 (τ.1 47 7 + a)).1 a' b' = τ.1 a' b' := fun a' b' q1 q2 => by rw [wi_o (by omega), wi_o (by omega), wi_o (by omega)]
      refine op_put (B := B) (v := σ.1 0 8 + a) (σ1 := wi σ 0 8 (σ.1 0 8 + a)) (τ1 := wi (wi (wi τ 41 14 0) 41 10 (τ.1 41 10 + a)) 47 7 (τ.1 47 7 + a)) (Nat.le_refl _) ?_ ?_ ?_ ⟨L, W, u, N, Q, ?_, h1.to rfl, hN⟩ ⟨fun a b h1 h2 => wi_o (by omega), fun _ _ => rfl⟩ ⟨fun a b h1 => o2 _ _ (by omega) (by omega), rfl⟩
      · unfold sp_L_hire sp_X5_hire
        rw [c1]
        simp only [Option.bind_some]
        rw [show rf 40 0 = 7 from rfl, ev_allPeople hn hR]
        simp only [Option.bind_some]
        rw [if_pos c, show rf 7 0 = 0 from rfl]
        simp only [lm, Option.bind_some]
        rw [wi_eq rfl rfl]
        rfl
      · unfold sp_X6_hire lp_X6_hire_32
        rw [c2]
        simp only [Option.bind_some, lm, rfm_11, c7]
        rw [if_neg (by decide), if_pos c, wi_eq rfl rfl, if_pos (by decide), if_pos h7, if_pos h7, if_pos h7, wi_eq rfl rfl, wi_o (by omega), wi_o (by omega), wi_o (by omega)]
        rw [show σ.1 0 8 = τ.1 47 7 from g]
      · rw [wi_o (by omega), wi_o (by omega), wi_eq rfl rfl]
      · obtain ⟨hS, hG, hK, hT, hQ, hP, hB⟩ := hR
        refine ⟨hS.to (hS.sh.to rfl) (fun k b k1 b1 => wi_o (by omega)) (fun b b1 b2 => wi_o (by omega)) (fun a b hab => ?_), ?_, hK.to (fun b b1 b2 => wi_o (by omega)) (fun b hb => o2 _ _ (by omega) (by omega)) (o2 _ _ (by omega) (by omega)), hT.to (fun b hb => wi_o (by omega)) (wi_o (by omega)) (fun b b1 b2 => o2 _ _ (by omega) (by omega)) (o2 _ _ (by omega) (by omega)), hQ.to (wi_o (by omega)) (fun p b hp hb => ?_) (wi_o (by omega)) (wi_o (by omega)) (fun b b1 b2 => o2 _ _ (by omega) (by omega)), ?_, hB.to hL (fun k k1 => wi_o (by omega)) (wi_o (by omega)) (wi_o (by omega))⟩
        · by_cases e : a = 41 ∧ b < 9
          · exact o2 _ _ (by omega) (by omega)
          · exact o2 _ _ (by omega) (by omega)
        · intro k hk
          obtain ⟨g1, g2, g3, g4⟩ := hG k hk
          rw [wi_o (σ := σ) (by omega), wi_o (σ := σ) (b := 9) (by omega), wi_o (σ := σ) (b := 10) (by omega), o2 47 k (by omega) (by omega), o2 47 (14 + k) (by omega) (by omega), o2 47 (21 + k) (by omega) (by omega)]
          refine ⟨g1, ?_, g3, g4⟩
          by_cases e : k = 0
          · subst e
            rw [wi_eq rfl rfl, wi_eq rfl rfl, show σ.1 0 8 = τ.1 47 7 from g]
          · rw [wi_o (by omega), o2 _ _ (by omega) (by omega)]
            exact g2
        · exact wi_o (Or.inl (by have := hS.sh.2.2.1 p hp; show σ.2 (38 + 0) p ≠ _; omega))
        · refine ⟨?_, fun k k1 k2 => by rw [wi_o (by omega)]; exact hP.2 k k1 k2⟩
          rw [wi_o (a := 41) (by omega), wi_eq (a := 41) rfl rfl, wi_eq rfl rfl, onT_cong (σ := σ) (m := 0) (wi_o (by omega)) (wi_o (by omega)), ← Int32.add_assoc, acc_x, ← hP.1]
          exact congrArg (· + a) (acc_cong (fun i i1 i2 => wi_o (by omega)))
    · refine op_bad (t := 2) (r := 0) h (by decide) ?_ ?_
      · unfold sp_L_hire sp_X5_hire
        rw [c1]
        simp only [Option.bind_some]
        rw [show rf 40 0 = 7 from rfl, ev_allPeople hn hR]
        simp only [Option.bind_some]
        rw [if_neg c]
        simp
      · unfold sp_X6_hire lp_X6_hire_32
        rw [c2]
        simp only [Option.bind_some, lm]
        rw [if_neg (by decide), if_neg c, wi_eq rfl rfl, if_neg (by decide)]
  · refine op_bad (t := 1) (r := 0) h (by decide) ?_ ?_
    · unfold sp_L_hire sp_X5_hire
      rw [c1]
      simp
    · unfold sp_X6_hire lp_X6_hire_32
      rw [c2]
      simp only [Option.bind_some, lm]
      rw [if_pos trivial, wi_eq rfl rfl, if_neg (by decide)]
theorem lp_endC (n : Nat) {σ τ : Mem} {L : Nat} {W : Nat → Nat} {u : Nat} (h : RS σ τ 0 L W u) : ∀ (d k j : Nat) (x : Int32), j + d = L → d < k → ∃ y, lp_X5_endangered_4 n 40 k σ x (nI (j + 1)) = some (y, σ) ∧ ∀ (n' k' : Nat) (τ' : Mem), d < k' → RS σ τ' 0 L W u → RG σ τ' 0 → lp_X6_endangered_9 n' 41 k' τ' x (nI (j + 1)) = some (y, τ') := by
  intro d
  have hL := h.lv
  have h4 : σ.1 7 4 = nI L := h.c4
  induction d with
  | zero =>
    intro k j x hj hk
    obtain ⟨k, rfl⟩ : ∃ z, k = z + 1 := ⟨k - 1, by omega⟩
    refine ⟨x, ?_, fun n' k' τ' hk' hS' hG' => ?_⟩
    · rw [lp_X5_endangered_4_s, show σ.1 (rf 40 0) 4 = nI L from h4, if_pos ((lt_nI (by omega) (by omega)).mpr (by omega))]
    · obtain ⟨k', rfl⟩ : ∃ z, k' = z + 1 := ⟨k' - 1, by omega⟩
      rw [lp_X6_endangered_9_s, hS'.t0, if_pos ((lt_nI (by omega) (by omega)).mpr (by omega))]
  | succ d ih =>
    intro k j x hj hk
    obtain ⟨k, rfl⟩ : ∃ z, k = z + 1 := ⟨k - 1, by omega⟩
    have ha := h.alarm n (k := j + 1) (by omega) (by omega)
    rw [Nat.mul_zero, Nat.zero_add, Nat.zero_add] at ha
    by_cases c : alC σ 0 (j + 1) = 0
    · obtain ⟨y, y1, y2⟩ := ih k (j + 1) x (by omega) (by omega)
      refine ⟨y, ?_, fun n' k' τ' hk' hS' hG' => ?_⟩
      · rw [lp_X5_endangered_4_s, show σ.1 (rf 40 0) 4 = nI L from h4, if_neg (by rw [lt_nI (by omega) (by omega)]; omega), pl_0 n h.sh (by omega)]
        simp only [Option.bind_some]
        rw [if_pos (ok_0 (by omega)), show rf 40 0 = 7 from rfl, ha]
        simp only [Option.bind_some, add1_nI]
        rw [if_pos c]
        exact y1
      · obtain ⟨k', rfl⟩ : ∃ z, k' = z + 1 := ⟨k' - 1, by omega⟩
        rw [lp_X6_endangered_9_s, hS'.t0, if_neg (by rw [lt_nI (by omega) (by omega)]; omega), hS'.alarmM hG' n' (by omega) (by omega)]
        simp only [Option.bind_some, add1_nI]
        rw [if_pos c, Int32.add_zero]
        exact y2 n' k' τ' (by omega) hS' hG'
    · obtain ⟨y, y1, y2⟩ := ih k (j + 1) (x + σ.1 (j + 1) 8) (by omega) (by omega)
      refine ⟨y, ?_, fun n' k' τ' hk' hS' hG' => ?_⟩
      · rw [lp_X5_endangered_4_s, show σ.1 (rf 40 0) 4 = nI L from h4, if_neg (by rw [lt_nI (by omega) (by omega)]; omega), pl_0 n h.sh (by omega)]
        simp only [Option.bind_some]
        rw [if_pos (ok_0 (by omega)), show rf 40 0 = 7 from rfl, ha]
        simp only [Option.bind_some, add1_nI]
        rw [if_neg c]
        exact y1
      · obtain ⟨k', rfl⟩ : ∃ z, k' = z + 1 := ⟨k' - 1, by omega⟩
        have g := (hG' (j + 1) (by omega)).2.1
        rw [Nat.mul_zero, Nat.zero_add] at g
        rw [lp_X6_endangered_9_s, hS'.t0, if_neg (by rw [lt_nI (by omega) (by omega)]; omega), hS'.alarmM hG' n' (by omega) (by omega)]
        simp only [Option.bind_some, add1_nI, ix7]
        rw [if_neg c, if_pos (inR_nI (by omega) (by omega))]
        simp only [nI_cl (show 7 + (j + 1) < 100000 by omega), rfm_11]
        rw [← g]
        exact y2 n' k' τ' (by omega) hS' hG'
theorem op_endangered {n n' B : Nat} (hn : 10 < n) (hn' : 10 < n') {σ τ : Mem} (h : RX B σ τ) : OpN B σ τ (sp_X5_endangered n σ 40) (sp_X6_endangered n' τ 41) := by
  obtain ⟨L, W, u, N, Q, hR, h1, hN⟩ := id h
  have hS := hR.1
  have hL := hS.lv
  obtain ⟨y, y1, y2⟩ := lp_endC n hS L n 0 0 (by omega) (by omega)
  refine op_num (v := y) h y1 ?_
  unfold sp_X6_endangered
  simp only [lm]
  exact y2 n' n' _ (by omega) (RX.to14 (B := B) hS 0) (hR.2.1.to14 0)
end
section
/-! PURE. airByPaths, isConsistent, the queue's and the trip's ops -/
theorem RX.fol {B : Nat} {σ σ' τ : Mem} {L : Nat} {W : Nat → Nat} {u : Nat} (h : RX B σ τ) (hf : FA σ σ' 0 L W u) : RX B σ' τ := h.to (Nat.le_refl _) (fun a b h1 h2 _ _ => hf.2.1 a b (by omega)) (fun a _ => by rw [hf.1]) (fun _ _ _ _ _ _ => rfl)
theorem FA.fc {σ σ' : Mem} {L : Nat} {W : Nat → Nat} {u : Nat} (hf : FA σ σ' 0 L W u) : FC σ σ' := ⟨fun a b h1 h2 => hf.2.1 a b (by omega), fun a _ => by rw [hf.1]⟩
theorem op_airByPaths {n n' B : Nat} (hn : 1010 < n) (hn' : 10 < n') {σ τ : Mem} (a : Int32) (h : RX B σ τ) : OpG B σ τ (sp_L_airByPaths n σ 40 a 49) (sp_X6_airByPaths n' τ 41 a) := by
  obtain ⟨L, W, u, N, Q, hR, h1, hN⟩ := id h
  have hS := hR.1
  have hL := hS.lv
  rcases lvl_or1 L hL a with ⟨k, hk1, hk, rfl⟩ | hb
  · have hS' := RX.to14 (B := B) hS 0
    obtain ⟨-, -, -, s4, -, s6, s7, -, s9, -⟩ := hS'
    obtain ⟨-, -, -, -, r5, -, -, r8, -⟩ := id hS
    obtain ⟨σ', f0, f1⟩ := ev_followAir hn hS.sh hS.c4 hL r5 s7 r8
    have f6 := f1.2.2 k hk1 hk
    rw [Nat.mul_zero, Nat.zero_add] at f6
    refine op_put (B := B) (v := nI (airN W L u k)) (σ1 := σ') (τ1 := wi τ 41 14 0) (Nat.le_refl _) ?_ ?_ (wi_eq rfl rfl) ((h.fol f1).thr 0) f1.fc (FM.thr _ _)
    · unfold sp_L_airByPaths sp_X5_airByPaths
      rw [ckL_ok n hS.c4 hL hk1 hk]
      simp only [Option.bind_some]
      rw [show sp_X1_followAir n σ (rf 40 0) = some ((), σ') from f0]
      simp only [Option.bind_some]
      rw [pl_0 n (hS.sh.to f1.1) (by omega)]
      simp only [Option.bind_some]
      rw [if_pos (ok_0 (by omega)), f6]
      rfl
    · unfold sp_X6_airByPaths sp_X6_airOf
      rw [lacks_ok n' hS.t0 hL hk1 hk]
      simp only [Option.bind_some]
      rw [if_pos trivial, ev_air hn' s4 hL s6 s7 s9 hk1 hk]
      rfl
  · refine op_bad (t := 1) (r := 0) h (by decide) ?_ ?_
    · unfold sp_L_airByPaths sp_X5_airByPaths
      rw [ckL_bad n hS.c4 hb]
      simp
    · unfold sp_X6_airByPaths sp_X6_airOf
      rw [lacks_bad n' hS.t0 hb]
      simp
theorem lp_consist (n : Nat) {σ : Mem} {L : Nat} (hs : ShM σ 0) (hL : L ≤ 6) (h4 : σ.1 7 4 = nI L) (ha : ∀ k, 1 ≤ k → k ≤ L → σ.1 k 5 = σ.1 k 6) {x : Int32} (hx : acc x (fun i => σ.1 (10 * 0 + i) 7) L = σ.1 7 9) : ∀ (d k j : Nat), j + d = L → d < k → lp_X5_isConsistent_17 n 40 k σ (acc x (fun i => σ.1 (10 * 0 + i) 7) j) (nI (j + 1)) = some (1, σ) := by
  intro d
  induction d with
  | zero =>
    intro k j hj hk
    obtain ⟨k, rfl⟩ : ∃ z, k = z + 1 := ⟨k - 1, by omega⟩
    rw [lp_X5_isConsistent_17_s, show σ.1 (rf 40 0) 4 = nI L from h4, if_pos ((lt_nI (by omega) (by omega)).mpr (by omega)), show j = L by omega, hx, show σ.1 (rf 40 0) 9 = σ.1 7 9 from rfl, if_pos rfl]
  | succ d ih =>
    intro k j hj hk
    obtain ⟨k, rfl⟩ : ∃ z, k = z + 1 := ⟨k - 1, by omega⟩
    rw [lp_X5_isConsistent_17_s, show σ.1 (rf 40 0) 4 = nI L from h4, if_neg (by rw [lt_nI (by omega) (by omega)]; omega), pl_0 n hs (by omega)]
    simp only [Option.bind_some]
    rw [if_pos (ok_0 (by omega)), if_pos (ha _ (by omega) (by omega)), add1_nI]
    have := ih k (j + 1) (by omega) (by omega)
    rw [acc, show 10 * 0 + (j + 1) = j + 1 by omega] at this
    exact this
theorem op_isConsistent {n n' B : Nat} (hn : 1010 < n) {σ τ : Mem} (h : RX B σ τ) : OpN B σ τ (sp_X5_isConsistent n σ 40) (sp_X6_isConsistent n' τ 41) := by
  obtain ⟨L, W, u, N, Q, hR, h1, hN⟩ := id h
  have hS := hR.1
  have hL := hS.lv
  obtain ⟨-, -, r3, -, r5, -, r7, r8, -⟩ := id hS
  obtain ⟨σ', f0, f1⟩ := ev_followAir hn hS.sh hS.c4 hL r5 r7 r8
  refine ⟨1, σ', wi τ 41 14 0, ?_, rfl, wi_eq rfl rfl, (h.fol f1).thr 0, f1.fc, FM.thr _ _⟩
  have hB := hR.2.2.2.2.2.2.1
  unfold sp_X5_isConsistent
  rw [show sp_X1_followAir n σ (rf 40 0) = some ((), σ') from f0]
  simp only [Option.bind_some]
  refine lp_consist n (L := L) (hS.sh.to f1.1) hL (by rw [f1.2.1 _ _ (by omega)]; exact r3) (fun k k1 k2 => ?_) ?_ L n 0 (by omega) (by omega)
  · have e6 := f1.2.2 k k1 k2
    have e5 := (hS.row k1 k2).2.2.2.2
    rw [Nat.mul_zero, Nat.zero_add] at e6 e5
    rw [e6, f1.2.1 _ _ (by omega), e5]
  · rw [show rf 40 0 = 7 from rfl, f1.2.1 7 10 (by omega), f1.2.1 7 9 (by omega)]
    exact (acc_cong (fun i i1 i2 => f1.2.1 _ _ (by omega))).trans hB
theorem op_cancel {n n' B : Nat} (hn : 10 < n) (hn' : 40 < n') {σ τ : Mem} (a : Int32) (h : RX B σ τ) : OpG B σ τ (sp_L_cancel n σ 40 a 49) (sp_X6_cancel n' τ 41 a) := by
  obtain ⟨L, W, u, N, Q, hR, h1, hN⟩ := id h
  have hS := hR.1
  have hQ := hR.2.2.2.2.1
  by_cases c : inq σ 0 Q a
  · obtain ⟨q, hq, e1, e2⟩ := place_yes (n := n') (by omega) hQ c
    have hQ8 := hQ.1
    have hR0 : RR σ (wi τ 41 14 0) 0 L W u N Q := hR.toM (fun a b _ _ h3 _ => wi_o (by omega))
    obtain ⟨σ', τ', f1, f2, f3, f4, f5, f6, f7⟩ := remove_sim hn hn' hR0 hq
    rw [e2] at f1
    obtain ⟨-, -, g3, g4, -⟩ := f3.2.2.2.2.1
    refine op_put (B := B) (v := nI (Q - 1)) (σ1 := σ') (τ1 := τ') (Nat.le_refl _) ?_ ?_ ?_ ⟨L, W, u, N, Q - 1, f3, ?_, hN⟩ (f4.fc (by omega)) ((FM.thr _ _).trans f5.fm)
    · unfold sp_L_cancel sp_X5_cancel
      rw [show sp_X4_holds n σ (rf (rf 40 0) 2) a = some (1, σ) from holds_yes hn hS.sh hQ c]
      simp only [Option.bind_some]
      rw [if_neg (by decide), show sp_X4_remove n σ (rf (rf 40 0) 2) a = some ((), σ') from f1]
      simp only [Option.bind_some]
      rw [show σ'.1 (rf (rf 40 0) 2) 1 = nI (Q - 1) from g3]
      rfl
    · unfold sp_X6_cancel
      rw [e1]
      simp only [Option.bind_some, lm]
      rw [if_neg (nI_m1 (by omega)), wi_eq rfl rfl, if_pos (by decide), f2]
      simp only [Option.bind_some, rfm_11, c60]
      rw [if_pos i60, g4]
    · rw [f5.1 _ _ (by omega), wi_eq rfl rfl]
    · unfold ShM at h1 ⊢
      rw [f4.2 _ (by omega), f4.2 _ (by omega)]
      exact h1
  · refine op_bad (t := 1) (r := 0) h (by decide) ?_ ?_
    · unfold sp_L_cancel sp_X5_cancel
      rw [show sp_X4_holds n σ (rf (rf 40 0) 2) a = some (0, σ) from holds_no hn hS.sh hQ c]
      simp
    · unfold sp_X6_cancel
      rw [place_no (n := n') (by omega) hQ c]
      simp only [Option.bind_some, lm]
      rw [if_pos trivial, wi_eq rfl rfl, if_neg (by decide)]
theorem op_waitingAt {n n' B : Nat} {σ τ : Mem} (a : Int32) (h : RX B σ τ) : OpG B σ τ (sp_L_waitingAt n σ 40 a 49) (sp_X6_waitingAt n' τ 41 a) := by
  obtain ⟨L, W, u, N, Q, hR, h1, hN⟩ := id h
  have hS := hR.1
  obtain ⟨q1, q2, q3, q4, q5, -⟩ := hR.2.2.2.2.1
  have q3' : σ.1 (rf (rf 40 0) 2) 1 = nI Q := q3
  by_cases c : ∃ p, p < Q ∧ a = nI p
  · obtain ⟨p, hp, rfl⟩ := c
    obtain ⟨⟨r, r1, r2, r3⟩, -⟩ := q5 p hp
    refine op_get (v := nI r) h ?_ ?_
    · unfold sp_L_waitingAt sp_X5_waitingAt
      rw [if_neg (not_neg (by omega)), q3', if_pos ((lt_nI (by omega) (by omega)).mpr hp), show sp_X4_numberAt n σ (rf (rf 40 0) 2) (nI p) = some (σ.1 (rw_ σ 0 p) 0, σ) from ev_numberAt n hS.sh (by omega), r2]
      rfl
    · unfold sp_X6_waitingAt sp_X6_in
      rw [if_pos i60]
      simp only [rfm_11, c60, q4, n1]
      rw [pk_sub (by omega), if_neg (not_neg (by omega)), if_neg (by rw [lt_nI (by omega) (by omega)]; omega)]
      simp only [Option.bind_some, lm, ix4]
      rw [if_neg (by decide), wi_eq rfl rfl, if_pos (by decide), if_pos (inR_nI (by omega) (by omega))]
      simp only [nI_cl (show 28 + 4 * p < 100000 by omega)]
      rw [wi_o (by omega), r3]
  · have hcl : sp_X5_waitingAt n σ 40 a = some (.inr "java/lang/IndexOutOfBoundsException", σ) := by
      unfold sp_X5_waitingAt
      by_cases c0 : a < 0
      · rw [if_pos c0]
      · rw [if_neg c0, q3', if_neg]
        intro c1
        obtain ⟨j, j1, j2⟩ := nI_of2 (nI_toInt (show Q < 2 ^ 31 by omega)) c0 (Int32.le_of_lt c1)
        subst j2
        rw [lt_nI (by omega) (by omega)] at c1
        exact c ⟨j, c1, rfl⟩
    have hmd : sp_X6_in n' τ a 0 (τ.1 47 60 - 1) = some (0, τ) := by
      unfold sp_X6_in
      by_cases c0 : a < 0
      · rw [if_pos c0]
      · rw [if_neg c0, q4, if_pos]
        by_cases hz : Q = 0
        · subst hz
          exact Int32.lt_of_lt_of_le (show nI 0 - 1 < 0 by decide) (Int32.not_lt.mp c0)
        · rw [n1, pk_sub (by omega)]
          by_cases c1 : a ≤ nI (Q - 1)
          · obtain ⟨j, j1, j2⟩ := nI_of2 (nI_toInt (show Q - 1 < 2 ^ 31 by omega)) c0 c1
            exact absurd ⟨j, by omega, j2⟩ c
          · exact Int32.not_le.mp c1
    refine op_bad (t := 1) (r := 0) h (by decide) ?_ ?_
    · unfold sp_L_waitingAt
      rw [hcl]
      simp
    · unfold sp_X6_waitingAt
      rw [if_pos i60]
      simp only [rfm_11, c60]
      rw [hmd]
      simp only [Option.bind_some, lm]
      rw [if_pos trivial, wi_eq rfl rfl, if_neg (by decide)]
theorem noTrip_on (n : Nat) {τ : Mem} (h : τ.1 47 63 ≠ 45) : sp_X6_noTrip n τ 41 = some (0, wi τ 41 14 0) := by
  unfold sp_X6_noTrip
  rw [if_pos i63]
  simp only [rfm_11, ix63, lm]
  rw [if_neg h, wi_eq rfl rfl, if_pos (by decide)]
theorem noTrip_off (n : Nat) {τ : Mem} (h : τ.1 47 63 = 45) : sp_X6_noTrip n τ 41 = some (1, wi τ 41 14 1) := by
  unfold sp_X6_noTrip
  rw [if_pos i63]
  simp only [rfm_11, ix63, lm]
  rw [if_pos h, wi_eq rfl rfl, if_neg (by decide)]
theorem ckT_on (n : Nat) {σ : Mem} (h : σ.1 8 0 ≠ 45) : sp_X5_checkTrip n σ 40 = some (.inl (), σ) := by
  unfold sp_X5_checkTrip
  rw [show rf (rf 40 0) 3 = 8 from rfl, ev_isOn, if_neg h]
  rfl
theorem ckT_off (n : Nat) {σ : Mem} (h : σ.1 8 0 = 45) : sp_X5_checkTrip n σ 40 = some (.inr "java/util/NoSuchElementException", σ) := by
  unfold sp_X5_checkTrip
  rw [show rf (rf 40 0) 3 = 8 from rfl, ev_isOn, if_pos h]
  rfl
theorem op_tripLevel {n n' B : Nat} {σ τ : Mem} (h : RX B σ τ) : OpG B σ τ (sp_L_tripLevel n σ 40 49) (sp_X6_tripLevel n' τ 41) := by
  obtain ⟨L, W, u, N, Q, hR, h1, hN⟩ := id h
  have hT := hR.2.2.2.1
  by_cases c : σ.1 8 0 = 45
  · refine op_bad (t := 1) (r := 0) h (by decide) ?_ ?_
    · unfold sp_L_tripLevel sp_X5_tripLevel
      rw [ckT_off n c]
      simp
    · unfold sp_X6_tripLevel
      rw [noTrip_off n' (hT.1.symm.trans c)]
      simp
  · obtain ⟨⟨k, -, -, k1, k2⟩, -⟩ := hT.2.2.2.2 c
    refine op_get (v := nI k) h ?_ ?_
    · unfold sp_L_tripLevel sp_X5_tripLevel
      rw [ckT_on n c]
      simp only [Option.bind_some]
      rw [show σ.1 (rf (rf 40 0) 3) 1 = nI k from k1]
      rfl
    · unfold sp_X6_tripLevel
      rw [noTrip_on n' (fun e => c (hT.1.trans e))]
      simp only [Option.bind_some, rfm_11, ix64]
      rw [if_pos trivial, if_pos i64, wi_o (by omega), k2]
theorem op_tripLoad {n n' B : Nat} {σ τ : Mem} (h : RX B σ τ) : OpG B σ τ (sp_L_tripLoad n σ 40 49) (sp_X6_tripLoad n' τ 41) := by
  obtain ⟨L, W, u, N, Q, hR, h1, hN⟩ := id h
  have hT := hR.2.2.2.1
  by_cases c : σ.1 8 0 = 45
  · refine op_bad (t := 1) (r := 0) h (by decide) ?_ ?_
    · unfold sp_L_tripLoad sp_X5_tripLoad
      rw [ckT_off n c]
      simp
    · unfold sp_X6_tripLoad
      rw [noTrip_off n' (hT.1.symm.trans c)]
      simp
  · obtain ⟨-, k1, -⟩ := hT.2.2.2.2 c
    refine op_get (v := τ.1 47 65) h ?_ ?_
    · unfold sp_L_tripLoad sp_X5_tripLoad
      rw [ckT_on n c]
      simp only [Option.bind_some]
      rw [show σ.1 (rf (rf 40 0) 3) 2 = τ.1 47 65 from k1]
      rfl
    · unfold sp_X6_tripLoad
      rw [noTrip_on n' (fun e => c (hT.1.trans e))]
      simp only [Option.bind_some, rfm_11, ix65]
      rw [if_pos trivial, if_pos i65, wi_o (by omega)]
theorem op_tripRest {n n' B : Nat} {σ τ : Mem} (h : RX B σ τ) : OpG B σ τ (sp_L_tripRest n σ 40 49) (sp_X6_tripRest n' τ 41) := by
  obtain ⟨L, W, u, N, Q, hR, h1, hN⟩ := id h
  have hT := hR.2.2.2.1
  by_cases c : σ.1 8 0 = 45
  · refine op_bad (t := 1) (r := 0) h (by decide) ?_ ?_
    · unfold sp_L_tripRest sp_X5_tripRest
      rw [ckT_off n c]
      simp
    · unfold sp_X6_tripRest
      rw [noTrip_off n' (hT.1.symm.trans c)]
      simp
  · obtain ⟨-, -, ⟨k, -, -, k1, k2⟩, -⟩ := hT.2.2.2.2 c
    refine op_get (v := nI k) h ?_ ?_
    · unfold sp_L_tripRest sp_X5_tripRest
      rw [ckT_on n c]
      simp only [Option.bind_some]
      rw [show σ.1 (rf (rf 40 0) 3) 3 = nI k from k1]
      rfl
    · unfold sp_X6_tripRest
      rw [noTrip_on n' (fun e => c (hT.1.trans e))]
      simp only [Option.bind_some, rfm_11, ix66]
      rw [if_pos trivial, if_pos i66, wi_o (by omega), k2]
/-! a request is made -/
theorem request_sim {n n' B : Nat} {σ τ : Mem} {k : Nat} {c x y : Int32} (hB : B < 80000) (h : RX B σ τ) (hc : c = 100 ∨ c = 117 ∨ c = 111) (hx : c = 111 → x = 20) (hx2 : c ≠ 111 → x = y) (hk : ∀ L, σ.1 7 4 = nI L → L ≤ 6 → 1 ≤ k ∧ k ≤ L) :
    (∃ Q, Q = 8 ∧ σ.1 9 1 = nI Q ∧ τ.1 47 60 = nI Q ∧ sp_X5_request n σ 40 c (nI k) x = some (.inr "java/lang/IllegalStateException", σ)) ∨
    ∃ Q r σ' τ', Q < 8 ∧ τ.1 47 60 = nI Q ∧ sp_X5_request n σ 40 c (nI k) x = some (.inl r, σ') ∧ sp_X6_waits n' (wi τ 41 14 0) 41 c (nI k) y = some (r, τ') ∧ τ'.1 41 14 = 0 ∧ RX (B + 1) σ' τ' ∧ FC σ σ' ∧ FM τ τ' := by
  obtain ⟨L, W, u, N, Q, hR, h1, hN⟩ := id h
  obtain ⟨hS, hG, hK, hT, hQ, hP, hB2⟩ := id hR
  have hL := hS.lv
  obtain ⟨q1, q2, q3, q4, q5, q6, q7, q8, q9, q10, q11⟩ := hQ
  obtain ⟨k1, k2⟩ := hk L hS.c4 hL
  have q3' : σ.1 (rf (rf 40 0) 2) 1 = nI Q := q3
  have q3'' : σ.1 9 1 = nI Q := q3
  by_cases c8 : Q = 8
  · refine Or.inl ⟨Q, c8, q3, q4, ?_⟩
    unfold sp_X5_request
    rw [q3', if_neg (show ¬ nI Q < (8 : Int32) by rw [n8, lt_nI (by omega) (by omega)]; omega)]
  · have hq8 : Q < 8 := by omega
    have hr := hS.sh.2.2.1 Q hq8
    have hn11 : σ.1 (rf 40 0) 11 = nI N := hK.2.2.2.1
    have hch : 0 ≤ c ∧ c ≤ 65535 := by rcases hc with e | e | e <;> subst e <;> decide
    have o2 : ∀ a b, (a ≠ 41 ∨ (b ≠ 14 ∧ b ≠ 9)) → (a ≠ 47 ∨ (b ≠ 60 ∧ (b < 28 + 4 * Q ∨ 31 + 4 * Q < b))) → (wi (wi (wi (wi (wi (wi (wi τ 41 14 0) 47 (28 + 4 * Q) (nI N)) 47 (29 + 4 * Q) c) 47 (30 + 4 * Q) (nI k)) 47 (31 + 4 * Q) y) 47 60 (nI (Q + 1))) 41 9 (nI (N + 1))).1 a b = τ.1 a b := fun a b g1 g2 => by
      rw [wi_o (by omega), wi_o (by omega), wi_o (by omega), wi_o (by omega), wi_o (by omega), wi_o (by omega), wi_o (by omega)]
    refine Or.inr ⟨Q, nI N, wi (wi (wi (wi (wi (wi σ (rw_ σ 0 Q) 0 (nI N)) (rw_ σ 0 Q) 1 c) (rw_ σ 0 Q) 2 (nI k)) (rw_ σ 0 Q) 3 x) 9 1 (nI (Q + 1))) 7 11 (nI (N + 1)), wi (wi (wi (wi (wi (wi (wi τ 41 14 0) 47 (28 + 4 * Q) (nI N)) 47 (29 + 4 * Q) c) 47 (30 + 4 * Q) (nI k)) 47 (31 + 4 * Q) y) 47 60 (nI (Q + 1))) 41 9 (nI (N + 1)), hq8, q4, ?_, ?_, ?_, ?_, ?_, ?_⟩
    · have hne7 : rw_ σ 0 Q ≠ 7 := rw_ne (j := 7) hS.sh hq8 (by omega)
      have hne9 : rw_ σ 0 Q ≠ 9 := rw_ne (j := 9) hS.sh hq8 (by omega)
      unfold sp_X5_request sp_X4_add sp_X2_set
      rw [q3', if_pos (show nI Q < (8 : Int32) by rw [n8, lt_nI (by omega) (by omega)]; omega), if_neg (not_neg (by omega)), if_neg (show ¬ (8 : Int32) ≤ nI Q by rw [n8, le_nI (by omega) (by omega)]; omega)]
      simp only [nI_cl (show Q < 100000 by omega)]
      rw [if_pos ⟨inR_nI (by omega) (by omega), ok_rq hS.m2 hr.1 hr.2⟩]
      simp only [lm]
      rw [if_pos hch]
      simp only [Option.bind_some]
      rw [show σ.2 (rf (rf (rf 40 0) 2) 0) Q = rw_ σ 0 Q from rfl, show rf (rf 40 0) 2 = 9 from rfl, show rf 40 0 = 7 from rfl, show σ.1 7 11 = nI N from hn11]
      rw [wi_o (a := 9) (Or.inl hne9.symm), wi_o (a := 9) (Or.inl hne9.symm), wi_o (a := 9) (Or.inl hne9.symm), wi_o (a := 9) (Or.inl hne9.symm), q3'', add1_nI]
      rw [wi_o (a := 7) (b := 11) (by omega), wi_o (a := 7) (Or.inl hne7.symm), wi_o (a := 7) (Or.inl hne7.symm), wi_o (a := 7) (Or.inl hne7.symm), wi_o (a := 7) (Or.inl hne7.symm), show σ.1 7 11 = nI N from hn11, add1_nI]
    · unfold sp_X6_waits
      simp only [lm, rfm_11, c60]
      rw [wi_o (a := 47) (b := 60) (by omega), q4, ix4_1, ix4_2, ix4_3, ix4, if_pos i60, if_pos (inR_nI (by omega) (by omega)), if_pos (inR_nI (by omega) (by omega)), if_pos (inR_nI (by omega) (by omega)), if_pos (inR_nI (by omega) (by omega)), if_pos i60, if_pos i60]
      simp only [nI_cl (show 28 + 4 * Q < 100000 by omega), nI_cl (show 29 + 4 * Q < 100000 by omega), nI_cl (show 30 + 4 * Q < 100000 by omega), nI_cl (show 31 + 4 * Q < 100000 by omega)]
      rw [wi_eq rfl rfl, wi_o (a := 41) (b := 9) (by omega), wi_o (a := 41) (b := 9) (by omega), wi_o (a := 41) (b := 9) (by omega), wi_o (a := 41) (b := 9) (by omega), wi_o (a := 41) (b := 9) (by omega), wi_o (a := 41) (b := 9) (by omega), hK.2.2.2.2.1]
      rw [wi_o (a := 47) (b := 60) (by omega), wi_o (a := 47) (b := 60) (by omega), wi_o (a := 47) (b := 60) (by omega), wi_o (a := 47) (b := 60) (by omega), wi_o (a := 47) (b := 60) (by omega), q4, add1_nI, add1_nI, nI_pred]
    · rw [wi_o (by omega), wi_o (by omega), wi_o (by omega), wi_o (by omega), wi_o (by omega), wi_o (by omega), wi_eq rfl rfl]
    · generalize hσ' : wi (wi (wi (wi (wi (wi σ (rw_ σ 0 Q) 0 (nI N)) (rw_ σ 0 Q) 1 c) (rw_ σ 0 Q) 2 (nI k)) (rw_ σ 0 Q) 3 x) 9 1 (nI (Q + 1))) 7 11 (nI (N + 1)) = σ'
      have o1 : ∀ a b, a ≠ rw_ σ 0 Q → (a ≠ 9 ∨ b ≠ 1) → (a ≠ 7 ∨ b ≠ 11) → σ'.1 a b = σ.1 a b := fun a b g1 g2 g3 => by
        rw [← hσ', wi_o (by omega), wi_o (by omega), wi_o (by omega), wi_o (by omega), wi_o (by omega), wi_o (by omega)]
      have e2 : σ'.2 = σ.2 := by rw [← hσ']; rfl
      have hne7 : rw_ σ 0 Q ≠ 7 := rw_ne (j := 7) hS.sh hq8 (by omega)
      have hne9 : rw_ σ 0 Q ≠ 9 := rw_ne (j := 9) hS.sh hq8 (by omega)
      have f0 : σ'.1 (rw_ σ 0 Q) 0 = nI N := by rw [← hσ', wi_o (by omega), wi_o (by omega), wi_o (by omega), wi_o (by omega), wi_o (by omega), wi_eq rfl rfl]
      have f1 : σ'.1 (rw_ σ 0 Q) 1 = c := by rw [← hσ', wi_o (by omega), wi_o (by omega), wi_o (by omega), wi_o (by omega), wi_eq rfl rfl]
      have f2 : σ'.1 (rw_ σ 0 Q) 2 = nI k := by rw [← hσ', wi_o (by omega), wi_o (by omega), wi_o (by omega), wi_eq rfl rfl]
      have f3 : σ'.1 (rw_ σ 0 Q) 3 = x := by rw [← hσ', wi_o (by omega), wi_o (by omega), wi_eq rfl rfl]
      have f9 : σ'.1 9 1 = nI (Q + 1) := by rw [← hσ', wi_o (by omega), wi_eq rfl rfl]
      have f7 : σ'.1 7 11 = nI (N + 1) := by rw [← hσ', wi_eq rfl rfl]
      have erw : ∀ p, rw_ σ' 0 p = rw_ σ 0 p := fun p => by unfold rw_; rw [e2]
      have er : ∀ p b, p < 8 → p ≠ Q → σ'.1 (rw_ σ' 0 p) b = σ.1 (rw_ σ 0 p) b := fun p b hp hpQ => by
        have h7 : rw_ σ 0 p ≠ 7 := rw_ne (j := 7) hS.sh hp (by omega)
        have h9 : rw_ σ 0 p ≠ 9 := rw_ne (j := 9) hS.sh hp (by omega)
        rw [erw, o1 _ _ (fun e => hpQ (hS.sh.2.2.2 p Q hp hq8 e)) (Or.inl h9) (Or.inl h7)]
      have hlow : ∀ j, j ≤ 9 → j ≠ rw_ σ 0 Q := fun j hj => (rw_ne (j := j) hS.sh hq8 hj |> fun e => by rw [Nat.mul_zero, Nat.zero_add] at e; exact e.symm)
      have t8 : ∀ b, σ'.1 (10 * 0 + 8) b = σ.1 (10 * 0 + 8) b := fun b => o1 _ _ (hlow 8 (by omega)) (by omega) (by omega)
      have t15 : σ'.1 (10 * 0 + 7) 15 = σ.1 (10 * 0 + 7) 15 := o1 _ _ (hlow 7 (by omega)) (by omega) (by omega)
      refine ⟨L, W, u, N + 1, Q + 1, ⟨hS.to (hS.sh.to e2) (fun k b k1 b1 => o1 _ _ (hlow _ (by omega)) (by omega) (by omega)) (fun b b1 b2 => o1 _ _ (hlow _ (by omega)) (by omega) (by omega)) (fun a b hab => o2 _ _ (by omega) (by omega)), hG.to (fun k b k1 b1 b2 => o1 _ _ (hlow _ (by omega)) (by omega) (by omega)) (fun b hb => o2 _ _ (by omega) (by omega)), ?_, hT.to (fun b hb => t8 b) t15 (fun b b1 b2 => o2 _ _ (by omega) (by omega)) (o2 _ _ (by omega) (by omega)), ?_, hP.to hL (fun k k1 => o1 _ _ (hlow _ (by omega)) (by omega) (by omega)) (onT_cong (t8 _) (t8 _)) (o2 _ _ (by omega) (by omega)), hB2.to hL (fun k k1 => o1 _ _ (hlow _ (by omega)) (by omega) (by omega)) (o1 _ _ (hlow _ (by omega)) (by omega) (by omega)) (o1 _ _ (hlow _ (by omega)) (by omega) (by omega))⟩, h1.to e2, by omega⟩
      · obtain ⟨w1, w2, w3, w4, w5, w6, w7, w8⟩ := hK
        have oc : ∀ b, b ≠ 11 → σ'.1 (10 * 0 + 7) b = σ.1 (10 * 0 + 7) b := fun b hb => o1 _ _ (hlow 7 (by omega)) (by omega) (by omega)
        refine ⟨?_, ?_, ?_, f7, wi_eq rfl rfl, ?_, ?_, ?_⟩
        · rw [oc _ (by omega), o2 _ _ (by omega) (by omega)]; exact w1
        · rw [oc _ (by omega), o2 _ _ (by omega) (by omega)]; exact w2
        · rw [oc _ (by omega), o2 _ _ (by omega) (by omega)]; exact w3
        · rw [oc _ (by omega), o2 _ _ (by omega) (by omega)]; exact w6
        · rw [oc _ (by omega), o2 _ _ (by omega) (by omega)]; exact w7
        · rw [oc _ (by omega), o2 _ _ (by omega) (by omega)]; exact w8
      · have nN : ∀ r, r < N → nI r ≠ nI N := fun r hr e => by rw [eq_nI (by omega) (by omega)] at e; omega
        have nO1 : ∀ z, nO N z → nO (N + 1) z := fun z hz => hz.imp id (fun ⟨r, r1, r2⟩ => ⟨r, by omega, r2⟩)
        have nON : ∀ z, nO N z → nI N ≠ z := fun z hz e => by
          rcases hz with e2 | ⟨r, r1, r2⟩
          · exact nI_m1 q2 (e.trans e2)
          · exact nN r r1 (r2.symm.trans e.symm)
        refine ⟨by omega, by omega, f9, ?_, fun p hp => ?_, fun p q hp hq hpq => ?_, by rw [t8]; exact nO1 _ q7, by rw [t15]; exact nO1 _ q8, fun p hp => ?_, by rw [t15, t8]; exact q10, fun p hp => ?_⟩
        · rw [wi_o (by omega), wi_eq rfl rfl]
        · by_cases e : p = Q
          · subst e
            rw [erw, f0, f1, f2, f3]
            refine ⟨⟨N, by omega, rfl, ?_⟩, ?_, ?_, ⟨k, k1, k2, rfl, ?_⟩, hx, fun hc1 => ?_⟩
            · rw [wi_o (by omega), wi_o (by omega), wi_o (by omega), wi_o (by omega), wi_o (by omega), wi_eq rfl rfl]
            · rw [wi_o (by omega), wi_o (by omega), wi_o (by omega), wi_o (by omega), wi_eq rfl rfl]
            · rcases hc with e | e | e
              · exact Or.inl e
              · exact Or.inr (Or.inl e)
              · exact Or.inr (Or.inr e)
            · rw [wi_o (by omega), wi_o (by omega), wi_o (by omega), wi_eq rfl rfl]
            · rw [wi_o (by omega), wi_o (by omega), wi_eq rfl rfl]
              exact hx2 hc1
          · obtain ⟨⟨r, r1, r2⟩, w⟩ := q5 p (by omega)
            rw [er p 0 (by omega) e, er p 1 (by omega) e, er p 2 (by omega) e, er p 3 (by omega) e, o2 47 (28 + 4 * p) (by omega) (by omega), o2 47 (29 + 4 * p) (by omega) (by omega), o2 47 (30 + 4 * p) (by omega) (by omega), o2 47 (31 + 4 * p) (by omega) (by omega)]
            exact ⟨⟨r, by omega, r2⟩, w⟩
        · by_cases e : p = Q
          · subst e
            obtain ⟨⟨r, r1, r2, -⟩, -⟩ := q5 q (by omega)
            rw [erw p, f0, er q 0 (by omega) (by omega), r2]
            exact (nN r r1).symm
          · by_cases e' : q = Q
            · subst e'
              obtain ⟨⟨r, r1, r2, -⟩, -⟩ := q5 p (by omega)
              rw [erw q, f0, er p 0 (by omega) e, r2]
              exact nN r r1
            · rw [er p 0 (by omega) e, er q 0 (by omega) e']
              exact q6 p q (by omega) (by omega) hpq
        · by_cases e : p = Q
          · subst e
            rw [erw, f0, t8, t15]
            exact ⟨nON _ q7, nON _ q8⟩
          · rw [er p 0 (by omega) e, t8, t15]
            exact q9 p (by omega)
        · by_cases e : p = Q
          · subst e
            rw [erw, f1]
            exact hch
          · rw [er p 1 hp e]
            exact q11 p hp
    · have hrq : rw_ σ 0 Q < 36 := by show σ.2 (38 + 0) Q < 36; omega
      refine ⟨fun a b g1 g2 => ?_, fun _ _ => rfl⟩
      rw [wi_o (by omega), wi_o (by omega), wi_o (by omega), wi_o (by omega), wi_o (by omega), wi_o (by omega)]
    · exact ⟨fun a b g1 => o2 _ _ (by omega) (by omega), rfl⟩
end
section
/-! PURE. requests; a blast -/
theorem t4_L {σ : Mem} {L L' : Nat} (h : σ.1 7 4 = nI L) (hL : L ≤ 6) (h' : σ.1 7 4 = nI L') (hL' : L' ≤ 6) : L' = L := (eq_nI (by omega) (by omega)).mp (h'.symm.trans h)
theorem op_callUp {n n' B : Nat} {σ τ : Mem} (hB : B < 80000) (a b : Int32) (h : RX B σ τ) : OpG (B + 1) σ τ (sp_L_callUp n σ 40 a b 49) (sp_X6_callUp n' τ 41 a b) := by
  obtain ⟨L, W, u, N, Q, hR, h1, hN⟩ := id h
  have hS := hR.1
  have hL := hS.lv
  have h4 : σ.1 7 4 = nI L := hS.c4
  have hup : RX (B + 1) σ τ := ⟨L, W, u, N, Q, hR, h1, by omega⟩
  rcases lvl_or1 L hL a with ⟨k, hk1, hk, rfl⟩ | hbad
  · rcases rng b 1 12 with ⟨-, -, c1, c2⟩ | ⟨c1, c2⟩
    · rcases request_sim (n := n) (n' := n') (k := k) (c := 117) (x := b) (y := b) hB h (Or.inr (Or.inl rfl)) (fun e => absurd e (by decide)) (fun _ => rfl) (fun L' e1 e2 => by rw [t4_L h4 hL e1 e2]; exact ⟨hk1, hk⟩) with ⟨Q', rfl, g1, g2, g3⟩ | ⟨Q', r, σ', τ', g0, g1, g2, g3, g4, g5, g6, g7⟩
      · refine op_bad (t := 3) (r := 0) hup (by decide) ?_ ?_
        · unfold sp_L_callUp sp_X5_callUp
          rw [ckL_ok n h4 hL hk1 hk]
          simp only [Option.bind_some]
          rw [c1]
          simp only [Option.bind_some]
          rw [g3]
          simp
        · unfold sp_X6_callUp lp_X6_callUp_44
          rw [isL_ok n' hS.t0 hL hk1 hk]
          simp only [Option.bind_some]
          rw [if_neg (by decide), c2]
          simp only [Option.bind_some, rfm_11, c60, lm]
          rw [if_neg (by decide), if_pos i60, g2, if_pos (show nI 8 = (8 : Int32) from rfl), wi_eq rfl rfl, if_neg (by decide)]
      · refine op_put (v := r) (Nat.le_refl _) ?_ ?_ g4 g5 g6 g7
        · unfold sp_L_callUp sp_X5_callUp
          rw [ckL_ok n h4 hL hk1 hk]
          simp only [Option.bind_some]
          rw [c1]
          simp only [Option.bind_some]
          rw [g2]
          rfl
        · unfold sp_X6_callUp lp_X6_callUp_44
          rw [isL_ok n' hS.t0 hL hk1 hk]
          simp only [Option.bind_some]
          rw [if_neg (by decide), c2]
          simp only [Option.bind_some, rfm_11, c60, lm]
          rw [if_neg (by decide), if_pos i60, g1, if_neg (show ¬ nI Q' = (8 : Int32) by rw [n8, eq_nI (by omega) (by omega)]; omega), wi_eq rfl rfl, if_pos (by decide), g3]
          rfl
    · refine op_bad (t := 2) (r := 0) hup (by decide) ?_ ?_
      · unfold sp_L_callUp sp_X5_callUp
        rw [ckL_ok n h4 hL hk1 hk]
        simp only [Option.bind_some]
        rw [c1]
        simp
      · unfold sp_X6_callUp lp_X6_callUp_44
        rw [isL_ok n' hS.t0 hL hk1 hk]
        simp only [Option.bind_some]
        rw [if_neg (by decide), c2]
        simp only [Option.bind_some, lm]
        rw [if_pos trivial, wi_eq rfl rfl, if_neg (by decide)]
  · refine op_bad (t := 1) (r := 0) hup (by decide) ?_ ?_
    · unfold sp_L_callUp sp_X5_callUp
      rw [ckL_bad n h4 hbad]
      simp
    · unfold sp_X6_callUp lp_X6_callUp_44
      rw [isL_bad n' hS.t0 hbad]
      simp only [Option.bind_some, lm]
      rw [if_pos trivial, wi_eq rfl rfl, if_neg (by decide)]
theorem op_hoistOre {n n' B : Nat} {σ τ : Mem} (hB : B < 80000) (a : Int32) (h : RX B σ τ) : OpG (B + 1) σ τ (sp_L_hoistOre n σ 40 a 49) (sp_X6_hoistOre n' τ 41 a) := by
  obtain ⟨L, W, u, N, Q, hR, h1, hN⟩ := id h
  have hS := hR.1
  have hL := hS.lv
  have h4 : σ.1 7 4 = nI L := hS.c4
  have hup : RX (B + 1) σ τ := ⟨L, W, u, N, Q, hR, h1, by omega⟩
  rcases lvl_or1 L hL a with ⟨k, hk1, hk, rfl⟩ | hbad
  · rcases request_sim (n := n) (n' := n') (k := k) (c := 111) (x := 20) (y := 0) hB h (Or.inr (Or.inr rfl)) (fun _ => rfl) (fun e => absurd rfl e) (fun L' e1 e2 => by rw [t4_L h4 hL e1 e2]; exact ⟨hk1, hk⟩) with ⟨Q', rfl, g1, g2, g3⟩ | ⟨Q', r, σ', τ', g0, g1, g2, g3, g4, g5, g6, g7⟩
    · refine op_bad (t := 2) (r := 0) hup (by decide) ?_ ?_
      · unfold sp_L_hoistOre sp_X5_hoistOre
        rw [ckL_ok n h4 hL hk1 hk]
        simp only [Option.bind_some]
        rw [g3]
        simp
      · unfold sp_X6_hoistOre
        rw [isL_ok n' hS.t0 hL hk1 hk]
        simp only [Option.bind_some, rfm_11, c60, lm]
        rw [if_neg (by decide), if_pos i60, g2, if_pos (show nI 8 = (8 : Int32) from rfl), wi_eq rfl rfl, if_neg (by decide)]
    · refine op_put (v := r) (Nat.le_refl _) ?_ ?_ g4 g5 g6 g7
      · unfold sp_L_hoistOre sp_X5_hoistOre
        rw [ckL_ok n h4 hL hk1 hk]
        simp only [Option.bind_some]
        rw [g2]
        rfl
      · unfold sp_X6_hoistOre
        rw [isL_ok n' hS.t0 hL hk1 hk]
        simp only [Option.bind_some, rfm_11, c60, lm]
        rw [if_neg (by decide), if_pos i60, g1, if_neg (show ¬ nI Q' = (8 : Int32) by rw [n8, eq_nI (by omega) (by omega)]; omega), wi_eq rfl rfl, if_pos (by decide), g3]
        rfl
  · refine op_bad (t := 1) (r := 0) hup (by decide) ?_ ?_
    · unfold sp_L_hoistOre sp_X5_hoistOre
      rw [ckL_bad n h4 hbad]
      simp
    · unfold sp_X6_hoistOre
      rw [isL_bad n' hS.t0 hbad]
      simp only [Option.bind_some, lm]
      rw [if_pos trivial, wi_eq rfl rfl, if_neg (by decide)]
theorem op_sendDown {n n' B : Nat} {σ τ : Mem} (hB : B < 80000) (a b : Int32) (h : RX B σ τ) : OpG (B + 1) σ τ (sp_L_sendDown n σ 40 a b 49) (sp_X6_sendDown n' τ 41 a b) := by
  obtain ⟨L, W, u, N, Q, hR, h1, hN⟩ := id h
  have hS := hR.1
  have hL := hS.lv
  have h4 : σ.1 7 4 = nI L := hS.c4
  have hup : RX (B + 1) σ τ := ⟨L, W, u, N, Q, hR, h1, by omega⟩
  rcases lvl_or1 L hL a with ⟨k, hk1, hk, rfl⟩ | hbad
  · rcases rng b 1 12 with ⟨-, -, c1, c2⟩ | ⟨c1, c2⟩
    · have ha := hS.alarm n hk1 hk
      rw [Nat.mul_zero, Nat.zero_add, Nat.zero_add] at ha
      have hd := ev_isShut n σ 0 k
      rw [Nat.mul_zero, Nat.zero_add, Nat.zero_add] at hd
      have haM := hS.alarmM hR.2.1 n' hk1 hk
      have hdM := ev_closedM n' (k := k) hR.2.1 hR.2.2.1 (by omega)
      by_cases ca : alC σ 0 k = 0
      · by_cases cd : cdC σ 0 k = 0
        · rcases request_sim (n := n) (n' := n') (k := k) (c := 100) (x := b) (y := b) hB h (Or.inl rfl) (fun e => absurd e (by decide)) (fun _ => rfl) (fun L' e1 e2 => by rw [t4_L h4 hL e1 e2]; exact ⟨hk1, hk⟩) with ⟨Q', rfl, g1, g2, g3⟩ | ⟨Q', r, σ', τ', g0, g1, g2, g3, g4, g5, g6, g7⟩
          · refine op_bad (t := 4) (r := 0) hup (by decide) ?_ ?_
            · unfold sp_L_sendDown sp_X5_sendDown
              rw [ckL_ok n h4 hL hk1 hk]
              simp only [Option.bind_some]
              rw [c1]
              simp only [Option.bind_some]
              rw [pl_0 n hS.sh (by omega)]
              simp only [Option.bind_some]
              rw [if_pos (ok_0 (by omega)), show rf 40 0 = 7 from rfl, ha]
              simp only [Option.bind_some]
              rw [if_pos ca, hd]
              simp only [Option.bind_some]
              rw [if_pos cd, g3]
              simp
            · unfold sp_X6_sendDown lp_X6_sendDown_64
              rw [isL_ok n' hS.t0 hL hk1 hk]
              simp only [Option.bind_some]
              rw [if_neg (by decide), c2]
              simp only [Option.bind_some]
              rw [if_neg (by decide), haM]
              simp only [Option.bind_some]
              rw [if_pos ca, hdM]
              simp only [Option.bind_some, rfm_11, c60, lm]
              rw [if_pos cd, if_pos i60, g2, if_pos (show nI 8 = (8 : Int32) from rfl), wi_eq rfl rfl, if_neg (by decide)]
          · refine op_put (v := r) (Nat.le_refl _) ?_ ?_ g4 g5 g6 g7
            · unfold sp_L_sendDown sp_X5_sendDown
              rw [ckL_ok n h4 hL hk1 hk]
              simp only [Option.bind_some]
              rw [c1]
              simp only [Option.bind_some]
              rw [pl_0 n hS.sh (by omega)]
              simp only [Option.bind_some]
              rw [if_pos (ok_0 (by omega)), show rf 40 0 = 7 from rfl, ha]
              simp only [Option.bind_some]
              rw [if_pos ca, hd]
              simp only [Option.bind_some]
              rw [if_pos cd, g2]
              rfl
            · unfold sp_X6_sendDown lp_X6_sendDown_64
              rw [isL_ok n' hS.t0 hL hk1 hk]
              simp only [Option.bind_some]
              rw [if_neg (by decide), c2]
              simp only [Option.bind_some]
              rw [if_neg (by decide), haM]
              simp only [Option.bind_some]
              rw [if_pos ca, hdM]
              simp only [Option.bind_some, rfm_11, c60, lm]
              rw [if_pos cd, if_pos i60, g1, if_neg (show ¬ nI Q' = (8 : Int32) by rw [n8, eq_nI (by omega) (by omega)]; omega), wi_eq rfl rfl, if_pos (by decide), g3]
              rfl
        · refine op_bad (t := 3) (r := 0) hup (by decide) ?_ ?_
          · unfold sp_L_sendDown sp_X5_sendDown
            rw [ckL_ok n h4 hL hk1 hk]
            simp only [Option.bind_some]
            rw [c1]
            simp only [Option.bind_some]
            rw [pl_0 n hS.sh (by omega)]
            simp only [Option.bind_some]
            rw [if_pos (ok_0 (by omega)), show rf 40 0 = 7 from rfl, ha]
            simp only [Option.bind_some]
            rw [if_pos ca, hd]
            simp only [Option.bind_some]
            rw [if_neg cd]
            simp
          · unfold sp_X6_sendDown lp_X6_sendDown_64
            rw [isL_ok n' hS.t0 hL hk1 hk]
            simp only [Option.bind_some]
            rw [if_neg (by decide), c2]
            simp only [Option.bind_some]
            rw [if_neg (by decide), haM]
            simp only [Option.bind_some]
            rw [if_pos ca, hdM]
            simp only [Option.bind_some, lm]
            rw [if_neg cd, wi_eq rfl rfl, if_neg (by decide)]
      · refine op_bad (t := 3) (r := 0) hup (by decide) ?_ ?_
        · unfold sp_L_sendDown sp_X5_sendDown
          rw [ckL_ok n h4 hL hk1 hk]
          simp only [Option.bind_some]
          rw [c1]
          simp only [Option.bind_some]
          rw [pl_0 n hS.sh (by omega)]
          simp only [Option.bind_some]
          rw [if_pos (ok_0 (by omega)), show rf 40 0 = 7 from rfl, ha]
          simp only [Option.bind_some]
          rw [if_neg ca]
          simp
        · unfold sp_X6_sendDown lp_X6_sendDown_64
          rw [isL_ok n' hS.t0 hL hk1 hk]
          simp only [Option.bind_some]
          rw [if_neg (by decide), c2]
          simp only [Option.bind_some]
          rw [if_neg (by decide), haM]
          simp only [Option.bind_some, lm]
          rw [if_neg ca, wi_eq rfl rfl, if_neg (by decide)]
    · refine op_bad (t := 2) (r := 0) hup (by decide) ?_ ?_
      · unfold sp_L_sendDown sp_X5_sendDown
        rw [ckL_ok n h4 hL hk1 hk]
        simp only [Option.bind_some]
        rw [c1]
        simp
      · unfold sp_X6_sendDown lp_X6_sendDown_64
        rw [isL_ok n' hS.t0 hL hk1 hk]
        simp only [Option.bind_some]
        rw [if_neg (by decide), c2]
        simp only [Option.bind_some, lm]
        rw [if_pos trivial, wi_eq rfl rfl, if_neg (by decide)]
  · refine op_bad (t := 1) (r := 0) hup (by decide) ?_ ?_
    · unfold sp_L_sendDown sp_X5_sendDown
      rw [ckL_bad n h4 hbad]
      simp
    · unfold sp_X6_sendDown lp_X6_sendDown_64
      rw [isL_bad n' hS.t0 hbad]
      simp only [Option.bind_some, lm]
      rw [if_pos trivial, wi_eq rfl rfl, if_neg (by decide)]
end
section
/-! PURE. pass, waitFor, minutesToAlarm -/
theorem RR.to0 {σ σ' τ : Mem} {L : Nat} {W : Nat → Nat} {u N Q : Nat} (h : RR σ τ 0 L W u N Q) (e : ∀ a b, a < 10 ∨ (20 ≤ a ∧ a ≤ 27) → σ'.1 a b = σ.1 a b) (e2 : ∀ a, a ≠ 39 → σ'.2 a = σ.2 a) : RR σ' τ 0 L W u N Q := by
  obtain ⟨hS, hG, hK, hT, hQ, hP, hB⟩ := h
  have hL := hS.lv
  have hs : ShM σ' 0 := by
    have hm := hS.sh
    unfold ShM at hm ⊢
    rw [e2 _ (by omega), e2 _ (by omega)]
    exact hm
  have er : ∀ p b, p < 8 → σ'.1 (rw_ σ' 0 p) b = σ.1 (rw_ σ 0 p) b := fun p b hp => by
    have hh := hS.sh.2.2.1 p hp
    show σ'.1 (σ'.2 (38 + 0) p) b = _
    rw [e2 _ (by omega)]
    exact e _ _ (by omega)
  exact ⟨hS.to hs (fun k b k1 b1 => e _ _ (by omega)) (fun b b1 b2 => e _ _ (by omega)) (fun _ _ _ => rfl), hG.to (fun k b k1 b1 b2 => e _ _ (by omega)) (fun _ _ => rfl), hK.to (fun b b1 b2 => e _ _ (by omega)) (fun _ _ => rfl) rfl, hT.to (fun b b1 => e _ _ (by omega)) (e _ _ (by omega)) (fun _ _ _ => rfl) rfl, hQ.to (e _ _ (by omega)) (fun p b hp hb => er p b hp) (e _ _ (by omega)) (e _ _ (by omega)) (fun _ _ _ => rfl), hP.to hL (fun k k1 => e _ _ (by omega)) (onT_cong (e _ _ (by omega)) (e _ _ (by omega))) rfl, hB.to hL (fun k k1 => e _ _ (by omega)) (e _ _ (by omega)) (e _ _ (by omega))⟩
theorem RX.trial {B : Nat} {σ σ' τ τ' : Mem} (h : RX B σ τ) (hf : FrC σ σ' 1) (hs : ShM σ' 1) (e3 : ∀ a b, 41 ≤ a → a ≤ 47 → (a ≠ 41 ∨ b ≠ 14) → (a ≠ 47 ∨ b < 73) → τ'.1 a b = τ.1 a b) : RX B σ' τ' := by
  obtain ⟨L, W, u, N, Q, hR, h1, hN⟩ := h
  exact ⟨L, W, u, N, Q, (hR.to0 (fun a b hab => hf.1 a b (by omega) (by omega)) (fun a ha => hf.2 a (by omega))).toM e3, hs, hN⟩
theorem pass_sim {n n' : Nat} (hn : 20 < n) (hn' : 40 < n') {L : Nat} {W : Nat → Nat} {u N M : Nat} {a1 : Int32} (hM : M ≤ 60) : ∀ (d k k' i Q : Nat) (σ τ : Mem), i + d = M → d < k → d < k' → τ.1 41 14 = 0 → RR σ τ 0 L W u N Q →
    ∃ σ' τ' Q', lp_X5_pass_34 n 40 a1 k σ (nI M) (nI i) = some (.inl (τ'.1 47 61), σ') ∧ lp_X6_pass_40 n' 41 a1 k' τ (nI M) (nI i) = some (τ'.1 47 61, τ') ∧ RR σ' τ' 0 L W u N Q' ∧ FrC σ σ' 0 ∧ FrM τ τ' := by
  intro d
  induction d with
  | zero =>
    intro k k' i Q σ τ hi hk hk' ht h
    obtain ⟨k, rfl⟩ : ∃ z, k = z + 1 := ⟨k - 1, by omega⟩
    obtain ⟨k', rfl⟩ : ∃ z, k' = z + 1 := ⟨k' - 1, by omega⟩
    refine ⟨σ, τ, Q, ?_, ?_, h, FrC.rfl' _ _, FrM.rfl' _⟩
    · rw [lp_X5_pass_34_s, if_pos ((le_nI (by omega) (by omega)).mpr (by omega)), show σ.1 (rf 40 0) 8 = τ.1 47 61 from h.2.2.1.1]
    · rw [lp_X6_pass_40_s, if_pos ((le_nI (by omega) (by omega)).mpr (by omega)), ht, if_pos (by decide), if_pos i61]
      simp only [rfm_11, c61]
  | succ d ih =>
    intro k k' i Q σ τ hi hk hk' ht h
    obtain ⟨k, rfl⟩ : ∃ z, k = z + 1 := ⟨k - 1, by omega⟩
    obtain ⟨k', rfl⟩ : ∃ z, k' = z + 1 := ⟨k' - 1, by omega⟩
    obtain ⟨σ1, τ1, Q1, a2, a3, a4, a5, a6, -⟩ := minute_sim (n := n) (n' := n') (by omega) (by omega) h
    obtain ⟨σ', τ', Q', b1, b2, b3, b4, b5⟩ := ih k k' (i + 1) Q1 σ1 τ1 (by omega) (by omega) (by omega) (by rw [a6.1 _ _ (by omega)]; exact ht) a4
    refine ⟨σ', τ', Q', ?_, ?_, b3, a5.trans b4, a6.trans b5⟩
    · rw [lp_X5_pass_34_s, if_neg (by rw [le_nI (by omega) (by omega)]; omega), show sp_X1_passMinute n σ (rf 40 0) = some ((), σ1) from a2]
      simp only [Option.bind_some, add1_nI]
      exact b1
    · rw [lp_X6_pass_40_s, if_neg (by rw [le_nI (by omega) (by omega)]; omega), if_pos ht, a3]
      simp only [Option.bind_some, add1_nI]
      exact b2
theorem pass_bad (n k : Nat) {τ : Mem} {a t : Int32} (ht : t = 1 ∨ t = 2) (h : τ.1 41 14 = t) : lp_X6_pass_40 n 41 a (k + 1) τ a 0 = some (0, τ) := by
  have h1 : ¬ t ≤ 0 := by rcases ht with e | e <;> subst e <;> decide
  have h2 : ¬ t = 0 := by rcases ht with e | e <;> subst e <;> decide
  rw [lp_X6_pass_40_s, h]
  by_cases c : a ≤ 0
  · rw [if_pos c, if_neg h1]
  · rw [if_neg c, if_neg h2, if_neg h1]
theorem op_pass {n n' B : Nat} (hn : 70 < n) (hn' : 70 < n') {σ τ : Mem} (a : Int32) (h : RX B σ τ) : OpG B σ τ (sp_L_pass n σ 40 a 49) (sp_X6_pass n' τ 41 a) := by
  obtain ⟨L, W, u, N, Q, hR, h1, hN⟩ := id h
  have hS := hR.1
  obtain ⟨k', rfl⟩ : ∃ z, n' = z + 1 := ⟨n' - 1, by omega⟩
  rcases rng a 1 60 with ⟨g1, g2, c1, c2⟩ | ⟨c1, c2⟩
  · obtain ⟨M, m1, m2, rfl⟩ := rng_nI (lo := 1) (hi := 60) g1 g2 (by omega) (by omega)
    have e8 : σ.1 (rf 40 0) 8 = τ.1 47 61 := hR.2.2.1.1
    by_cases c : τ.1 47 61 + nI M ≤ 5000
    · obtain ⟨σ', τ', Q', b1, b2, b3, b4, b5⟩ := pass_sim (n := n) (n' := k' + 1) (a1 := nI M) (M := M) (by omega) (by omega) m2 M n (k' + 1) 0 Q σ (wi τ 41 14 0) (by omega) (by omega) (by omega) (wi_eq rfl rfl) (hR.toM (fun a b _ _ h3 _ => wi_o (by omega)))
      refine op_put (B := B) (v := τ'.1 47 61) (Nat.le_refl _) ?_ ?_ ?_ ⟨L, W, u, N, Q', b3, ?_, hN⟩ (b4.fc (by omega)) ((FM.thr _ _).trans b5.fm)
      · unfold sp_L_pass sp_X5_pass
        rw [c1]
        simp only [Option.bind_some]
        rw [e8, if_pos c, show lp_X5_pass_34 n 40 (nI M) n σ (nI M) 0 = some (.inl (τ'.1 47 61), σ') from b1]
        rfl
      · unfold sp_X6_pass
        rw [c2]
        simp only [Option.bind_some, rfm_11, c61, lm]
        rw [if_neg (by decide), if_pos i61, if_pos c]
        exact b2
      · rw [b5.1 _ _ (by omega), wi_eq rfl rfl]
      · unfold ShM at h1 ⊢
        rw [b4.2 _ (by omega), b4.2 _ (by omega)]
        exact h1
    · refine op_bad (t := 2) (r := 0) h (by decide) ?_ ?_
      · unfold sp_L_pass sp_X5_pass
        rw [c1]
        simp only [Option.bind_some]
        rw [e8, if_neg c]
        simp
      · unfold sp_X6_pass
        rw [c2]
        simp only [Option.bind_some, rfm_11, c61, lm]
        rw [if_neg (by decide), if_pos i61, if_neg c]
        exact pass_bad _ _ (Or.inr rfl) (wi_eq rfl rfl)
  · refine op_bad (t := 1) (r := 0) h (by decide) ?_ ?_
    · unfold sp_L_pass sp_X5_pass
      rw [c1]
      simp
    · unfold sp_X6_pass
      rw [c2]
      simp only [Option.bind_some, lm]
      rw [if_pos trivial]
      exact pass_bad _ _ (Or.inl rfl) (wi_eq rfl rfl)
/-- behind keeps, changes of 47, goesBack: as before -/
theorem back_M {n : Nat} (hn : 80 < n) {τ τ1 τ2 : Mem} (k2 : τ1.2 = τ.2) (k3 : ∀ a b, (a ≠ 48 ∨ 73 ≤ b) → τ1.1 a b = τ.1 a b) (k4 : ∀ b, b < 73 → τ1.1 48 b = τ.1 47 b) (hf : FrM τ1 τ2) :
    ∃ τ', sp_X6_goesBack n τ2 41 = some ((), τ') ∧ τ'.2 = τ.2 ∧ (∀ a b, a < 41 ∨ 48 < a → τ'.1 a b = τ.1 a b) ∧ ∀ a b, 41 ≤ a → a ≤ 47 → (a ≠ 47 ∨ b < 73) → τ'.1 a b = τ.1 a b := by
  obtain ⟨τ', b1, b2, b3, b4⟩ := ev_goesBack hn τ2
  refine ⟨τ', b1, b2.trans (hf.2.trans k2), fun a b h => ?_, fun a b h1 h2 h3 => ?_⟩
  · rw [b3 _ _ (by omega), hf.1 _ _ (by omega), k3 _ _ (by omega)]
  · by_cases e : a = 47
    · subst e
      rw [b4 _ (by omega), hf.1 _ _ (by omega), k4 _ (by omega)]
    · rw [b3 _ _ (by omega), hf.1 _ _ e, k3 _ _ (by omega)]
theorem op_waitFor {n n' B : Nat} (hn : 510 < n) (hn' : 510 < n') {σ τ : Mem} (a : Int32) (h : RX B σ τ) : OpG B σ τ (sp_L_waitFor n σ 40 a 49) (sp_X6_waitFor n' τ 41 a) := by
  obtain ⟨L, W, u, N, Q, hR, h1, hN⟩ := id h
  have hS := hR.1
  have hT := hR.2.2.2.1
  have hQ := hR.2.2.2.2.1
  have e63 : τ.1 47 63 = σ.1 8 0 := hT.1.symm
  have e67 : τ.1 47 67 = σ.1 8 4 := hT.2.1.symm
  -- the model's first look: on whose side does it go on
  have hm : sp_X6_waitFor n' τ 41 a = lp_X6_waitFor_33 n' 41 a τ a (if σ.1 8 0 ≠ 45 ∧ a ≠ -1 ∧ σ.1 8 4 = a then 1 else 0) := by
    unfold sp_X6_waitFor
    rw [if_pos i63]
    simp only [rfm_11, ix63, ix67]
    rw [e63, e67, if_pos i67]
    by_cases c1 : σ.1 8 0 = 45
    · rw [if_pos c1, if_neg (fun q => q.1 c1)]
    · rw [if_neg c1]
      by_cases c2 : a = -1
      · rw [if_pos c2, if_neg (fun q => q.2.1 c2)]
      · rw [if_neg c2]
        by_cases c3 : σ.1 8 4 = a
        · rw [if_pos c3, if_pos ⟨c1, c2, c3⟩]
        · rw [if_neg c3, if_neg (fun q => c3 q.2.2)]
  by_cases hp : inq σ 0 Q a ∨ trp σ 0 a
  · -- pending
    have hr : ∃ r, r < 90000 ∧ a = nI r := by
      have hN9 := hQ.2.1
      rcases hp with ⟨p, hp, ep⟩ | ⟨t1, t2, t3⟩
      · obtain ⟨⟨r, r1, r2, -⟩, -⟩ := hQ.2.2.2.2.1 p hp
        exact ⟨r, by omega, ep.symm.trans r2⟩
      · rcases hQ.2.2.2.2.2.2.1 with e | ⟨r, r1, r2⟩
        · exact absurd e t2
        · exact ⟨r, by omega, t3.symm.trans r2⟩
    obtain ⟨r, hr9, rfl⟩ := hr
    obtain ⟨σ1, c0, c1, c2, c3⟩ := copy_sim (n := n) (by omega) hR h1
    obtain ⟨τ1, k1, k2, k3, k4⟩ := ev_keeps (n := n') (by omega) τ
    have hR1 : RR σ1 τ1 1 L W u N Q := c1.toM (fun a b _ _ _ _ => k3 _ _ (by omega))
    -- still pending in the copy
    have hp1 : inq σ1 1 Q (nI r) ∨ σ1.1 18 4 = nI r := by
      have q0 := hQ.2.2.2.2.1
      have q1 := c1.2.2.2.2.1.2.2.2.2.1
      rcases hp with ⟨p, hp, ep⟩ | ⟨t1, t2, t3⟩
      · obtain ⟨⟨x, -, x1, x2⟩, -⟩ := q0 p hp
        obtain ⟨⟨y, -, y1, y2⟩, -⟩ := q1 p hp
        exact Or.inl ⟨p, hp, by rw [y1, ← y2, x2, ← x1]; exact ep⟩
      · exact Or.inr (c1.2.2.2.1.2.1.trans (hT.2.1.symm.trans t3))
    -- the model goes to its loop
    obtain ⟨l2, hm2⟩ : ∃ l2, sp_X6_waitFor n' τ 41 (nI r) = lp_X6_waitFor_65 n' 41 (nI r) n' τ1 (nI r) l2 (nI 0) 0 1 := by
      rw [hm]
      by_cases ct : σ.1 8 0 ≠ 45 ∧ nI r ≠ -1 ∧ σ.1 8 4 = nI r
      · refine ⟨1, ?_⟩
        rw [if_pos ct]
        unfold lp_X6_waitFor_33
        rw [if_neg (by decide), k1]
        rfl
      · refine ⟨0, ?_⟩
        have hi : inq σ 0 Q (nI r) := hp.resolve_right (fun t => ct ⟨t.1, fun e => t.2.1 (t.2.2.trans e), t.2.2⟩)
        obtain ⟨q, hq, e1, -⟩ := place_yes (n := n') (by omega) hQ hi
        have hQ8 := hQ.1
        rw [if_neg ct]
        unfold lp_X6_waitFor_33
        rw [if_pos rfl, e1]
        simp only [Option.bind_some]
        rw [if_neg (nI_m1 (by omega)), k1]
        rfl
    obtain ⟨v, σ', τ2, l3, l4, l5, b1, b2, b3, b4, b5, b6⟩ := wait_sim (n := n) (n' := n') (a1 := nI r) (l2 := l2) (by omega) (by omega) hr9 500 n n' 0 Q σ1 τ1 (by omega) (by omega) (by omega) hR1 hp1
    obtain ⟨τ3, g1, g2, g3, g4⟩ := back_M (n := n') (by omega) k2 k3 k4 b4
    have hcl : sp_X5_waitFor n σ 40 (nI r) = if v = -1 then some (.inr "java/lang/UnsupportedOperationException", σ') else some (.inl v, σ') := by
      unfold sp_X5_waitFor
      rw [show sp_X1_isPending n σ (rf 40 0) (nI r) = some (1, σ) from isPending_yes (by omega) hS.sh hQ hp]
      simp only [Option.bind_some]
      rw [if_neg (by decide), show sp_X1_copyFrom n σ (rf 40 1) (rf 40 0) = some ((), σ1) from c0]
      simp only [Option.bind_some]
      rw [show sp_X1_passToEndOf n σ1 (rf 40 1) (nI r) = some (v, σ') from b1]
      rfl
    have hfc : FrC σ σ' 1 := c2.trans b3
    have hRX : ∀ t, RX B σ' (wi τ3 41 14 t) := fun t => h.trial hfc b5 (fun a b h1 h2 h3 h4 => by rw [wi_o (by omega), g4 _ _ h1 h2 h4])
    have hFM : ∀ t, FM τ (wi τ3 41 14 t) := fun t => ⟨fun a b h1 => by rw [wi_o (by omega), g3 _ _ h1], g2⟩
    rcases b6 with ⟨b7, b8⟩ | ⟨⟨w, w1, w2⟩, b8, b9⟩
    · refine ⟨2, σ', 0, wi τ3 41 14 2, ?_, ?_, wi_eq rfl rfl, fun e => absurd e (by decide), hRX 2, hfc.fc (by omega), hFM 2⟩
      · unfold sp_L_waitFor
        rw [hcl, if_pos b7]
        simp
      · rw [hm2, b2]
        unfold lp_X6_waitFor_160 lp_X6_waitFor_175
        rw [g1]
        simp only [Option.bind_some, lm]
        rw [if_pos b8, if_pos b8]
    · refine ⟨0, wi σ' 49 0 v, v, wi τ3 41 14 0, ?_, ?_, wi_eq rfl rfl, fun _ => wi_eq rfl rfl, ?_, (hfc.fc (by omega)).trans (FC.out _ _ _), hFM 0⟩
      · unfold sp_L_waitFor
        rw [hcl, if_neg (by rw [w2]; exact nI_m1 (by omega))]
        rfl
      · rw [hm2, b2]
        unfold lp_X6_waitFor_160 lp_X6_waitFor_175
        rw [g1]
        simp only [Option.bind_some, lm]
        rw [b8, if_neg (by decide), if_neg (by decide), b9]
      · exact (hRX 0).to (Nat.le_refl _) (fun a b h1 _ _ _ => wi_o (by omega)) (fun _ _ => rfl) (fun _ _ _ _ _ _ => rfl)
  · have hi : ¬ inq σ 0 Q a := fun q => hp (Or.inl q)
    have ht : ¬ trp σ 0 a := fun q => hp (Or.inr q)
    refine op_bad (t := 1) (r := 0) h (by decide) ?_ ?_
    · unfold sp_L_waitFor sp_X5_waitFor
      rw [show sp_X1_isPending n σ (rf 40 0) a = some (0, σ) from isPending_no (by omega) hS.sh hQ hi ht]
      simp
    · rw [hm, if_neg (fun q => ht ⟨q.1, fun e => q.2.1 (q.2.2.symm.trans e), q.2.2⟩)]
      unfold lp_X6_waitFor_33
      rw [if_pos rfl, place_no (n := n') (by omega) hQ hi]
      simp only [Option.bind_some]
      rw [if_pos trivial]
      rfl
theorem RS.alarmM1 {σ τ : Mem} {m L : Nat} {W : Nat → Nat} {u : Nat} (h : RS σ τ m L W u) (n : Nat) {k : Nat} (hg : σ.1 (10 * m + k) 7 = τ.1 47 k) (h1 : 1 ≤ k) (h2 : k ≤ L) : sp_X6_alarms n τ 41 (nI k) = some (alC σ m k, τ) := by
  obtain ⟨z, z1, z2, z3, z4⟩ := (h.row h1 h2).1
  have hL := h.lv
  have hsh : sp_X6_share n τ 41 (nI k) = some (shC σ m k, τ) := by
    unfold sp_X6_share
    simp only [ix_0 (show k < 73 by omega)]
    rw [if_pos (inR_nI (by omega) (by omega)), if_pos (inR_nI (by omega) (by omega))]
    simp only [nI_cl (show k < 100000 by omega), rfm_2, rfm_11]
    rw [if_pos (by rw [z4, n0, eq_nI (by omega) (by omega)]; omega)]
    unfold shC
    rw [hg, z3, z4]
  unfold sp_X6_alarms
  rw [hsh]
  simp only [Option.bind_some]
  unfold alC
  rw [h.lim]
  split <;> rfl
theorem alarm_sim {n n' : Nat} (hn : 20 < n) (hn' : 80 < n') {L : Nat} {W : Nat → Nat} {u c : Nat} {a1 : Int32} (hc1 : 1 ≤ c) (hc2 : c ≤ L) : ∀ (d k k' j : Nat) (σ τ : Mem), j + d = 500 → d + 1 < k → d < k' → RS σ τ 1 L W u → σ.1 (10 * 1 + c) 7 = τ.1 47 c →
    ∃ v σ' τ', lp_X1_passToAlarm_2 n 17 (10 + c) k σ (nI j) = some (v, σ') ∧ FrC σ σ' 1 ∧ FrM τ τ' ∧ ShM σ' 1 ∧
      (v = -1 ∧ lp_X6_minutesToAlarm_16 n' 41 a1 k' τ (nI c) (nI j) = ((sp_X6_goesBack n' τ' 41).bind fun q => ((sp_X6_raises n' q.2 41 2).bind fun r => some (r.1, r.2))) ∨ (∃ w, w < 1000 ∧ v = nI w) ∧ lp_X6_minutesToAlarm_16 n' 41 a1 k' τ (nI c) (nI j) = ((sp_X6_goesBack n' τ' 41).bind fun q => some (v, q.2))) := by
  intro d
  induction d with
  | zero =>
    intro k k' j σ τ hj hk hk' h hg
    obtain ⟨k, rfl⟩ : ∃ z, k = z + 1 + 1 := ⟨k - 2, by omega⟩
    obtain ⟨k', rfl⟩ : ∃ z, k' = z + 1 := ⟨k' - 1, by omega⟩
    have hL := h.lv
    have ha : sp_X1_hasAlarm n σ 17 (10 + c) = some (alC σ 1 c, σ) := h.alarm n hc1 hc2
    have nlt : ¬ (500 : Int32) < nI j := by rw [show (500 : Int32) = nI 500 from rfl, lt_nI (by omega) (by omega)]; omega
    have le : (500 : Int32) ≤ nI j := by rw [show (500 : Int32) = nI 500 from rfl, le_nI (by omega) (by omega)]; omega
    by_cases ca : alC σ 1 c = 0
    · obtain ⟨z, z1, z2, z3, -⟩ := (h.row hc1 hc2).1
      obtain ⟨σ', e0, e1, -, -, -, e5⟩ := ev_moveGas n (σ := σ) (m := 1) (k := c) (by omega) z1 z2 z3
      refine ⟨-1, σ', τ, ?_, ⟨fun a b h1 h2 => e5 _ _ (by omega) (by omega), fun a _ => by rw [e1]⟩, FrM.rfl' _, h.sh.to e1, Or.inl ⟨rfl, ?_⟩⟩
      · rw [lp_X1_passToAlarm_2_s, if_neg nlt, ha]
        simp only [Option.bind_some]
        rw [if_pos ca, show sp_X1_moveGas n σ 17 (10 + c) = some ((), σ') from e0]
        simp only [Option.bind_some, add1_nI]
        rw [lp_X1_passToAlarm_2_s, if_pos (show (500 : Int32) < nI (j + 1) by rw [show (500 : Int32) = nI 500 from rfl, lt_nI (by omega) (by omega)]; omega)]
      · rw [lp_X6_minutesToAlarm_16_s, if_pos le, h.alarmM1 n' hg hc1 hc2]
        simp only [Option.bind_some]
        simp only [if_pos ca]
    · refine ⟨nI j, σ, τ, ?_, FrC.rfl' _ _, FrM.rfl' _, h.sh, Or.inr ⟨⟨j, by omega, rfl⟩, ?_⟩⟩
      · rw [lp_X1_passToAlarm_2_s, if_neg nlt, ha]
        simp only [Option.bind_some]
        rw [if_neg ca]
      · rw [lp_X6_minutesToAlarm_16_s, if_pos le, h.alarmM1 n' hg hc1 hc2]
        simp only [Option.bind_some]
        simp only [if_neg ca]
  | succ d ih =>
    intro k k' j σ τ hj hk hk' h hg
    obtain ⟨k, rfl⟩ : ∃ z, k = z + 1 := ⟨k - 1, by omega⟩
    obtain ⟨k', rfl⟩ : ∃ z, k' = z + 1 := ⟨k' - 1, by omega⟩
    have hL := h.lv
    have ha : sp_X1_hasAlarm n σ 17 (10 + c) = some (alC σ 1 c, σ) := h.alarm n hc1 hc2
    have nlt : ¬ (500 : Int32) < nI j := by rw [show (500 : Int32) = nI 500 from rfl, lt_nI (by omega) (by omega)]; omega
    have nle : ¬ (500 : Int32) ≤ nI j := by rw [show (500 : Int32) = nI 500 from rfl, le_nI (by omega) (by omega)]; omega
    by_cases ca : alC σ 1 c = 0
    · obtain ⟨-, -, -, s4, -, s6, s7, -, s9, -⟩ := id h
      obtain ⟨z, z1, z2, z3, -⟩ := (h.row hc1 hc2).1
      obtain ⟨σ1, e0, e1, e2, -, -, e5⟩ := ev_moveGas n (σ := σ) (m := 1) (k := c) (by omega) z1 z2 z3
      obtain ⟨τ1, f1, m1, m2, -, -, m5⟩ := ev_gases (n := n') (by omega) s4 hL s6 s7 s9 (fun k k1 k2 => by
        obtain ⟨z, z1, z2, z3, z4⟩ := (h.row k1 k2).1
        exact ⟨z, z1, z2, z4⟩)
      have hS1 : RS σ1 τ1 1 L W u := h.to (h.sh.to e1) (fun k b k1 b1 => e5 _ _ (by omega) (by omega)) (fun b b1 b2 => e5 _ _ (by omega) (by omega)) (fun a b hab => m5 _ _ (by omega))
      have hg1 : σ1.1 (10 * 1 + c) 7 = τ1.1 47 c := by
        rw [e2, m2 c hc1 hc2, hg, (h.row hc1 hc2).2.1, (h.row hc1 hc2).2.2.2.2, h.siz hc1 hc2]
        rfl
      obtain ⟨v, σ', τ', b1, b2, b3, b4, b5⟩ := ih k k' (j + 1) σ1 τ1 (by omega) (by omega) (by omega) hS1 hg1
      have hml : lp_X6_minutesToAlarm_16 n' 41 a1 (k' + 1) τ (nI c) (nI j) = lp_X6_minutesToAlarm_16 n' 41 a1 k' τ1 (nI c) (nI (j + 1)) := by
        rw [lp_X6_minutesToAlarm_16_s, if_neg nle, h.alarmM1 n' hg hc1 hc2]
        simp only [Option.bind_some]
        rw [if_pos ca, f1]
        simp only [Option.bind_some, add1_nI]
      refine ⟨v, σ', τ', ?_, FrC.trans ⟨fun a b h1 h2 => e5 _ _ (by omega) (by omega), fun a _ => by rw [e1]⟩ b2, FrM.trans ⟨fun a b h1 => m5 _ _ (by omega), m1⟩ b3, b4, by rw [hml]; exact b5⟩
      rw [lp_X1_passToAlarm_2_s, if_neg nlt, ha]
      simp only [Option.bind_some]
      rw [if_pos ca, show sp_X1_moveGas n σ 17 (10 + c) = some ((), σ1) from e0]
      simp only [Option.bind_some, add1_nI]
      exact b1
    · refine ⟨nI j, σ, τ, ?_, FrC.rfl' _ _, FrM.rfl' _, h.sh, Or.inr ⟨⟨j, by omega, rfl⟩, ?_⟩⟩
      · rw [lp_X1_passToAlarm_2_s, if_neg nlt, ha]
        simp only [Option.bind_some]
        rw [if_neg ca]
      · rw [lp_X6_minutesToAlarm_16_s, if_neg nle, h.alarmM1 n' hg hc1 hc2]
        simp only [Option.bind_some]
        rw [if_neg ca, h.alarmM1 n' hg hc1 hc2]
        simp only [Option.bind_some]
        simp only [if_neg ca]
theorem op_minutesToAlarm {n n' B : Nat} (hn : 510 < n) (hn' : 510 < n') {σ τ : Mem} (a : Int32) (h : RX B σ τ) : OpG B σ τ (sp_L_minutesToAlarm n σ 40 a 49) (sp_X6_minutesToAlarm n' τ 41 a) := by
  obtain ⟨L, W, u, N, Q, hR, h1, hN⟩ := id h
  have hS := hR.1
  have hL := hS.lv
  have h4 : σ.1 7 4 = nI L := hS.c4
  rcases lvl_or1 L hL a with ⟨k, hk1, hk, rfl⟩ | hb
  · obtain ⟨σ1, c0, c1, c2, c3⟩ := copy_sim (n := n) (by omega) hR h1
    obtain ⟨τ1, k1, k2, k3, k4⟩ := ev_keeps (n := n') (by omega) (wi τ 41 14 0)
    have hR1 : RR σ1 τ1 1 L W u N Q := c1.toM (fun a b h1 h2 h3 _ => by rw [k3 _ _ (by omega), wi_o (by omega)])
    obtain ⟨v, σ', τ2, b1, b2, b3, b4, b5⟩ := alarm_sim (n := n) (n' := n') (a1 := nI k) (by omega) (by omega) hk1 hk 500 n n' 0 σ1 τ1 (by omega) (by omega) (by omega) hR1.1 (hR1.2.1 k (by omega)).1
    obtain ⟨τ3, g1, g2, g3, g4⟩ := back_M (n := n') (by omega) k2 k3 k4 b3
    have hcl : sp_X5_minutesToAlarm n σ 40 (nI k) = if v = -1 then some (.inr "java/util/NoSuchElementException", σ') else some (.inl v, σ') := by
      unfold sp_X5_minutesToAlarm
      rw [ckL_ok n h4 hL hk1 hk]
      simp only [Option.bind_some]
      rw [show sp_X1_copyFrom n σ (rf 40 1) (rf 40 0) = some ((), σ1) from c0]
      simp only [Option.bind_some]
      rw [show sp_X1_place n σ1 (rf 40 1) (nI k) = some (10 + k, σ1) from ev_place (m := 1) n hR1.1.sh (by omega)]
      simp only [Option.bind_some]
      rw [if_pos (ok_lv (m := 1) (by omega) (by omega)), show sp_X1_passToAlarm n σ1 (rf 40 1) (10 + k) = some (v, σ') from b1]
      rfl
    have hfc : FrC σ σ' 1 := c2.trans b2
    have hm : sp_X6_minutesToAlarm n' τ 41 (nI k) = lp_X6_minutesToAlarm_16 n' 41 (nI k) n' τ1 (nI k) (nI 0) := by
      unfold sp_X6_minutesToAlarm
      rw [lacks_ok n' hS.t0 hL hk1 hk]
      simp only [Option.bind_some]
      rw [if_pos trivial, k1]
      rfl
    have hFM : FM τ τ3 := ⟨fun a b h1 => by rw [g3 _ _ h1, wi_o (by omega)], g2⟩
    have hRX : RX B σ' τ3 := h.trial hfc b4 (fun a b h1 h2 h3 h4 => by rw [g4 _ _ h1 h2 h4, wi_o (by omega)])
    rcases b5 with ⟨b6, b7⟩ | ⟨⟨w, w1, w2⟩, b7⟩
    · refine ⟨2, σ', 0, wi τ3 41 14 2, ?_, ?_, wi_eq rfl rfl, fun e => absurd e (by decide), hRX.thr 2, hfc.fc (by omega), hFM.trans (FM.thr _ _)⟩
      · unfold sp_L_minutesToAlarm
        rw [hcl, if_pos b6]
        simp
      · rw [hm, b7, g1]
        rfl
    · refine ⟨0, wi σ' 49 0 v, v, τ3, ?_, ?_, ?_, fun _ => wi_eq rfl rfl, ?_, (hfc.fc (by omega)).trans (FC.out _ _ _), hFM⟩
      · unfold sp_L_minutesToAlarm
        rw [hcl, if_neg (by rw [w2]; exact nI_m1 (by omega))]
        rfl
      · rw [hm, b7, g1]
        rfl
      · rw [g4 _ _ (by omega) (by omega) (by omega), wi_eq rfl rfl]
      · exact hRX.to (Nat.le_refl _) (fun a b h1 _ _ _ => wi_o (by omega)) (fun _ _ => rfl) (fun _ _ _ _ _ _ => rfl)
  · refine op_bad (t := 1) (r := 0) h (by decide) ?_ ?_
    · unfold sp_L_minutesToAlarm sp_X5_minutesToAlarm
      rw [ckL_bad n h4 hb]
      simp
    · unfold sp_X6_minutesToAlarm
      rw [lacks_bad n' hS.t0 hb]
      simp
end
section
/-! PURE. a blast, a new level, the mean share -/
def blC (σ : Mem) (k : Nat) (b : Int32) : Mem := wi (wi (wi (wi σ k 7 (σ.1 k 7 + 5 * b)) 7 9 (σ.1 7 9 + 5 * b)) k 9 (σ.1 k 9 + 3 * b)) k 10 (σ.1 7 8 + 30)
def blM (τ : Mem) (k : Nat) (b : Int32) : Mem := wi (wi (wi (wi (wi τ 41 14 0) 47 k (τ.1 47 k + 5 * b)) 47 70 (τ.1 47 70 + 5 * b)) 47 (14 + k) (τ.1 47 (14 + k) + 3 * b)) 47 (21 + k) (τ.1 47 61 + 30)
theorem blC_o {σ : Mem} {k : Nat} {b : Int32} (a b' : Nat) (g1 : a ≠ 7 ∨ b' ≠ 9) (g2 : a ≠ k ∨ (b' ≠ 7 ∧ b' ≠ 9 ∧ b' ≠ 10)) : (blC σ k b).1 a b' = σ.1 a b' := by
  unfold blC
  rw [wi_o (by omega), wi_o (by omega), wi_o (by omega), wi_o (by omega)]
theorem blM_o {τ : Mem} {k : Nat} {b : Int32} (a b' : Nat) (g1 : a ≠ 41 ∨ b' ≠ 14) (g2 : a ≠ 47 ∨ (b' ≠ k ∧ b' ≠ 70 ∧ b' ≠ 14 + k ∧ b' ≠ 21 + k)) : (blM τ k b).1 a b' = τ.1 a b' := by
  unfold blM
  rw [wi_o (by omega), wi_o (by omega), wi_o (by omega), wi_o (by omega), wi_o (by omega)]
theorem blast_R {σ τ : Mem} {L : Nat} {W : Nat → Nat} {u N Q k : Nat} {b : Int32} (hR : RR σ τ 0 L W u N Q) (hk1 : 1 ≤ k) (hk : k ≤ L) : RR (blC σ k b) (blM τ k b) 0 L W u N Q := by
  have hL := hR.1.lv
  have o1 := fun a b' g1 g2 => blC_o (σ := σ) (k := k) (b := b) a b' g1 g2
  have o2 := fun a b' g1 g2 => blM_o (τ := τ) (k := k) (b := b) a b' g1 g2
  generalize hσ' : blC σ k b = σ' at o1 ⊢
  generalize hτ' : blM τ k b = τ' at o2 ⊢
  have s7 : σ'.1 k 7 = σ.1 k 7 + 5 * b := by rw [← hσ']; unfold blC; rw [wi_o (by omega), wi_o (by omega), wi_o (by omega), wi_eq rfl rfl]
  have s9 : σ'.1 k 9 = σ.1 k 9 + 3 * b := by rw [← hσ']; unfold blC; rw [wi_o (by omega), wi_eq rfl rfl]
  have s10 : σ'.1 k 10 = σ.1 7 8 + 30 := by rw [← hσ']; unfold blC; rw [wi_eq rfl rfl]
  have s79 : σ'.1 7 9 = σ.1 7 9 + 5 * b := by rw [← hσ']; unfold blC; rw [wi_o (by omega), wi_o (by omega), wi_eq rfl rfl]
  have m7 : τ'.1 47 k = τ.1 47 k + 5 * b := by rw [← hτ']; unfold blM; rw [wi_o (by omega), wi_o (by omega), wi_o (by omega), wi_eq rfl rfl]
  have m9 : τ'.1 47 (14 + k) = τ.1 47 (14 + k) + 3 * b := by rw [← hτ']; unfold blM; rw [wi_o (by omega), wi_eq rfl rfl]
  have m10 : τ'.1 47 (21 + k) = τ.1 47 61 + 30 := by rw [← hτ']; unfold blM; rw [wi_eq rfl rfl]
  have m70 : τ'.1 47 70 = τ.1 47 70 + 5 * b := by rw [← hτ']; unfold blM; rw [wi_o (by omega), wi_o (by omega), wi_eq rfl rfl]
  have e2 : σ'.2 = σ.2 := by rw [← hσ']; rfl
  obtain ⟨hS, hG, hK, hT, hQ, hP, hB⟩ := hR
  refine ⟨hS.to (hS.sh.to e2) (fun k b k1 b1 => o1 _ _ (by omega) (by omega)) (fun b b1 b2 => o1 _ _ (by omega) (by omega)) (fun a b hab => o2 _ _ (by omega) (by omega)), ?_, ?_, hT.to (fun b hb => o1 _ _ (by omega) (by omega)) (o1 _ _ (by omega) (by omega)) (fun b b1 b2 => o2 _ _ (by omega) (by omega)) (o2 _ _ (by omega) (by omega)), hQ.to (o1 _ _ (by omega) (by omega)) (fun p b hp hb => ?_) (o1 _ _ (by omega) (by omega)) (o1 _ _ (by omega) (by omega)) (fun b b1 b2 => o2 _ _ (by omega) (by omega)), hP.to hL (fun k k1 => o1 _ _ (by omega) (by omega)) (onT_cong (o1 _ _ (by omega) (by omega)) (o1 _ _ (by omega) (by omega))) (o2 _ _ (by omega) (by omega)), ?_⟩
  · intro i hi
    have g := hG i hi
    rw [show 10 * 0 + i = i by omega] at g ⊢
    by_cases e : i = k
    · subst e
      rw [s7, s9, s10, m7, m9, m10, o1 _ 8 (by omega) (by omega), o2 47 (7 + i) (by omega) (by omega), g.1, g.2.2.1, show σ.1 7 8 = τ.1 47 61 from hK.1]
      exact ⟨rfl, g.2.1, rfl, rfl⟩
    · rw [o1 _ 7 (by omega) (by omega), o1 _ 8 (by omega) (by omega), o1 _ 9 (by omega) (by omega), o1 _ 10 (by omega) (by omega), o2 47 i (by omega) (by omega), o2 47 (7 + i) (by omega) (by omega), o2 47 (14 + i) (by omega) (by omega), o2 47 (21 + i) (by omega) (by omega)]
      exact g
  · obtain ⟨w1, w2, w3, w4, w5, w6, w7, w8⟩ := hK
    refine ⟨?_, ?_, ?_, ?_, ?_, ?_, ?_, ?_⟩
    · rw [o1 _ _ (by omega) (by omega), o2 _ _ (by omega) (by omega)]; exact w1
    · rw [show σ'.1 (10 * 0 + 7) 9 = σ.1 7 9 + 5 * b from s79, m70, show σ.1 7 9 = τ.1 47 70 from w2]
    · rw [o1 _ _ (by omega) (by omega), o2 _ _ (by omega) (by omega)]; exact w3
    · rw [o1 _ _ (by omega) (by omega)]; exact w4
    · rw [o2 _ _ (by omega) (by omega)]; exact w5
    · rw [o1 _ _ (by omega) (by omega), o2 _ _ (by omega) (by omega)]; exact w6
    · rw [o1 _ _ (by omega) (by omega), o2 _ _ (by omega) (by omega)]; exact w7
    · rw [o1 _ _ (by omega) (by omega), o2 _ _ (by omega) (by omega)]; exact w8
  · show σ'.1 (σ'.2 (38 + 0) p) b = _
    have hh := hS.sh.2.2.1 p hp
    rw [e2]
    exact o1 _ _ (by omega) (by omega)
  · refine ⟨?_, fun i i1 i2 => by rw [o1 _ _ (by omega) (by omega)]; exact hB.2 i i1 i2⟩
    rw [show σ'.1 (10 * 0 + 7) 9 = σ.1 7 9 + 5 * b from s79, o1 (10 * 0 + 7) 10 (by omega) (by omega), show σ.1 7 9 = σ.1 (10 * 0 + 7) 9 from rfl, ← hB.1]
    refine acc_upd (i := k) (f := fun i => σ.1 (10 * 0 + i) 7) ?_ hk1 (fun i i1 i2 => ?_) hk
    · show σ'.1 (10 * 0 + k) 7 = σ.1 (10 * 0 + k) 7 + 5 * b
      rw [show 10 * 0 + k = k by omega, s7]
    · exact o1 _ _ (by omega) (by omega)
theorem isTo_0 (n : Nat) (σ : Mem) (k : Nat) : sp_X3_isTo n σ (rf 7 3) (nI k) = some (if σ.1 8 0 ≠ 45 ∧ σ.1 8 1 = nI k then 1 else 0, σ) := by
  unfold sp_X3_isTo
  rw [show rf 7 3 = 8 from rfl, ev_isOn]
  simp only [Option.bind_some]
  by_cases x1 : σ.1 8 0 = 45
  · rw [if_pos x1, if_pos rfl, if_neg (fun q => q.1 x1)]
  · rw [if_neg x1, if_neg (by decide)]
    by_cases x2 : σ.1 8 1 = nI k
    · rw [if_pos x2, if_pos ⟨x1, x2⟩]
    · rw [if_neg x2, if_neg (fun q => x2 q.2)]
theorem isTo_M {σ τ : Mem} {L k : Nat} (hT : RT σ τ 0 L) (e63 : τ.1 47 63 = σ.1 8 0) : ∀ X Y : Option (Int32 × Mem), (if τ.1 47 63 = 45 then X else if inR (64 : Int32) 73 then (if τ.1 47 64 = nI k then Y else X) else none) = if σ.1 8 0 ≠ 45 ∧ σ.1 8 1 = nI k then Y else X := by
  intro X Y
  rw [e63]
  by_cases x1 : σ.1 8 0 = 45
  · rw [if_pos x1, if_neg (fun q => q.1 x1)]
  · obtain ⟨⟨kk, -, -, y1, y2⟩, -⟩ := hT.2.2.2.2 x1
    have y1' : σ.1 8 1 = nI kk := y1
    rw [if_neg x1, if_pos i64, y2, y1']
    by_cases x2 : nI kk = nI k
    · rw [if_pos x2, if_pos ⟨x1, x2⟩]
    · rw [if_neg x2, if_neg (fun q => x2 q.2)]
theorem blast_C (n : Nat) {σ τ : Mem} {L : Nat} {W : Nat → Nat} {u N Q k : Nat} {b : Int32} (hR : RR σ τ 0 L W u N Q) (hk1 : 1 ≤ k) (hk : k ≤ L) (c1 : ∀ (n : Nat) (σ : Mem), sp_X5_checkRange n σ b 1 20 = some (.inl (), σ)) (cd : cdC σ 0 k = 0) (cp : ¬ 0 < σ.1 k 8) (ct : ¬ (σ.1 8 0 ≠ 45 ∧ σ.1 8 1 = nI k)) : sp_L_blast n σ 40 (nI k) b 49 = some (0, wi (blC σ k b) 49 0 (τ.1 47 61 + 30)) := by
  have hS := hR.1
  have hL := hS.lv
  have h4 : σ.1 7 4 = nI L := hS.c4
  have hd := ev_isShut n σ 0 k
  rw [Nat.mul_zero, Nat.zero_add, Nat.zero_add] at hd
  have hto := isTo_0 n σ k
  unfold sp_L_blast sp_X5_blast blC
  rw [ckL_ok n h4 hL hk1 hk]
  simp only [Option.bind_some]
  rw [c1]
  simp only [Option.bind_some]
  rw [pl_0 n hS.sh (by omega)]
  simp only [Option.bind_some]
  rw [if_pos (ok_0 (by omega)), show rf 40 0 = 7 from rfl, hd]
  simp only [Option.bind_some]
  rw [if_pos cd, if_neg cp, hto]
  simp only [Option.bind_some]
  rw [if_neg ct, if_pos rfl]
  unfold sp_X1_letGasIn
  simp only [lm, Option.bind_some]
  rw [wi_o (a := 7) (b := 9) (by omega), wi_o (a := k) (b := 9) (by omega), wi_o (a := k) (b := 9) (by omega), wi_o (a := 7) (b := 8) (by omega), wi_o (a := 7) (b := 8) (by omega), wi_o (a := 7) (b := 8) (by omega), wi_eq rfl rfl, show σ.1 7 8 = τ.1 47 61 from hR.2.2.1.1]
  rfl
theorem blast_79 (n : Nat) {τ : Mem} {a1 a2 : Int32} {k : Nat} {b : Int32} (hk : k < 7) : lp_X6_blast_79 n 41 a1 a2 τ (nI k) b 0 = some (τ.1 47 61 + 30, blM τ k b) := by
  have i0 : inR (0 + nI k) 73 := by rw [ix_0 (by omega)]; exact inR_nI (by omega) (by omega)
  have i14 : inR (14 + nI k) 73 := by rw [ix14]; exact inR_nI (by omega) (by omega)
  have i21 : inR (21 + nI k) 73 := by rw [ix21]; exact inR_nI (by omega) (by omega)
  have c0 : (0 + nI k).toNatClampNeg = k := by rw [ix_0 (by omega)]; exact nI_cl (by omega)
  have c14 : (14 + nI k).toNatClampNeg = 14 + k := by rw [ix14]; exact nI_cl (by omega)
  have c21 : (21 + nI k).toNatClampNeg = 21 + k := by rw [ix21]; exact nI_cl (by omega)
  unfold lp_X6_blast_79
  dsimp only [lm]
  rw [wi_eq rfl rfl, if_pos (show (0 : Int32) ≤ 0 by decide), if_pos i0, if_pos i0, if_pos i70, if_pos i70, if_pos i14, if_pos i14, if_pos i61, if_pos i21, if_pos i21]
  rw [c0, c14, c21, c70, c61, rfm_11]
  have e1 : (wi τ 41 14 0).1 47 k = τ.1 47 k := wi_o (by omega)
  have e2 : (wi (wi τ 41 14 0) 47 k (τ.1 47 k + 5 * b)).1 47 70 = τ.1 47 70 := by rw [wi_o (by omega), wi_o (by omega)]
  have e3 : (wi (wi (wi τ 41 14 0) 47 k (τ.1 47 k + 5 * b)) 47 70 (τ.1 47 70 + 5 * b)).1 47 (14 + k) = τ.1 47 (14 + k) := by rw [wi_o (by omega), wi_o (by omega), wi_o (by omega)]
  have e4 : (wi (wi (wi (wi τ 41 14 0) 47 k (τ.1 47 k + 5 * b)) 47 70 (τ.1 47 70 + 5 * b)) 47 (14 + k) (τ.1 47 (14 + k) + 3 * b)).1 47 61 = τ.1 47 61 := by rw [wi_o (by omega), wi_o (by omega), wi_o (by omega), wi_o (by omega)]
  rw [e1, e2, e3, e4, wi_eq rfl rfl]
  rfl
theorem blast_M (n' : Nat) {σ τ : Mem} {L : Nat} {W : Nat → Nat} {u N Q k : Nat} {b : Int32} (hR : RR σ τ 0 L W u N Q) (hk1 : 1 ≤ k) (hk : k ≤ L) (c2 : ∀ (n : Nat) (τ : Mem), sp_X6_in n τ b 1 20 = some (1, τ)) (cd : cdC σ 0 k = 0) (cp : ¬ 0 < σ.1 k 8) (ct : ¬ (σ.1 8 0 ≠ 45 ∧ σ.1 8 1 = nI k)) : sp_X6_blast n' τ 41 (nI k) b = some (τ.1 47 61 + 30, blM τ k b) := by
  have hS := hR.1
  have hL := hS.lv
  have hT := hR.2.2.2.1
  have hdM := ev_closedM n' (k := k) hR.2.1 hR.2.2.1 (by omega)
  have hg := hR.2.1 k (by omega)
  rw [Nat.mul_zero, Nat.zero_add] at hg
  have hmt := isTo_M (k := k) hT hT.1.symm
  unfold sp_X6_blast
  rw [isL_ok n' hS.t0 hL hk1 hk]
  simp only [Option.bind_some]
  rw [if_neg (by decide), c2]
  simp only [Option.bind_some]
  rw [if_neg (by decide), hdM]
  simp only [Option.bind_some, ix7, nI_cl (show 7 + k < 100000 by omega), rfm_11, ix63, ix64]
  rw [if_pos cd, if_pos (inR_nI (by omega) (by omega)), ← hg.2.1, if_neg cp, if_pos i63, hmt, if_neg ct]
  exact blast_79 n' (by omega)
theorem op_blast {n n' B : Nat} {σ τ : Mem} (a b : Int32) (h : RX B σ τ) : OpG B σ τ (sp_L_blast n σ 40 a b 49) (sp_X6_blast n' τ 41 a b) := by
  obtain ⟨L, W, u, N, Q, hR, h1, hN⟩ := id h
  have hS := hR.1
  have hL := hS.lv
  have h4 : σ.1 7 4 = nI L := hS.c4
  have hT := hR.2.2.2.1
  rcases lvl_or1 L hL a with ⟨k, hk1, hk, rfl⟩ | hbad
  · rcases rng b 1 20 with ⟨-, -, c1, c2⟩ | ⟨c1, c2⟩
    · have hd := ev_isShut n σ 0 k
      rw [Nat.mul_zero, Nat.zero_add, Nat.zero_add] at hd
      have hdM := ev_closedM n' (k := k) hR.2.1 hR.2.2.1 (by omega)
      have hg := hR.2.1 k (by omega)
      rw [Nat.mul_zero, Nat.zero_add] at hg
      have e63 : τ.1 47 63 = σ.1 8 0 := hT.1.symm
      by_cases cd : cdC σ 0 k = 0
      · by_cases cp : 0 < σ.1 k 8
        · refine op_bad (t := 4) (r := 0) h (by decide) ?_ ?_
          · unfold sp_L_blast sp_X5_blast
            rw [ckL_ok n h4 hL hk1 hk]
            simp only [Option.bind_some]
            rw [c1]
            simp only [Option.bind_some]
            rw [pl_0 n hS.sh (by omega)]
            simp only [Option.bind_some]
            rw [if_pos (ok_0 (by omega)), show rf 40 0 = 7 from rfl, hd]
            simp only [Option.bind_some]
            rw [if_pos cd, if_pos cp]
            simp
          · unfold sp_X6_blast lp_X6_blast_79
            rw [isL_ok n' hS.t0 hL hk1 hk]
            simp only [Option.bind_some]
            rw [if_neg (by decide), c2]
            simp only [Option.bind_some]
            rw [if_neg (by decide), hdM]
            simp only [Option.bind_some, ix7, nI_cl (show 7 + k < 100000 by omega), rfm_11, lm]
            rw [if_pos cd, if_pos (inR_nI (by omega) (by omega)), ← hg.2.1, if_pos cp, wi_eq rfl rfl, if_neg (by decide)]
        · -- is the trip to it?
          have hto := isTo_0 n σ k
          have hmt := isTo_M (k := k) hT e63
          by_cases ct : σ.1 8 0 ≠ 45 ∧ σ.1 8 1 = nI k
          · refine op_bad (t := 4) (r := 0) h (by decide) ?_ ?_
            · unfold sp_L_blast sp_X5_blast
              rw [ckL_ok n h4 hL hk1 hk]
              simp only [Option.bind_some]
              rw [c1]
              simp only [Option.bind_some]
              rw [pl_0 n hS.sh (by omega)]
              simp only [Option.bind_some]
              rw [if_pos (ok_0 (by omega)), show rf 40 0 = 7 from rfl, hd]
              simp only [Option.bind_some]
              rw [if_pos cd, if_neg cp, hto]
              simp only [Option.bind_some]
              rw [if_pos ct, if_neg (by decide)]
              simp
            · unfold sp_X6_blast lp_X6_blast_79
              rw [isL_ok n' hS.t0 hL hk1 hk]
              simp only [Option.bind_some]
              rw [if_neg (by decide), c2]
              simp only [Option.bind_some]
              rw [if_neg (by decide), hdM]
              simp only [Option.bind_some, ix7, nI_cl (show 7 + k < 100000 by omega), rfm_11, ix63, ix64]
              rw [if_pos cd, if_pos (inR_nI (by omega) (by omega)), ← hg.2.1, if_neg cp, if_pos i63, hmt, if_pos ct]
              simp only [lm]
              rw [wi_eq rfl rfl, if_neg (by decide)]
          · exact op_put (B := B) (Nat.le_refl _) (blast_C n hR hk1 hk c1 cd cp ct) (blast_M n' hR hk1 hk c2 cd cp ct) (by unfold blM; rw [wi_o (by omega), wi_o (by omega), wi_o (by omega), wi_o (by omega), wi_eq rfl rfl]) ⟨L, W, u, N, Q, blast_R hR hk1 hk, h1.to rfl, hN⟩ ⟨fun a b h1 h2 => blC_o _ _ (by omega) (by omega), fun _ _ => rfl⟩ ⟨fun a b h1 => blM_o _ _ (by omega) (by omega), rfl⟩
      · refine op_bad (t := 3) (r := 0) h (by decide) ?_ ?_
        · unfold sp_L_blast sp_X5_blast
          rw [ckL_ok n h4 hL hk1 hk]
          simp only [Option.bind_some]
          rw [c1]
          simp only [Option.bind_some]
          rw [pl_0 n hS.sh (by omega)]
          simp only [Option.bind_some]
          rw [if_pos (ok_0 (by omega)), show rf 40 0 = 7 from rfl, hd]
          simp only [Option.bind_some]
          rw [if_neg cd]
          simp
        · unfold sp_X6_blast lp_X6_blast_79
          rw [isL_ok n' hS.t0 hL hk1 hk]
          simp only [Option.bind_some]
          rw [if_neg (by decide), c2]
          simp only [Option.bind_some]
          rw [if_neg (by decide), hdM]
          simp only [Option.bind_some, lm]
          rw [if_neg cd, wi_eq rfl rfl, if_neg (by decide)]
    · refine op_bad (t := 2) (r := 0) h (by decide) ?_ ?_
      · unfold sp_L_blast sp_X5_blast
        rw [ckL_ok n h4 hL hk1 hk]
        simp only [Option.bind_some]
        rw [c1]
        simp
      · unfold sp_X6_blast lp_X6_blast_79
        rw [isL_ok n' hS.t0 hL hk1 hk]
        simp only [Option.bind_some]
        rw [if_neg (by decide), c2]
        simp only [Option.bind_some, lm]
        rw [if_pos trivial, wi_eq rfl rfl, if_neg (by decide)]
  · refine op_bad (t := 1) (r := 0) h (by decide) ?_ ?_
    · unfold sp_L_blast sp_X5_blast
      rw [ckL_bad n h4 hbad]
      simp
    · unfold sp_X6_blast lp_X6_blast_79
      rw [isL_bad n' hS.t0 hbad]
      simp only [Option.bind_some, lm]
      rw [if_pos trivial, wi_eq rfl rfl, if_neg (by decide)]
/-- meanShare: a double, told by its two ints -/
def OpD (B : Nat) (σ τ : Mem) (c : Option (Int32 × Mem)) (d : Option ((Int32 × Int32) × Mem)) : Prop := ∃ t σ' r τ', c = some (t, σ') ∧ d = some (r, τ') ∧ τ'.1 41 14 = t ∧ (t = 0 → σ'.1 50 0 = r.1 ∧ σ'.1 50 1 = r.2 ∧ ¬ r.2 = 0) ∧ RX B σ' τ' ∧ FC σ σ' ∧ FM τ τ'
theorem lp_mean (n : Nat) {σ : Mem} {τ0 : Mem} {L : Nat} {W : Nat → Nat} {u : Nat} (h : RS σ τ0 0 L W u) : ∀ (d k j : Nat) (x : Int32), j + d = L → d < k → 1 ≤ L → ∃ y, lp_X5_meanShare_24 n 40 k σ x (nI (j + 1)) = some (.inl (y, nI L), σ) ∧ ∀ (n' k' : Nat) (τ : Mem), d < k' → RS σ τ 0 L W u → RG σ τ 0 → τ.1 41 14 = 0 → lp_X6_meanShare_20 n' 41 k' τ x (nI (j + 1)) = some ((y, nI L), τ) := by
  intro d
  have hL := h.lv
  have h4 : σ.1 (rf 40 0) 4 = nI L := h.c4
  induction d with
  | zero =>
    intro k j x hj hk h1
    obtain ⟨k, rfl⟩ : ∃ z, k = z + 1 := ⟨k - 1, by omega⟩
    have nz : ¬ nI L = 0 := by rw [eq0_nI (by omega)]; omega
    refine ⟨x, ?_, fun n' k' τ hk' hS' hG' ht => ?_⟩
    · rw [lp_X5_meanShare_24_s, h4, if_pos ((lt_nI (by omega) (by omega)).mpr (by omega)), if_pos nz]
    · obtain ⟨k', rfl⟩ : ∃ z, k' = z + 1 := ⟨k' - 1, by omega⟩
      rw [lp_X6_meanShare_20_s, hS'.t0, if_pos ((lt_nI (by omega) (by omega)).mpr (by omega)), ht, if_pos (by decide), if_pos nz]
  | succ d ih =>
    intro k j x hj hk h1
    obtain ⟨k, rfl⟩ : ∃ z, k = z + 1 := ⟨k - 1, by omega⟩
    have hs := h.share n (k := j + 1) (by omega) (by omega)
    rw [Nat.mul_zero, Nat.zero_add] at hs
    obtain ⟨y, y1, y2⟩ := ih k (j + 1) (x + shC σ 0 (j + 1)) (by omega) (by omega) h1
    refine ⟨y, ?_, fun n' k' τ hk' hS' hG' ht => ?_⟩
    · rw [lp_X5_meanShare_24_s, h4, if_neg (by rw [lt_nI (by omega) (by omega)]; omega), pl_0 n h.sh (by omega)]
      simp only [Option.bind_some]
      rw [if_pos (ok_0 (by omega)), hs]
      simp only [Option.bind_some, add1_nI]
      exact y1
    · obtain ⟨k', rfl⟩ : ∃ z, k' = z + 1 := ⟨k' - 1, by omega⟩
      rw [lp_X6_meanShare_20_s, hS'.t0, if_neg (by rw [lt_nI (by omega) (by omega)]; omega), hS'.shareM hG' n' (by omega) (by omega)]
      simp only [Option.bind_some, add1_nI]
      exact y2 n' k' τ (by omega) hS' hG' ht
theorem op_meanShare {n n' B : Nat} (hn : 10 < n) (hn' : 10 < n') {σ τ : Mem} (h : RX B σ τ) : OpD B σ τ (sp_L_meanShare n σ 40 50) (sp_X6_meanShare n' τ 41) := by
  obtain ⟨L, W, u, N, Q, hR, h1, hN⟩ := id h
  have hS := hR.1
  have hL := hS.lv
  have h4 : σ.1 (rf 40 0) 4 = nI L := hS.c4
  by_cases c : L = 0
  · subst c
    refine ⟨1, σ, (0, 1), wi τ 41 14 1, ?_, ?_, wi_eq rfl rfl, fun e => absurd e (by decide), h.thr 1, FC.rfl' _, FM.thr _ _⟩
    · unfold sp_L_meanShare sp_X5_meanShare
      rw [h4, if_pos (show nI 0 = 0 from rfl)]
      simp
    · obtain ⟨k', rfl⟩ : ∃ z, n' = z + 1 := ⟨n' - 1, by omega⟩
      unfold sp_X6_meanShare
      rw [hS.t0, if_pos (show nI 0 = 0 from rfl)]
      simp only [lm]
      rw [lp_X6_meanShare_20_s, wi_o (a := 41) (b := 0) (by omega), hS.t0, if_pos (show nI 0 < 1 by decide), wi_eq rfl rfl, if_neg (by decide)]
  · obtain ⟨y, y1, y2⟩ := lp_mean n hS L n 0 0 (by omega) (by omega) (by omega)
    have nz : ¬ nI L = 0 := by rw [eq0_nI (by omega)]; omega
    refine ⟨0, wi (wi σ 50 0 y) 50 1 (nI L), (y, nI L), wi τ 41 14 0, ?_, ?_, wi_eq rfl rfl, fun _ => ⟨by rw [wi_o (by omega), wi_eq rfl rfl], wi_eq rfl rfl, nz⟩, ?_, ⟨fun a b h1 h2 => by rw [wi_o (by omega), wi_o (by omega)], fun _ _ => rfl⟩, FM.thr _ _⟩
    · unfold sp_L_meanShare sp_X5_meanShare
      rw [h4, if_neg nz, show lp_X5_meanShare_24 n 40 n σ 0 1 = some (.inl (y, nI L), σ) from y1]
      rfl
    · unfold sp_X6_meanShare
      rw [hS.t0, if_neg nz]
      simp only [lm]
      exact y2 n' n' _ (by omega) (RX.to14 (B := B) hS 0) (hR.2.1.to14 0) (wi_eq rfl rfl)
    · exact (h.thr 0).to (Nat.le_refl _) (fun a b h1 _ _ _ => by rw [wi_o (by omega), wi_o (by omega)]) (fun _ _ => rfl) (fun _ _ _ _ _ _ => rfl)
end
section
/-! PURE. a new level; both systems joined -/
theorem RR.grow {σ τ σ' τ' : Mem} {L : Nat} {W W' : Nat → Nat} {u N Q : Nat} (h : RR σ τ 0 L W u N Q) (hL6 : L < 6) (hs : RS σ' τ' 0 (L + 1) W' u) (e : ∀ a b, a < 36 → (a ≤ 6 → 7 ≤ b) → (a = 7 → 8 ≤ b) → σ'.1 a b = σ.1 a b) (e2 : σ'.2 = σ.2) (m1 : ∀ b, τ'.1 47 b = τ.1 47 b) (m9 : τ'.1 41 9 = τ.1 41 9) (m10 : τ'.1 41 10 = τ.1 41 10) : RR σ' τ' 0 (L + 1) W' u N Q := by
  obtain ⟨hS, hG, hK, hT, hQ, hP, hB⟩ := h
  have er : ∀ p b, p < 8 → σ'.1 (rw_ σ' 0 p) b = σ.1 (rw_ σ 0 p) b := fun p b hp => by
    have hh := hS.sh.2.2.1 p hp
    show σ'.1 (σ'.2 (38 + 0) p) b = _
    rw [e2]
    exact e _ _ (by omega) (by omega) (by omega)
  have hK' : RK σ τ 0 (L + 1) N := by
    obtain ⟨w1, w2, w3, w4, w5, ⟨c, c1, c2⟩, w7⟩ := hK
    exact ⟨w1, w2, w3, w4, w5, ⟨c, by omega, c2⟩, w7⟩
  have hT' : RT σ τ 0 (L + 1) := by
    obtain ⟨w1, w2, w3, w4, w5⟩ := hT
    refine ⟨w1, w2, w3, w4, fun q => ?_⟩
    obtain ⟨⟨k, k1, k2, k3⟩, v⟩ := w5 q
    exact ⟨⟨k, k1, by omega, k3⟩, v⟩
  have hQ' : RQ σ τ 0 (L + 1) N Q := by
    obtain ⟨w1, w2, w3, w4, w5, w6⟩ := hQ
    refine ⟨w1, w2, w3, w4, fun p hp => ?_, w6⟩
    obtain ⟨v1, v2, v3, ⟨k, k1, k2, k3⟩, v5⟩ := w5 p hp
    exact ⟨v1, v2, v3, ⟨k, k1, by omega, k3⟩, v5⟩
  refine ⟨hs, hG.to (fun k b k1 b1 b2 => e _ _ (by omega) (by omega) (by omega)) (fun b hb => m1 b), hK'.to (fun b b1 b2 => e _ _ (by omega) (by omega) (by omega)) (fun b hb => m1 b) m9, hT'.to (fun b b1 => e _ _ (by omega) (by omega) (by omega)) (e _ _ (by omega) (by omega) (by omega)) (fun b _ _ => m1 b) (m1 _), hQ'.to (e _ _ (by omega) (by omega) (by omega)) (fun p b hp hb => er p b hp) (e _ _ (by omega) (by omega) (by omega)) (e _ _ (by omega) (by omega) (by omega)) (fun b _ _ => m1 b), RP.to (m := 0) (σ := σ) (τ := τ) ?_ (by omega) (fun k k1 => e _ _ (by omega) (by omega) (by omega)) (onT_cong (e _ _ (by omega) (by omega) (by omega)) (e _ _ (by omega) (by omega) (by omega))) m10, RB.to (m := 0) (σ := σ) ?_ (by omega) (fun k k1 => e _ _ (by omega) (by omega) (by omega)) (e _ _ (by omega) (by omega) (by omega)) (e _ _ (by omega) (by omega) (by omega))⟩
  · refine ⟨?_, fun k k1 k2 => hP.2 k (by omega) k2⟩
    rw [acc, hP.1]
    show τ.1 41 10 + σ.1 (10 * 0 + (L + 1)) 8 = τ.1 41 10
    rw [hP.2 (L + 1) (by omega) (by omega), Int32.add_zero]
  · refine ⟨?_, fun k k1 k2 => hB.2 k (by omega) k2⟩
    rw [acc, hB.1]
    show σ.1 (10 * 0 + 7) 9 + σ.1 (10 * 0 + (L + 1)) 7 = σ.1 (10 * 0 + 7) 9
    rw [hB.2 (L + 1) (by omega) (by omega), Int32.add_zero]
def nlC (σ : Mem) (k : Nat) (a b c d : Int32) : Mem := wi (wi (wi (wi (wi (wi σ 7 4 (nI k)) k 0 a) k 1 b) k 2 c) k 3 d) k 4 1
def nlM (τ : Mem) (k : Nat) (a b c d : Int32) : Mem := wi (wi (wi (wi (wi (wi (wi τ 41 14 0) 41 0 (nI k)) 42 k a) 43 k b) 44 k c) 45 k d) 46 k 1
theorem nlC_o {σ : Mem} {k : Nat} {a b c d : Int32} (i j : Nat) (g1 : i ≠ 7 ∨ j ≠ 4) (g2 : i ≠ k ∨ 4 < j) : (nlC σ k a b c d).1 i j = σ.1 i j := by
  unfold nlC
  rw [wi_o (by omega), wi_o (by omega), wi_o (by omega), wi_o (by omega), wi_o (by omega), wi_o (by omega)]
theorem nlM_o {τ : Mem} {k : Nat} {a b c d : Int32} (i j : Nat) (g1 : i ≠ 41 ∨ (j ≠ 14 ∧ j ≠ 0)) (g2 : i < 42 ∨ 46 < i ∨ j ≠ k) : (nlM τ k a b c d).1 i j = τ.1 i j := by
  unfold nlM
  rw [wi_o (by omega), wi_o (by omega), wi_o (by omega), wi_o (by omega), wi_o (by omega), wi_o (by omega), wi_o (by omega)]
theorem add98 (n : Nat) {τ : Mem} {L : Nat} {a b c d x1 x2 x3 x4 x5 : Int32} (t0 : τ.1 41 0 = nI L) (hL : L < 6) : lp_X6_addLevel_98 n 41 x1 x2 x3 x4 τ a b c d x5 0 = some (nI (L + 1), nlM τ (L + 1) a b c d) := by
  have vn : vp_nar .boolean (1 : Int32) = 1 := vp_nar_b (Or.inr rfl)
  have cl : (nI (L + 1)).toNatClampNeg = L + 1 := nI_cl (by omega)
  have ii : inR (nI (L + 1)) 7 := inR_nI (by omega) (by omega)
  have w0 : (wi τ 41 14 0).1 41 0 = nI L := by rw [wi_o (by omega)]; exact t0
  unfold lp_X6_addLevel_98
  dsimp only [lm]
  rw [wi_eq rfl rfl, if_pos (show (0 : Int32) ≤ 0 by decide), w0, add1_nI, wi_eq rfl rfl, if_pos ii, cl, wi_o (a := 41) (b := 0) (i := rf 41 1) (Or.inl (by decide)), wi_eq rfl rfl, if_pos ii, cl, wi_o (a := 41) (b := 0) (i := rf 41 2) (Or.inl (by decide)), wi_o (a := 41) (b := 0) (i := rf 41 1) (Or.inl (by decide)), wi_eq rfl rfl, if_pos ii, cl, wi_o (a := 41) (b := 0) (i := rf 41 3) (Or.inl (by decide)), wi_o (a := 41) (b := 0) (i := rf 41 2) (Or.inl (by decide)), wi_o (a := 41) (b := 0) (i := rf 41 1) (Or.inl (by decide)), wi_eq rfl rfl, if_pos ii, cl, wi_o (a := 41) (b := 0) (i := rf 41 4) (Or.inl (by decide)), wi_o (a := 41) (b := 0) (i := rf 41 3) (Or.inl (by decide)), wi_o (a := 41) (b := 0) (i := rf 41 2) (Or.inl (by decide)), wi_o (a := 41) (b := 0) (i := rf 41 1) (Or.inl (by decide)), wi_eq rfl rfl, if_pos ii, cl, wi_o (a := 41) (b := 0) (i := rf 41 5) (Or.inl (by decide)), wi_o (a := 41) (b := 0) (i := rf 41 4) (Or.inl (by decide)), wi_o (a := 41) (b := 0) (i := rf 41 3) (Or.inl (by decide)), wi_o (a := 41) (b := 0) (i := rf 41 2) (Or.inl (by decide)), wi_o (a := 41) (b := 0) (i := rf 41 1) (Or.inl (by decide)), wi_eq rfl rfl, vn]
  rfl
theorem add98b (n : Nat) {τ : Mem} {a b c d x1 x2 x3 x4 x5 t : Int32} (ht : t = 1 ∨ t = 2) : lp_X6_addLevel_98 n 41 x1 x2 x3 x4 τ a b c d x5 t = some (0, wi τ 41 14 t) := by
  unfold lp_X6_addLevel_98
  dsimp only [lm]
  rw [wi_eq rfl rfl, if_neg (by rcases ht with e | e <;> subst e <;> decide)]
theorem op_addLevel {n n' B : Nat} (hn : 10 < n) {σ τ : Mem} (a b c d : Int32) (h : RX B σ τ) : OpG B σ τ (sp_L_addLevel n σ 40 a b c d 49) (sp_X6_addLevel n' τ 41 a b c d) := by
  obtain ⟨L, W, u, N, Q, hR, h1, hN⟩ := id h
  have hS := hR.1
  have hL := hS.lv
  have h4 : σ.1 7 4 = nI L := hS.c4
  have hmin : σ.1 7 8 = τ.1 47 61 := hR.2.2.1.1
  -- out of range
  have bad1 : ∀ (hc : sp_X5_addLevel n σ 40 a b c d = some (.inr "java/lang/IllegalArgumentException", σ)) (hm : sp_X6_addLevel n' τ 41 a b c d = lp_X6_addLevel_98 n' 41 a b c d τ a b c d 0 1), OpG B σ τ (sp_L_addLevel n σ 40 a b c d 49) (sp_X6_addLevel n' τ 41 a b c d) := fun hc hm => by
    refine op_bad (t := 1) (r := 0) h (by decide) ?_ ?_
    · unfold sp_L_addLevel
      rw [hc]
      simp
    · rw [hm]
      exact add98b n' (Or.inl rfl)
  rcases rng a 10 2000 with ⟨ga, ga2, a1, a2⟩ | ⟨a1, a2⟩
  · rcases rng b 1 500 with ⟨gb, gb2, b1, b2⟩ | ⟨b1, b2⟩
    · rcases rng c 1 20 with ⟨gc, gc2, c1, c2⟩ | ⟨c1, c2⟩
      · rcases rng d 0 50 with ⟨-, -, d1, d2⟩ | ⟨d1, d2⟩
        · obtain ⟨dl, -, p1, p2⟩ := hS.dep (Nat.le_refl L)
          rw [Nat.mul_zero, Nat.zero_add] at p1
          have hm0 : sp_X6_addLevel n' τ 41 a b c d = if a ≤ nI dl then lp_X6_addLevel_62 n' 41 a b c d τ a b c d 0 else lp_X6_addLevel_62 n' 41 a b c d τ a b c d 1 := by
            unfold sp_X6_addLevel
            rw [a2]
            simp only [Option.bind_some]
            rw [if_neg (by decide), b2]
            simp only [Option.bind_some]
            rw [if_neg (by decide), c2]
            simp only [Option.bind_some]
            rw [if_neg (by decide), d2]
            simp only [Option.bind_some, hS.t0, nI_cl (show L < 100000 by omega), rfm_1, p2]
            rw [if_neg (by decide), if_pos (inR_nI (by omega) (by omega))]
          by_cases cg : nI dl < a
          · have hm1 : sp_X6_addLevel n' τ 41 a b c d = if nI L = 6 then lp_X6_addLevel_98 n' 41 a b c d τ a b c d 1 2 else if τ.1 47 61 ≤ 0 then lp_X6_addLevel_98 n' 41 a b c d τ a b c d 1 0 else lp_X6_addLevel_98 n' 41 a b c d τ a b c d 1 2 := by
              rw [hm0, if_neg (Int32.not_le.mpr cg)]
              unfold lp_X6_addLevel_62
              rw [if_neg (by decide), hS.t0, if_pos i61]
              simp only [rfm_11, c61]
            have hc0 : ∀ X, sp_X5_addLevel n σ 40 a b c d = X ↔ (if 6 ≤ nI L then some (.inr "java/lang/IllegalStateException", σ) else if σ.1 7 8 ≤ 0 then (lm (wi σ (rf 40 0) 4 (nI L + 1)) fun σ20 => ((sp_X1_place n σ20 ((rf 40 0)) ((σ20.1 (rf 40 0) 4))).bind fun q => match q with | (r22, σ23) => if Ok r22 0 then ((sp_X0_open n σ23 r22 a b c d).bind fun q => match q with | (_, σ27) => ((sp_X1_spreadAir n σ27 ((rf 40 0))).bind fun q => match q with | (_, σ30) => some (.inl ((σ30.1 (rf 40 0) 4)), σ30))) else none)) else some (.inr "java/lang/IllegalStateException", σ)) = X := fun X => by
              unfold sp_X5_addLevel
              rw [a1]
              simp only [Option.bind_some]
              rw [b1]
              simp only [Option.bind_some]
              rw [c1]
              simp only [Option.bind_some]
              rw [d1]
              simp only [Option.bind_some]
              rw [show σ.1 (rf 40 0) 4 = nI L from h4, pl_0 n hS.sh (by omega)]
              simp only [Option.bind_some]
              rw [if_pos (ok_0 (by omega)), p1, if_pos cg, show σ.1 (rf 40 0) 4 = nI L from h4, show σ.1 (rf 40 0) 8 = σ.1 7 8 from rfl]
            by_cases c6 : L = 6
            · refine op_bad (t := 2) (r := 0) h (by decide) ?_ ?_
              · unfold sp_L_addLevel
                rw [(hc0 _).mpr (if_pos (by rw [c6]; decide))]
                simp
              · rw [hm1, if_pos (by rw [c6]; rfl)]
                exact add98b n' (Or.inr rfl)
            · have n6 : ¬ (6 : Int32) ≤ nI L := by rw [show (6 : Int32) = nI 6 from rfl, le_nI (by omega) (by omega)]; omega
              have n6' : ¬ nI L = (6 : Int32) := by rw [show (6 : Int32) = nI 6 from rfl, eq_nI (by omega) (by omega)]; omega
              by_cases cm : σ.1 7 8 ≤ 0
              · obtain ⟨da, da1, da2, rfl⟩ := rng_nI (lo := 10) (hi := 2000) ga ga2 (by omega) (by omega)
                obtain ⟨sb, sb1, sb2, rfl⟩ := rng_nI (lo := 1) (hi := 500) gb gb2 (by omega) (by omega)
                obtain ⟨wc, wc1, wc2, rfl⟩ := rng_nI (lo := 1) (hi := 20) gc gc2 (by omega) (by omega)
                obtain ⟨s1, s2, s3, s4, s5, s6, s7, s8, s9, s10, s11, s12, s13, s14⟩ := id hS
                have q0 : (nlC σ (L + 1) (nI da) (nI sb) (nI wc) d).1 (L + 1) 0 = nI da := by unfold nlC; rw [wi_o (by omega), wi_o (by omega), wi_o (by omega), wi_o (by omega), wi_eq rfl rfl]
                have q1 : (nlC σ (L + 1) (nI da) (nI sb) (nI wc) d).1 (L + 1) 1 = nI sb := by unfold nlC; rw [wi_o (by omega), wi_o (by omega), wi_o (by omega), wi_eq rfl rfl]
                have q2 : (nlC σ (L + 1) (nI da) (nI sb) (nI wc) d).1 (L + 1) 2 = nI wc := by unfold nlC; rw [wi_o (by omega), wi_o (by omega), wi_eq rfl rfl]
                have q3 : (nlC σ (L + 1) (nI da) (nI sb) (nI wc) d).1 (L + 1) 3 = d := by unfold nlC; rw [wi_o (by omega), wi_eq rfl rfl]
                have q4 : (nlC σ (L + 1) (nI da) (nI sb) (nI wc) d).1 (L + 1) 4 = 1 := by unfold nlC; rw [wi_eq rfl rfl]
                have q7 : (nlC σ (L + 1) (nI da) (nI sb) (nI wc) d).1 7 4 = nI (L + 1) := by unfold nlC; rw [wi_o (by omega), wi_o (by omega), wi_o (by omega), wi_o (by omega), wi_o (by omega), wi_eq rfl rfl]
                have t42 : (nlM τ (L + 1) (nI da) (nI sb) (nI wc) d).1 42 (L + 1) = nI da := by unfold nlM; rw [wi_o (by omega), wi_o (by omega), wi_o (by omega), wi_o (by omega), wi_eq rfl rfl]
                have t43 : (nlM τ (L + 1) (nI da) (nI sb) (nI wc) d).1 43 (L + 1) = nI sb := by unfold nlM; rw [wi_o (by omega), wi_o (by omega), wi_o (by omega), wi_eq rfl rfl]
                have t44 : (nlM τ (L + 1) (nI da) (nI sb) (nI wc) d).1 44 (L + 1) = nI wc := by unfold nlM; rw [wi_o (by omega), wi_o (by omega), wi_eq rfl rfl]
                have t45 : (nlM τ (L + 1) (nI da) (nI sb) (nI wc) d).1 45 (L + 1) = d := by unfold nlM; rw [wi_o (by omega), wi_eq rfl rfl]
                have t46 : (nlM τ (L + 1) (nI da) (nI sb) (nI wc) d).1 46 (L + 1) = 1 := by unfold nlM; rw [wi_eq rfl rfl]
                have t0 : (nlM τ (L + 1) (nI da) (nI sb) (nI wc) d).1 41 0 = nI (L + 1) := by unfold nlM; rw [wi_o (by omega), wi_o (by omega), wi_o (by omega), wi_o (by omega), wi_o (by omega), wi_eq rfl rfl]
                have t14 : (nlM τ (L + 1) (nI da) (nI sb) (nI wc) d).1 41 14 = 0 := by unfold nlM; rw [wi_o (by omega), wi_o (by omega), wi_o (by omega), wi_o (by omega), wi_o (by omega), wi_o (by omega), wi_eq rfl rfl]
                have oC := fun i j g1 g2 => nlC_o (σ := σ) (k := L + 1) (a := nI da) (b := nI sb) (c := nI wc) (d := d) i j g1 g2
                have oM := fun i j g1 g2 => nlM_o (τ := τ) (k := L + 1) (a := nI da) (b := nI sb) (c := nI wc) (d := d) i j g1 g2
                have hev : lm (wi σ (rf 40 0) 4 (nI L + 1)) (fun σ20 => ((sp_X1_place n σ20 ((rf 40 0)) ((σ20.1 (rf 40 0) 4))).bind fun q => match q with | (r22, σ23) => if Ok r22 0 then ((sp_X0_open n σ23 r22 (nI da) (nI sb) (nI wc) d).bind fun q => match q with | (_, σ27) => ((sp_X1_spreadAir n σ27 ((rf 40 0))).bind fun q => match q with | (_, σ30) => some (.inl ((σ30.1 (rf 40 0) 4)), σ30))) else none)) = ((sp_X1_spreadAir n (nlC σ (L + 1) (nI da) (nI sb) (nI wc) d) (rf 40 0)).bind fun q => match q with | (_, σ30) => some ((.inl ((σ30.1 (rf 40 0) 4)) : Int32 ⊕ String), σ30)) := by
                  dsimp only [lm]
                  rw [wi_eq rfl rfl, add1_nI, pl_0 n (show ShM (wi σ (rf 40 0) 4 (nI (L + 1))) 0 from s1.to rfl) (by omega)]
                  simp only [Option.bind_some]
                  rw [if_pos (ok_0 (by omega))]
                  rfl
                have hcv := (hc0 _).mpr ((if_neg n6).trans ((if_pos cm).trans hev))
                have hb2 : (nlC σ (L + 1) (nI da) (nI sb) (nI wc) d).2 = σ.2 := rfl
                have hm2 : (nlM τ (L + 1) (nI da) (nI sb) (nI wc) d).2 = τ.2 := rfl
                have hmv : sp_X6_addLevel n' τ 41 (nI da) (nI sb) (nI wc) d = some (nI (L + 1), nlM τ (L + 1) (nI da) (nI sb) (nI wc) d) := by
                  rw [hm1, if_neg n6', if_pos (by rw [← hmin]; exact cm)]
                  exact add98 n' hS.t0 (by omega)
                generalize nlC σ (L + 1) (nI da) (nI sb) (nI wc) d = σb at q0 q1 q2 q3 q4 q7 oC hcv hb2
                generalize nlM τ (L + 1) (nI da) (nI sb) (nI wc) d = τb at t42 t43 t44 t45 t46 t0 t14 oM hmv hm2
                have eW : NW σb 0 (L + 1) (fun i => if i = L + 1 then wc else W i) := fun i i1 i2 => by
                  by_cases e : i = L + 1
                  · subst e
                    simp only [if_pos]
                    unfold owC
                    rw [show 10 * 0 + (L + 1) = L + 1 by omega, q4, q2, if_neg (by decide)]
                    exact ⟨rfl, wc2⟩
                  · simp only [if_neg e]
                    rw [owC_cong (σ := σ) (oC _ _ (by omega) (by omega)) (oC _ _ (by omega) (by omega))]
                    exact s5 i i1 (by omega)
                have eM : NM τb (L + 1) (fun i => if i = L + 1 then wc else W i) := fun i i1 i2 => by
                  by_cases e : i = L + 1
                  · subst e
                    simp only [if_pos]
                    rw [t46, t44]
                    exact Or.inr ⟨by decide, rfl, wc1, wc2⟩
                  · simp only [if_neg e]
                    rw [oM _ _ (by omega) (by omega), oM _ _ (by omega) (by omega)]
                    exact s6 i i1 (by omega)
                have q5 : σb.1 7 5 = nI u := by rw [oC _ _ (by omega) (by omega)]; exact s8
                have hsp := ev_spread0 hn (s1.to hb2) q7 (show L + 1 ≤ 6 by omega) eW s7 q5
                have hRS := spread_RS (τ := τb) (s1.to hb2) (show L + 1 ≤ 6 by omega) q7 t0 eW eM s7 q5 (by rw [oM _ _ (by omega) (by omega)]; exact s9) (by rw [oC _ _ (by omega) (by omega), oM _ _ (by omega) (by omega)]; exact s10) (by rw [oC _ _ (by omega) (by omega), oM _ _ (by omega) (by omega)]; exact s11) (fun i i1 => by
                  by_cases e : i = L + 1
                  · subst e
                    exact ⟨da, da2, q0, t42⟩
                  · have := s12 i (by omega)
                    rw [show 10 * 0 + i = i by omega] at this
                    rw [oC _ _ (by omega) (by omega), oM _ _ (by omega) (by omega)]
                    exact this) (fun i i1 i2 => by
                  by_cases e : i = L + 1
                  · subst e
                    exact ⟨⟨sb, sb1, sb2, q1, t43⟩, q3.trans t45.symm, ⟨wc, wc1, wc2, q2, t44⟩, q4.trans t46.symm⟩
                  · have := s13 i i1 (by omega)
                    rw [show 10 * 0 + i = i by omega] at this
                    obtain ⟨v1, v2, v3, v4, -⟩ := this
                    rw [oC _ 1 (by omega) (by omega), oC _ 2 (by omega) (by omega), oC _ 3 (by omega) (by omega), oC _ 4 (by omega) (by omega), oM 43 _ (by omega) (by omega), oM 44 _ (by omega) (by omega), oM 45 _ (by omega) (by omega), oM 46 _ (by omega) (by omega)]
                    exact ⟨v1, v2, v3, v4⟩) (fun i i1 => by
                  by_cases e : i = L + 1
                  · subst e
                    exact Or.inr q4
                  · have := s14 i i1
                    rw [show 10 * 0 + i = i by omega] at this
                    rw [oC _ _ (by omega) (by omega)]
                    exact this)
                refine op_put (B := B) (v := nI (L + 1)) (Nat.le_refl _) ?_ hmv t14 ⟨L + 1, _, u, N, Q, hR.grow (by omega) hRS (fun i j g1 g2 g3 => ?_) ((spA_2 _ _ _ _ _ _).trans hb2) (fun j => oM _ _ (by omega) (by omega)) (oM _ _ (by omega) (by omega)) (oM _ _ (by omega) (by omega)), h1.to ((spA_2 _ _ _ _ _ _).trans hb2), hN⟩ ⟨fun i j g1 g2 => ?_, fun _ _ => by rw [spA_2, hb2]⟩ ⟨fun i j g1 => oM _ _ (by omega) (by omega), hm2⟩
                · unfold sp_L_addLevel
                  rw [hcv, hsp]
                  simp only [Option.bind_some]
                  rw [show rf 40 0 = 7 from rfl, spA_o (by omega), q7]
                  rfl
                · rw [spA_o (by omega), oC _ _ (by omega) (by omega)]
                · rw [spA_o (by omega), oC _ _ (by omega) (by omega)]
              · refine op_bad (t := 2) (r := 0) h (by decide) ?_ ?_
                · unfold sp_L_addLevel
                  rw [(hc0 _).mpr ((if_neg n6).trans (if_neg cm))]
                  simp
                · rw [hm1, if_neg n6', if_neg (by rw [← hmin]; exact cm)]
                  exact add98b n' (Or.inr rfl)
          · refine bad1 ?_ (by rw [hm0, if_pos (Int32.not_lt.mp cg)]; unfold lp_X6_addLevel_62; rw [if_pos rfl])
            unfold sp_X5_addLevel
            rw [a1]
            simp only [Option.bind_some]
            rw [b1]
            simp only [Option.bind_some]
            rw [c1]
            simp only [Option.bind_some]
            rw [d1]
            simp only [Option.bind_some]
            rw [show σ.1 (rf 40 0) 4 = nI L from h4, pl_0 n hS.sh (by omega)]
            simp only [Option.bind_some]
            rw [if_pos (ok_0 (by omega)), p1, if_neg cg]
        · refine bad1 ?_ ?_
          · unfold sp_X5_addLevel
            rw [a1]
            simp only [Option.bind_some]
            rw [b1]
            simp only [Option.bind_some]
            rw [c1]
            simp only [Option.bind_some]
            rw [d1]
            rfl
          · unfold sp_X6_addLevel
            rw [a2]
            simp only [Option.bind_some]
            rw [if_neg (by decide), b2]
            simp only [Option.bind_some]
            rw [if_neg (by decide), c2]
            simp only [Option.bind_some]
            rw [if_neg (by decide), d2]
            simp only [Option.bind_some]
            rw [if_pos trivial]
            unfold lp_X6_addLevel_62
            rw [if_pos rfl]
      · refine bad1 ?_ ?_
        · unfold sp_X5_addLevel
          rw [a1]
          simp only [Option.bind_some]
          rw [b1]
          simp only [Option.bind_some]
          rw [c1]
          rfl
        · unfold sp_X6_addLevel
          rw [a2]
          simp only [Option.bind_some]
          rw [if_neg (by decide), b2]
          simp only [Option.bind_some]
          rw [if_neg (by decide), c2]
          simp only [Option.bind_some]
          rw [if_pos trivial]
          unfold lp_X6_addLevel_62
          rw [if_pos rfl]
    · refine bad1 ?_ ?_
      · unfold sp_X5_addLevel
        rw [a1]
        simp only [Option.bind_some]
        rw [b1]
        rfl
      · unfold sp_X6_addLevel
        rw [a2]
        simp only [Option.bind_some]
        rw [if_neg (by decide), b2]
        simp only [Option.bind_some]
        rw [if_pos trivial]
        unfold lp_X6_addLevel_62
        rw [if_pos rfl]
  · refine bad1 ?_ ?_
    · unfold sp_X5_addLevel
      rw [a1]
      rfl
    · unfold sp_X6_addLevel
      rw [a2]
      simp only [Option.bind_some]
      rw [if_pos trivial]
      unfold lp_X6_addLevel_62
      rw [if_pos rfl]
/-! one memory for both: first the class, then the model -/
theorem RX.fm {B : Nat} {σ τ τ' : Mem} (h : RX B σ τ) (e : ∀ a b, 40 ≤ a → a ≤ 48 → τ'.1 a b = τ.1 a b) : RX B σ τ' := h.to (Nat.le_refl _) (fun _ _ _ _ _ _ => rfl) (fun _ _ => rfl) (fun a b h1 h2 _ _ => e _ _ (by omega) (by omega))
theorem RX.both {B : Nat} {σ τ : Mem} (h : RX B σ τ) (hf : FM σ τ) : RX B τ τ := h.to (Nat.le_refl _) (fun a b h1 _ _ _ => hf.1 _ _ (by omega)) (fun a _ => by rw [hf.2]) (fun _ _ _ _ _ _ => rfl)
theorem join_G {B B' : Nat} {c d : Mem → Option (Int32 × Mem)} (hop : ∀ σ τ, RX B σ τ → OpG B' σ τ (c σ) (d τ)) {σ : Mem} (h : RX B σ σ) : ∃ t σ1 r σ2, c σ = some (t, σ1) ∧ d σ1 = some (r, σ2) ∧ σ2.1 41 14 = t ∧ (t = 0 → σ2.1 49 0 = r) ∧ RX B' σ2 σ2 := by
  obtain ⟨t, σ1, _, _, e1, -, -, -, -, f1, -⟩ := hop σ σ h
  obtain ⟨t', σ1', r, σ2, g1, g2, g3, g4, g5, -, g7⟩ := hop σ σ1 (h.fm f1.1)
  rw [e1] at g1
  obtain ⟨rfl, rfl⟩ := Prod.mk.inj (Option.some.inj g1)
  exact ⟨t, σ1, r, σ2, e1, g2, g3, fun e => by rw [g7.1 _ _ (by omega)]; exact g4 e, g5.both g7⟩
theorem join_N {B B' : Nat} {c d : Mem → Option (Int32 × Mem)} (hop : ∀ σ τ, RX B σ τ → OpN B' σ τ (c σ) (d τ)) {σ : Mem} (h : RX B σ σ) : ∃ r σ1 σ2, c σ = some (r, σ1) ∧ d σ1 = some (r, σ2) ∧ σ2.1 41 14 = 0 ∧ RX B' σ2 σ2 := by
  obtain ⟨t, σ1, _, e1, -, -, -, f1, -⟩ := hop σ σ h
  obtain ⟨t', σ1', σ2, g1, g2, g3, g5, -, g7⟩ := hop σ σ1 (h.fm f1.1)
  rw [e1] at g1
  obtain ⟨rfl, rfl⟩ := Prod.mk.inj (Option.some.inj g1)
  exact ⟨t, σ1, σ2, e1, g2, g3, g5.both g7⟩
theorem join_D {B B' : Nat} {c : Mem → Option (Int32 × Mem)} {d : Mem → Option ((Int32 × Int32) × Mem)} (hop : ∀ σ τ, RX B σ τ → OpD B' σ τ (c σ) (d τ)) {σ : Mem} (h : RX B σ σ) : ∃ t σ1 r σ2, c σ = some (t, σ1) ∧ d σ1 = some (r, σ2) ∧ σ2.1 41 14 = t ∧ (t = 0 → σ2.1 50 0 = r.1 ∧ σ2.1 50 1 = r.2 ∧ ¬ r.2 = 0) ∧ RX B' σ2 σ2 := by
  obtain ⟨t, σ1, _, _, e1, -, -, -, -, f1, -⟩ := hop σ σ h
  obtain ⟨t', σ1', r, σ2, g1, g2, g3, g4, g5, -, g7⟩ := hop σ σ1 (h.fm f1.1)
  rw [e1] at g1
  obtain ⟨rfl, rfl⟩ := Prod.mk.inj (Option.some.inj g1)
  exact ⟨t, σ1, r, σ2, e1, g2, g3, fun e => by rw [g7.1 _ _ (by omega), g7.1 _ _ (by omega)]; exact g4 e, g5.both g7⟩
end
