/-! TEXT: the JDK's statics and the string constants -/
def litT : List String := ["flight", "down", "up", "ore", "none", " L", "min", "dduuoo"]
def litN : List Nat := [6, 4, 2, 3, 4, 2, 3, 6]
def litB : List (List Int32) := [[102, 108, 105, 103, 104, 116], [100, 111, 119, 110], [117, 112], [111, 114, 101], [110, 111, 110, 101], [32, 76], [109, 105, 110], [100, 100, 117, 117, 111, 111]]
/-- where the classes hold them: class, place, which literal -/
def litP : List (String × Nat × Nat) := [(RX3, 36, 0), (RX3, 38, 1), (RX3, 40, 2), (RX3, 42, 3), (RX3, 44, 4), (RX5, 264, 5), (RX5, 266, 6), (RL, 225, 7)]
/-- what the tables say beside the words: casts, nest mates, arrays of our classes -/
def NX (U : State) : Prop := va_Nw (.castable "[B" "java/lang/Cloneable") U ∧ va_Nw (.methodLinkNest RX1 11 yX0_init "MineHoist") U ∧ va_Nw (.methodLinkNest RX1 31 yX3_init "MineHoist") U ∧ va_Nw (.methodLinkNest RX4 17 yX2_init "MineHoist") U ∧ va_AO RX0 U ∧ va_AO RX2 U
theorem NX.warm {s U : State} (hW : s.WarmedH U.vm) (h : NX s) : NX U := ⟨va_Nw.warmC hW h.1, va_Nw.warmM hW h.2.1, va_Nw.warmM hW h.2.2.1, va_Nw.warmM hW h.2.2.2.1, va_AO.moved hW.alike h.2.2.2.2.1, va_AO.moved hW.alike h.2.2.2.2.2⟩
def TX (K : Nat → Nat) (A : Addr → Prop) (U : State) (H : Heap) : Prop :=
  vk_S 8 litN litB K (fun i => K (20 + i)) A U H ∧ va_Z "java/lang/String" "COMPACT_STRINGS" "Z" (.int 1) A U H ∧ va_Z "java/lang/Integer" "DigitOnes" "[B" (.ref (K 40)) A U H ∧ va_T .byte (K 40) 100 (fun j => .int (nI (48 + j % 10))) A U H ∧ va_Z "java/lang/Integer" "DigitTens" "[B" (.ref (K 41)) A U H ∧ va_T .byte (K 41) 100 (fun j => .int (nI (48 + j / 10))) A U H ∧ va_Zq "jdk/internal/util/Preconditions" "SIOOBE_FORMATTER" "Ljava/util/function/BiFunction;" A U H ∧ (∀ q ∈ litP, vk_R q.1 q.2.1 (litT.getD q.2.2 "") (K q.2.2) U) ∧ NX U
theorem TX.next {K : Nat → Nat} {A B : Addr → Prop} {s U : State} {H H1 : Heap} (h : TX K A s H) (hq : ∀ a : Nat, a < H.size → ¬ A a → H1[a]? = H[a]?) (hAB : ∀ q, B q → A q) (hW : s.WarmedH U.vm) : TX K B U H1 := by
  obtain ⟨a1, a2, a3, a4, a5, a6, a7, a8, a9⟩ := h
  exact ⟨((a1.kept hq).narrow hAB).moved hW.alike, ((a2.kept hq).narrow hAB).moved hW.alike, ((a3.kept hq).narrow hAB).moved hW.alike, ((a4.kept hq).narrow hAB).moved hW.alike, ((a5.kept hq).narrow hAB).moved hW.alike, ((a6.kept hq).narrow hAB).moved hW.alike, va_Zq.moved hW.alike ((a7.kept hq).narrow hAB), fun q hq2 => vk_R.warm hW (a8 q hq2), NX.warm hW a9⟩
/-- Cx, and the constants; what is owed at the end: a value and a state of Po (the record's own pair is one of these) -/
def Cy {S : Type} (nm : String) (K : Nat → Nat) (Po : Option Value → S → Prop) (x : Xt S) (cc : ByteArray) (mL : Nat) (own : String) (ret : Option FieldType) (tab : List ExceptionTableEntry) (Ts : List Cond) (R : Room) (D : va_G) (tys : List (ClassId × FieldType)) : Prop :=
  ∃ (p : Program) (l : Launch) (e : Env) (s : State) (args : Array Value) (below : List Frame) (meth : Method) (c : Code) (Qc : Array Value → State → Outcome → State → Prop) (XC : String → State → State → Prop) (free : Addr → Prop),
    (∀ H locs k n g, x.1 H locs k n g ↔ W p l e R s x.2.1 args below meth c H locs k n (vx_MQ below Qc XC args s R.cells R.slots free) g) ∧
    p.tables.exec = Jvm.exec ∧ c.code = cc ∧ c.maxLocals = mL ∧ x.2.2.1 = mL ∧ (∀ w ∈ Ts, w.before args s = true) ∧ s.vm.findClass own = some x.2.1.cls ∧ va_K D vwCl tys s ∧
    meth.sig.returnType = ret ∧ meth.locks = false ∧ c.exceptionTable.toList = tab ∧ l.stackTraces = false ∧ x.2.2.2.2.2.1 = s.heap ∧ St x.2.2.2.2.1 s s.heap ∧
    (∀ (v : Option Value) (σ : S) (H : Heap) (locs : List Loc), Po v σ → x.2.2.2.1 σ H → va_S x.2.2.2.2.1 s.heap H locs → (∀ t : State, t.heap = H → s.WarmedH t.vm → Qc args s (.returned v) t) ∧ ∀ q ∈ locs, free q.base) ∧
    (∃ v0 σ0, x.2.2.2.2.2.2 = (.inl v0, σ0) ∧ Po v0 σ0) ∧ TX K x.2.2.2.2.1 s s.heap ∧ meth.name = nm
theorem Cy.cx {S : Type} {nm : String} {K : Nat → Nat} {Po : Option Value → S → Prop} {x : Xt S} {cc : ByteArray} {mL : Nat} {own : String} {ret : Option FieldType} {tab : List ExceptionTableEntry} {Ts : List Cond} {R : Room} {D : va_G} {tys : List (ClassId × FieldType)} (h : Cy nm K Po x cc mL own ret tab Ts R D tys) : Cx x cc mL own ret tab Ts R D tys := by
  obtain ⟨p, l, e, s, args, below, meth, c, Qc, XC, free, hω, hx, hb, hml, hn, hts, hown, hK, hr, hlk, htab, hst, hH0, hSt, hRet, ⟨v0, σ0, h6, hPo⟩, -, -⟩ := h
  refine ⟨p, l, e, s, args, below, meth, c, Qc, XC, free, hω, hx, hb, hml, hn, hts, hown, hK, hr, hlk, htab, hst, hH0, hSt, fun v σ H locs h7 hP hS => ?_, fun E σ H locs h7 => ?_⟩
  · rw [h6] at h7
    obtain ⟨h8, h9⟩ := Prod.mk.inj h7
    refine hRet v σ H locs ?_ hP hS
    rw [← Sum.inl.inj h8, ← h9]
    exact hPo
  · rw [h6] at h7
    exact absurd (Prod.mk.inj h7).1 (by intro q; cases q)
/-- what the calls and the constants need of a context -/
def Cv {S : Type} (K : Nat → Nat) (x : Xt S) (cc : ByteArray) (mL : Nat) (own : String) (ret : Option FieldType) (tab : List ExceptionTableEntry) (Ts : List Cond) (R : Room) (D : va_G) (tys : List (ClassId × FieldType)) : Prop :=
  ∃ (p : Program) (l : Launch) (e : Env) (s : State) (args : Array Value) (below : List Frame) (meth : Method) (c : Code) (Qc : Array Value → State → Outcome → State → Prop) (XC : String → State → State → Prop) (free : Addr → Prop),
    (∀ H locs k n g, x.1 H locs k n g ↔ W p l e R s x.2.1 args below meth c H locs k n (vx_MQ below Qc XC args s R.cells R.slots free) g) ∧
    p.tables.exec = Jvm.exec ∧ c.code = cc ∧ c.maxLocals = mL ∧ x.2.2.1 = mL ∧ (∀ w ∈ Ts, w.before args s = true) ∧ s.vm.findClass own = some x.2.1.cls ∧ va_K D vwCl tys s ∧
    meth.sig.returnType = ret ∧ meth.locks = false ∧ c.exceptionTable.toList = tab ∧ l.stackTraces = false ∧ x.2.2.2.2.2.1 = s.heap ∧ St x.2.2.2.2.1 s s.heap ∧ TX K x.2.2.2.2.1 s s.heap
theorem Cy.cv {S : Type} {nm : String} {K : Nat → Nat} {Po : Option Value → S → Prop} {x : Xt S} {cc : ByteArray} {mL : Nat} {own : String} {ret : Option FieldType} {tab : List ExceptionTableEntry} {Ts : List Cond} {R : Room} {D : va_G} {tys : List (ClassId × FieldType)} (h : Cy nm K Po x cc mL own ret tab Ts R D tys) : Cv K x cc mL own ret tab Ts R D tys := by
  obtain ⟨p, l, e, s, args, below, meth, c, Qc, XC, free, hω, hx, hb, hml, hn, hts, hown, hK, hr, hlk, htab, hst, hH0, hSt, -, -, hT, -⟩ := h
  exact ⟨p, l, e, s, args, below, meth, c, Qc, XC, free, hω, hx, hb, hml, hn, hts, hown, hK, hr, hlk, htab, hst, hH0, hSt, hT⟩
section YROWS
variable {nm : String} {K : Nat → Nat} {Po : Option Value → Tx → Prop} {x : Xt Tx} {D : va_G} {cc : ByteArray} {mL : Nat} {own : String} {ret : Option FieldType} {tab : List ExceptionTableEntry} {Ts : List Cond} {R : Room} {tys : List (ClassId × FieldType)} {lo lo' : List (Nat × Value)} {st : List Value} {ws : Tx} {pc kc ns : Nat}
theorem jy_ldc (C : Cy nm K Po x cc mL own ret tab Ts R D tys) {idx i : Nat} (d : decode cc pc = .ok (.ldc idx, 2)) (h : (own, idx, i) ∈ litP) (k0 : J x lo (.ref (K i) :: st) ws (pc + 2) kc ns) : J x lo st ws pc kc ns := by
  obtain ⟨p, l, e, s, args, below, meth, c, Qc, XC, free, hω, hx, hb, hml, hn, hts, hown, hK, hr, hlk, htab, hst, hH0, hSt, hRet, h6, hT, hnm9⟩ := C
  intro H locs ls hl1 hP hS
  refine (hω _ _ _ _ _).mpr ?_
  exact va_ldcS hx hb hown (hT.2.2.2.2.2.2.2.1 _ h) d ((hω _ _ _ _ _).mp (k0 H locs ls hl1 hP hS))
theorem jy_compact (C : Cy nm K Po x cc mL own ret tab Ts R D tys) {idx : Nat} {ref : String} (d : decode cc pc = .ok (.getstatic idx, 3)) (hl : Cond.fieldLink own idx ref "COMPACT_STRINGS" "Z" ∈ Ts) (hsame : ref = "java/lang/String") (k0 : J x lo (.int 1 :: st) ws (pc + 3) kc ns) : J x lo st ws pc kc ns := by
  subst hsame
  obtain ⟨p, l, e, s, args, below, meth, c, Qc, XC, free, hω, hx, hb, hml, hn, hts, hown, hK, hr, hlk, htab, hst, hH0, hSt, hRet, h6, hT, hnm9⟩ := C
  intro H locs ls hl1 hP hS
  refine (hω _ _ _ _ _).mpr ?_
  exact va_gets hx hb hT.2.1 (by rw [← hH0]; exact hS) hown (hts _ hl) (fun _ h => h) d ((hω _ _ _ _ _).mp (k0 H locs ls hl1 hP hS))
theorem jy_coder (C : Cy nm K Po x cc mL own ret tab Ts R D tys) {idx i : Nat} (hi : i < 8) (d : decode cc pc = .ok (.getfield idx, 3)) (hl : Cond.fieldLink own idx "java/lang/String" "coder" "B" ∈ Ts) (k0 : J x lo (.int 0 :: st) ws (pc + 3) kc ns) : J x lo (.ref (K i) :: st) ws pc kc ns := by
  obtain ⟨p, l, e, s, args, below, meth, c, Qc, XC, free, hω, hx, hb, hml, hn, hts, hown, hK, hr, hlk, htab, hst, hH0, hSt, hRet, h6, hT, hnm9⟩ := C
  intro H locs ls hl1 hP hS
  refine (hω _ _ _ _ _).mpr ?_
  exact vk_getf hx hb (hT.1.1 i hi).2.1 (by rw [← hH0]; exact hS) hown (hts _ hl) (fun _ h => h) d ((hω _ _ _ _ _).mp (k0 H locs ls hl1 hP hS))
theorem jy_value (C : Cy nm K Po x cc mL own ret tab Ts R D tys) {idx i : Nat} (hi : i < 8) (d : decode cc pc = .ok (.getfield idx, 3)) (hl : Cond.fieldLink own idx "java/lang/String" "value" "[B" ∈ Ts) (k0 : J x lo (.ref (K (20 + i)) :: st) ws (pc + 3) kc ns) : J x lo (.ref (K i) :: st) ws pc kc ns := by
  obtain ⟨p, l, e, s, args, below, meth, c, Qc, XC, free, hω, hx, hb, hml, hn, hts, hown, hK, hr, hlk, htab, hst, hH0, hSt, hRet, h6, hT, hnm9⟩ := C
  intro H locs ls hl1 hP hS
  refine (hω _ _ _ _ _).mpr ?_
  exact vk_getf hx hb (hT.1.1 i hi).2.2.1 (by rw [← hH0]; exact hS) hown (hts _ hl) (fun _ h => h) d ((hω _ _ _ _ _).mp (k0 H locs ls hl1 hP hS))
theorem jy_alen (C : Cy nm K Po x cc mL own ret tab Ts R D tys) {i : Nat} (hi : i < 8) (d : decode cc pc = .ok (.arraylength, 1)) (k0 : J x lo (.int (nI (litN.getD i 0)) :: st) ws (pc + 1) kc ns) : J x lo (.ref (K (20 + i)) :: st) ws pc kc ns := by
  obtain ⟨p, l, e, s, args, below, meth, c, Qc, XC, free, hω, hx, hb, hml, hn, hts, hown, hK, hr, hlk, htab, hst, hH0, hSt, hRet, h6, hT, hnm9⟩ := C
  intro H locs ls hl1 hP hS
  refine (hω _ _ _ _ _).mpr ?_
  exact va_tlen hx hb (hT.1.1 i hi).2.2.2 (by rw [← hH0]; exact hS) rfl d ((hω _ _ _ _ _).mp (k0 H locs ls hl1 hP hS))
/-- the digits -/
theorem jy_ones (C : Cy nm K Po x cc mL own ret tab Ts R D tys) {k : Nat} (hk : k < 100) (d : decode cc pc = .ok (.baload, 1)) (k0 : J x lo (.int (nI (48 + k % 10)) :: st) ws (pc + 1) kc ns) : J x lo (.int (nI k) :: .ref (K 40) :: st) ws pc kc ns := by
  obtain ⟨p, l, e, s, args, below, meth, c, Qc, XC, free, hω, hx, hb, hml, hn, hts, hown, hK, hr, hlk, htab, hst, hH0, hSt, hRet, h6, hT, hnm9⟩ := C
  intro H locs ls hl1 hP hS
  refine (hω _ _ _ _ _).mpr ?_
  exact va_tb hx hb hT.2.2.2.1 (by rw [← hH0]; exact hS) (vp_in_nI hk (by omega)) (by rw [nI_cl (by omega)]) d ((hω _ _ _ _ _).mp (k0 H locs ls hl1 hP hS))
theorem jy_tens (C : Cy nm K Po x cc mL own ret tab Ts R D tys) {k : Nat} (hk : k < 100) (d : decode cc pc = .ok (.baload, 1)) (k0 : J x lo (.int (nI (48 + k / 10)) :: st) ws (pc + 1) kc ns) : J x lo (.int (nI k) :: .ref (K 41) :: st) ws pc kc ns := by
  obtain ⟨p, l, e, s, args, below, meth, c, Qc, XC, free, hω, hx, hb, hml, hn, hts, hown, hK, hr, hlk, htab, hst, hH0, hSt, hRet, h6, hT, hnm9⟩ := C
  intro H locs ls hl1 hP hS
  refine (hω _ _ _ _ _).mpr ?_
  exact va_tb hx hb hT.2.2.2.2.2.1 (by rw [← hH0]; exact hS) (vp_in_nI hk (by omega)) (by rw [nI_cl (by omega)]) d ((hω _ _ _ _ _).mp (k0 H locs ls hl1 hP hS))
/-- ends -/
theorem jy_ireturn {a : Int32} (C : Cy nm K Po x cc mL own (some .int) tab Ts R D tys) (d : decode cc pc = .ok (.ireturn, 1)) (hg : Po (some (.int a)) ws) (hk : kc ≤ R.cells) (hs : ns ≤ R.slots) : J x lo [.int a] ws pc kc ns := by
  obtain ⟨p, l, e, s, args, below, meth, c, Qc, XC, free, hω, hx, hb, hml, hn, hts, hown, hK, hr, hlk, htab, hst, hH0, hSt, hRet, h6, hT, hnm9⟩ := C
  intro H locs ls hl hP hS
  refine (hω _ _ _ _ _).mpr ?_
  rw [hH0] at hS
  obtain ⟨q1, q2⟩ := hRet _ ws H locs hg hP hS
  refine W.widen hk hs (vx_ret ?_)
  exact W.iret hx hb hr q1 q2 d hlk
theorem jy_areturn {a : Nat} {rt : FieldType} (C : Cy nm K Po x cc mL own (some rt) tab Ts R D tys) (hrt : (∃ n, rt = .object n) ∨ ∃ t, rt = .array t) (d : decode cc pc = .ok (.areturn, 1)) (hg : Po (some (.ref a)) ws) (hk : kc ≤ R.cells) (hs : ns ≤ R.slots) : J x lo [.ref a] ws pc kc ns := by
  obtain ⟨p, l, e, s, args, below, meth, c, Qc, XC, free, hω, hx, hb, hml, hn, hts, hown, hK, hr, hlk, htab, hst, hH0, hSt, hRet, h6, hT, hnm9⟩ := C
  intro H locs ls hl hP hS
  refine (hω _ _ _ _ _).mpr ?_
  rw [hH0] at hS
  obtain ⟨q1, q2⟩ := hRet _ ws H locs hg hP hS
  refine W.widen hk hs (vx_ret ?_)
  exact W.aret hx hb hr hrt (Or.inr ⟨_, rfl⟩) q1 q2 d hlk
theorem jy_return (C : Cy nm K Po x cc mL own none tab Ts R D tys) (d : decode cc pc = .ok (.return_, 1)) (hg : Po none ws) (hk : kc ≤ R.cells) (hs : ns ≤ R.slots) : J x lo [] ws pc kc ns := by
  obtain ⟨p, l, e, s, args, below, meth, c, Qc, XC, free, hω, hx, hb, hml, hn, hts, hown, hK, hr, hlk, htab, hst, hH0, hSt, hRet, h6, hT, hnm9⟩ := C
  intro H locs ls hl hP hS
  refine (hω _ _ _ _ _).mpr ?_
  rw [hH0] at hS
  obtain ⟨q1, q2⟩ := hRet _ ws H locs hg hP hS
  refine W.widen hk hs (vx_ret ?_)
  exact W.vret hx hb hr q1 q2 d hlk
end YROWS
