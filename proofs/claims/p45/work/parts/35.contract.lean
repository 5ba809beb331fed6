/-! TEXT: contracts over a world that grows -/
abbrev AT (w : Tx) (sz : Nat) : Addr → Prop := va_A w sz
def PreT (K : Nat → Nat) (D : va_G) (tys : List (ClassId × FieldType)) (w : Tx) (sz : Nat) (U : State) : Prop := U.heap.size = sz ∧ va_P D vwCl w U.heap ∧ va_K D vwCl tys U ∧ va_D (AT w sz) w ∧ St (AT w sz) U U.heap ∧ TX K (AT w sz) U U.heap
def QcT (D : va_G) (w : Tx) (Po : Option Value → Tx → Prop) (sz : Nat) : Array Value → State → Outcome → State → Prop := fun _ st oc t => ∃ v w', Po v w' ∧ oc = .returned v ∧ va_P D vwCl w' t.heap ∧ va_D (AT w sz) w' ∧ va_F (AT w sz) st t
def MT (y : MethodName) (ws : List Cond) (rm : Room) (vs : List Value) (K : Nat → Nat) (D : va_G) (tys : List (ClassId × FieldType)) (w : Tx) (Po : Option Value → Tx → Prop) : Prop :=
  ∀ l : Launch, l.stackTraces = false → ∀ sz, vx_Met l y ws rm (va_Pc vs (PreT K D tys w sz)) (QcT D w Po sz) (fun _ _ _ => False) rm.cells rm.slots (AT w sz)
theorem TX.calling {K : Nat → Nat} {A : Nat → Prop} {U : State} {H : Heap} (h : TX K A U H) {g : JFrame} {mk : MethodId} {a : Array Value} : TX K A (U.calling g mk a) H := TX.next h (fun _ _ _ => rfl) (fun _ h => h) (State.WarmedH.refl U)
theorem preT_blind {vs : List Value} {K : Nat → Nat} {D : va_G} {tys : List (ClassId × FieldType)} {w : Tx} {sz : Nat} : FrameBlind (va_Pc vs (PreT K D tys w sz)) := by
  intro a U g mk h
  obtain ⟨h1, h2, h3, h4, h5, h6, h7⟩ := h
  exact ⟨h1, h2, h3, va_K.moved (u := U) (U := U.calling g mk a) (Vm.Alike.refl U.vm) h4, h5, St.calling h6, TX.calling h7⟩
/-- a contract out of a walk -/
theorem mt_of {y : MethodName} {ws ws' : List Cond} {cc : ByteArray} {maxL : Nat} {ret : Option FieldType} {rm : Room} {vs : List Value} {K : Nat → Nat} {D : va_G} {tys : List (ClassId × FieldType)} {w : Tx} {Po : Option Value → Tx → Prop} {v0 : Option Value} {w0 : Tx} (h0 : Po v0 w0) (hy : plainName y.cls = true) (hw : ws = Cond.code y cc maxL ret :: ws') (hlen : (lg_sl vs).length ≤ maxL)
    (body : ∀ x : Xt Tx, Cy y.name K Po x cc maxL y.cls ret [] ws rm D tys → Wt x D → J x (lv_args 0 vs) [] w 0 0 0) : MT y ws rm vs K D tys w Po := by
  intro l hst sz
  refine vx_ofW (cc := cc) (maxL := maxL) (ret := ret) hy hw ?_
  intro p e s m args below meth c s₁ B hml htab hv
  obtain ⟨rfl, hsz, hP, hK, hI, hSt, hTX⟩ := hv
  have hts := atoms_spec (ws := ws) B.pre
  have hX : Wt (((fun H locs k n g => W p l e (headSpec ws rm).room s m vs.toArray below meth c H locs k n (vx_MQ below (QcT D w Po sz) (fun _ _ _ => False) vs.toArray s rm.cells rm.slots (AT w sz)) g), m, maxL, (fun τ H => va_P D vwCl τ H ∧ va_D (AT w sz) τ), AT w sz, s.heap, (.inl v0, w0)) : Xt Tx) D :=
    ⟨fun _ _ => Iff.rfl, fun q hq => Or.inr (by rw [← hsz]; exact hq)⟩
  have htab' : c.exceptionTable.toList = [] := by
    cases h : c.exceptionTable.toList with
    | nil => rfl
    | cons a t => exact absurd (htab a (by rw [h]; exact List.mem_cons_self)) id
  have K := body _ ⟨p, l, e, s, vs.toArray, below, meth, c, QcT D w Po sz, (fun _ _ _ => False), AT w sz, fun _ _ _ _ _ => Iff.rfl, B.exec, B.bytes, hml, rfl, hts, findClass_of_methodNamed B.named, hK, B.returns, B.notSynchronized, htab', hst, rfl, hSt,
    (fun v τ H locs hg (hp : va_P D vwCl τ H ∧ va_D (AT w sz) τ) hS => ⟨fun t ht _ => ⟨v, τ, hg, rfl, by rw [ht]; exact hp.1, hp.2, hS.F ht⟩, hS.2.2⟩), ⟨v0, w0, rfl, h0⟩, hTX, (name_of_methodNamed B.named B.method).1⟩ hX
  have hl := lv_entry vs (n := maxL) hlen
  rw [lg_entry_eq]
  exact K s.heap [] _ hl ⟨hP, hI⟩ va_S.rf
