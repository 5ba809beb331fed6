/-! TEXT: methods that throw, methods with a table of their own -/
def XcT (D : va_G) (w : Tx) (Po : Tx → Prop) (E0 : String) (sz : Nat) : String → State → State → Prop := fun E st t => E = E0 ∧ ∃ w', Po w' ∧ va_P D vwCl w' t.heap ∧ va_D (AT w sz) w' ∧ va_F (AT w sz) st t
def MTX (y : MethodName) (ws : List Cond) (rm : Room) (vs : List Value) (K : Nat → Nat) (D : va_G) (tys : List (ClassId × FieldType)) (w : Tx) (E0 : String) (Po : Tx → Prop) : Prop :=
  ∀ l : Launch, l.stackTraces = false → ∀ sz, vx_Met l y ws rm (va_Pc vs (PreT K D tys w sz)) (fun _ _ _ _ => False) (XcT D w Po E0 sz) rm.cells rm.slots (AT w sz)
theorem Wt.grow {x : Xt Tx} {D : va_G} (X : Wt x D) : ∀ (τ : Tx) (H H1 : Heap), x.2.2.2.1 τ H → H.size ≤ H1.size → (∀ q : Nat, q < H.size → H1[q]? = H[q]?) → x.2.2.2.1 τ H1 := fun τ H H1 h _ hq => (X.1 τ H1).mpr ⟨va_P_kept ((X.1 τ H).mp h).1 hq, ((X.1 τ H).mp h).2⟩
theorem mtx_of {y : MethodName} {ws ws' : List Cond} {cc : ByteArray} {maxL : Nat} {ret : Option FieldType} {rm : Room} {vs : List Value} {K : Nat → Nat} {D : va_G} {tys : List (ClassId × FieldType)} {w w0 : Tx} {E0 : String} {Po : Tx → Prop} (h0 : Po w0) (hy : plainName y.cls = true) (hw : ws = Cond.code y cc maxL ret :: ws') (hlen : (lg_sl vs).length ≤ maxL)
    (body : ∀ x : Xt Tx, Cx x cc maxL y.cls ret [] ws rm D tys → Cv K x cc maxL y.cls ret [] ws rm D tys → Wt x D → x.2.2.2.2.2.2 = (.inr E0, w0) → J x (lv_args 0 vs) [] w 0 0 0) : MTX y ws rm vs K D tys w E0 Po := by
  intro l hst sz
  refine vx_ofW (cc := cc) (maxL := maxL) (ret := ret) hy hw ?_
  intro p e s m args below meth c s₁ B hml htab hv
  obtain ⟨rfl, hsz, hP, hK, hI, hSt, hTX⟩ := hv
  have hts := atoms_spec (ws := ws) B.pre
  have hX : Wt (((fun H locs k n g => W p l e (headSpec ws rm).room s m vs.toArray below meth c H locs k n (vx_MQ below (fun _ _ _ _ => False) (XcT D w Po E0 sz) vs.toArray s rm.cells rm.slots (AT w sz)) g), m, maxL, (fun τ H => va_P D vwCl τ H ∧ va_D (AT w sz) τ), AT w sz, s.heap, (.inr E0, w0)) : Xt Tx) D :=
    ⟨fun _ _ => Iff.rfl, fun q hq => Or.inr (by rw [← hsz]; exact hq)⟩
  have htab' : c.exceptionTable.toList = [] := by
    cases h : c.exceptionTable.toList with
    | nil => rfl
    | cons a t => exact absurd (htab a (by rw [h]; exact List.mem_cons_self)) id
  have K := body _ ⟨p, l, e, s, vs.toArray, below, meth, c, (fun _ _ _ _ => False), XcT D w Po E0 sz, AT w sz, fun _ _ _ _ _ => Iff.rfl, B.exec, B.bytes, hml, rfl, hts, findClass_of_methodNamed B.named, hK, B.returns, B.notSynchronized, htab', hst, rfl, hSt,
    (fun v τ H locs hg hp hS => absurd (Prod.mk.inj hg).1 (by intro q; cases q)),
    (fun E τ H locs hg (hp : va_P D vwCl τ H ∧ va_D (AT w sz) τ) hS => ⟨fun t _ h2 h3 => ⟨(Sum.inr.inj (Prod.mk.inj hg).1).symm, w0, h0, by rw [(Prod.mk.inj hg).2]; exact va_P_kept hp.1 h3, by rw [(Prod.mk.inj hg).2]; exact hp.2, Nat.le_trans hS.1 h2, fun q h4 h5 => (h3 q (Nat.lt_of_lt_of_le h4 hS.1)).trans (hS.2.1 q h4 h5)⟩, hS.2.2⟩)⟩
    ⟨p, l, e, s, vs.toArray, below, meth, c, (fun _ _ _ _ => False), XcT D w Po E0 sz, AT w sz, fun _ _ _ _ _ => Iff.rfl, B.exec, B.bytes, hml, rfl, hts, findClass_of_methodNamed B.named, hK, B.returns, B.notSynchronized, htab', hst, rfl, hSt, hTX⟩ hX rfl
  have hl := lv_entry vs (n := maxL) hlen
  rw [lg_entry_eq]
  exact K s.heap [] _ hl ⟨hP, hI⟩ va_S.rf
/-- a contract out of a walk, the method with a table -/
theorem mt_ofW {y : MethodName} {ws ws' : List Cond} {cc : ByteArray} {maxL : Nat} {ret : Option FieldType} {hh : List (Nat × Nat × Nat × Nat)} {rm : Room} {vs : List Value} {K : Nat → Nat} {D : va_G} {tys : List (ClassId × FieldType)} {w : Tx} {Po : Option Value → Tx → Prop} {v0 : Option Value} {w0 : Tx} (h0 : Po v0 w0) (hy : plainName y.cls = true) (hw : ws = Cond.codeWith y cc maxL ret hh :: ws') (hlen : (lg_sl vs).length ≤ maxL)
    (body : ∀ x : Xt Tx, Cy y.name K Po x cc maxL y.cls ret (tableOf hh) ws rm D tys → Wt x D → J x (lv_args 0 vs) [] w 0 0 0) : MT y ws rm vs K D tys w Po := by
  intro l hst sz
  refine vx_ofWH (cc := cc) (maxL := maxL) (ret := ret) hy hw ?_
  intro p e s m args below meth c s₁ B hml hv
  obtain ⟨rfl, hsz, hP, hK, hI, hSt, hTX⟩ := hv
  have hts := atoms_spec (ws := ws) B.pre
  have hX : Wt (((fun H locs k n g => W p l e (headSpec ws rm).room s m vs.toArray below meth c H locs k n (vx_MQ below (QcT D w Po sz) (fun _ _ _ => False) vs.toArray s rm.cells rm.slots (AT w sz)) g), m, maxL, (fun τ H => va_P D vwCl τ H ∧ va_D (AT w sz) τ), AT w sz, s.heap, (.inl v0, w0)) : Xt Tx) D :=
    ⟨fun _ _ => Iff.rfl, fun q hq => Or.inr (by rw [← hsz]; exact hq)⟩
  have htab' : c.exceptionTable.toList = tableOf hh := vx_table (x := y) B (hts _ (by rw [hw]; exact List.mem_cons_self))
  have K := body _ ⟨p, l, e, s, vs.toArray, below, meth, c, QcT D w Po sz, (fun _ _ _ => False), AT w sz, fun _ _ _ _ _ => Iff.rfl, B.exec, B.bytes, hml, rfl, hts, findClass_of_methodNamed B.named, hK, B.returns, B.notSynchronized, htab', hst, rfl, hSt,
    (fun v τ H locs hg (hp : va_P D vwCl τ H ∧ va_D (AT w sz) τ) hS => ⟨fun t ht _ => ⟨v, τ, hg, rfl, by rw [ht]; exact hp.1, hp.2, hS.F ht⟩, hS.2.2⟩), ⟨v0, w0, rfl, h0⟩, hTX, (name_of_methodNamed B.named B.method).1⟩ hX
  have hl := lv_entry vs (n := maxL) hlen
  rw [lg_entry_eq]
  exact K s.heap [] _ hl ⟨hP, hI⟩ va_S.rf
section R40b
variable {K : Nat → Nat} {Pw : Tx → Prop} {x : Xt Tx} {D : va_G} {cc : ByteArray} {mL : Nat} {own : String} {ret : Option FieldType} {tab : List ExceptionTableEntry} {Ts : List Cond} {R : Room} {tys : List (ClassId × FieldType)} {lo : List (Nat × Value)} {st st0 : List Value} {w wc wr : Tx} {pc kc ns : Nat}
/-- a call that throws, caught here -/
theorem jt_catV (C : Cv K x cc mL own ret tab Ts R D tys) (X : Wt x D) {y : MethodName} {bytes : ByteArray} {maxL idx b n : Nat} {ret' : Option FieldType} {wsM wsM' : List Cond} {rm : Room} {vs : List Value} {E0 : String} (M : MTX y wsM rm (.ref b :: vs) K D tys wc E0 Pw) (d : decode cc pc = .ok (.invokevirtual idx, 3)) (g : GoodIn Ts (wsV own idx y.cls y wsM)) (hw : wsM = Cond.code y bytes maxL ret' :: wsM') (hy : hyOk y n) (hlen : vs.length = n) (q0 : Nat) {ci : Nat} {q : vw_C} {fs : List Value} (he : w[q0]? = some (b, .inr (ci, fs))) (hc : vwCl[ci]? = some q) (hq : q.1 = y.cls)
    (isC isR : List Nat) (hC : isC.map (fun i => w[i]?) = wc.map some) (hRr : isR.map (fun i => w[i]?) = wr.map some) (hnC : va_nd isC = true) (hnR : va_nd isR = true) (hdis : ∀ i ∈ isR, i ∉ isC) (hstk : st0 = vs.reverse ++ .ref b :: st) (hR : rm.frames + 1 ≤ R.frames ∧ 8 + (maxL + 11) + rm.locals ≤ R.locals) (hsum : (st.map fun v => v.category).sum ≤ 8) (hf : kc + rm.cells ≤ R.cells ∧ ns + rm.slots ≤ R.slots)
    (pre : List ExceptionTableEntry) (e0 : ExceptionTableEntry) (suf : List ExceptionTableEntry) (hsp : tab = pre ++ e0 :: suf) (hpass : ∀ z ∈ pre, z.catchType ≠ 0 ∧ ∃ nm : String, Cond.classLink own z.catchType nm ∈ Ts ∧ nm ∈ excs ∧ E0 ≠ nm) (hcov : covers e0 pc = true) (hct : e0.catchType ≠ 0) (hl9 : Cond.classLink own e0.catchType E0 ∈ Ts) (hex : E0 ∈ excs) (k0 : ∀ (q : Nat) (w' : Tx), Pw w' → J x lo [.ref q] (wr ++ w') e0.handlerPc (kc + rm.cells) (ns + rm.slots)) : J x lo st0 w pc kc ns := by
  obtain ⟨p, l, e, s, args, below, meth, c, Qc, XC, free, hω, hx, hb, hml, hn, hts, hown, hK, hr, hlk, htab, hst, hH0, hSt, hT⟩ := C
  intro H locs ls hl1 hP hS
  refine (hω _ _ _ _ _).mpr ?_
  obtain ⟨hP1, hD⟩ := (X.1 w H).mp hP
  have hrv := va_recv hK hP1 hc he
  rw [hq] at hrv
  have run : vx_Run p l e R s x.2.1 args below meth c H locs kc ns rm.cells rm.slots (F0 x.2.1 pc ls st0) st ((fun _ _ _ _ => False : Array Value → State → Outcome → State → Prop) (Value.ref b :: vs).toArray) (XcT D wc Pw E0 H.size) (AT wc H.size) := vx_runV (g := F0 x.2.1 pc ls st0) ⟨hx, hb, hml, hown, hts⟩ (M l hst H.size) (cwV n hts g hw rfl rfl ⟨rfl, hy.1, hy.2.1, hy.2.2⟩ hR) ⟨preT_blind, hrv, preT_at X hH0 hK hSt hT hP hS isC hnC hC⟩ rfl hlen (hl1.1.trans hn) hstk (lv_room (m := x.2.1) (pc := pc) (ls := ls) (rest := st) hsum) d hf
  have hsub := va_free hD hS X.2 isC hC
  intro T hT' Y
  rcases run T hT' Y with ⟨v2, st₀, t, T', L, h0, Y', hL, e1, e2, hfalse, stp⟩ | ⟨q2, st₀, t, T', L, E, ce, h0, Y', hL, e1, e2, ⟨ho, w', hpo, hPw, hDw, hF⟩, hce, hcv, hcl, stp⟩
  · exact absurd hfalse id
  · subst ho
    obtain ⟨k1, k2, k3⟩ := vx_keep h0 e1 hS (fun q _ h => hsub q h) hsub hL hF
    obtain ⟨j1, j2⟩ := va_join hP1 hD isC isR hC hRr hnR hdis (H1 := T'.heap) k2 hsub (by rw [e1]; exact hPw) hDw
    obtain ⟨t2, a1, b1⟩ := vx_catch (pc := pc) (ls := ls) (rest := st) (p := p) (l := l) (e := e) (below := below) (R := R) (args := args) (cells := kc + rm.cells) (slots := ns + rm.slots) (locs := locs ++ L) (H := T'.heap) (Q := vx_MQ below Qc XC args s R.cells R.slots free) (meth := meth) hown pre e0 suf (by rw [htab, hsp]) (fun z hz => by
      obtain ⟨z1, nm, z2, z3, z4⟩ := hpass z hz
      exact Or.inr ⟨z1, nm, hts _ z2, hSt.2.2.2.2.2 _ hex _ z3 z4⟩) hcov hct (hts _ hl9) (va_Nw.use (A := args) rfl (hSt.2.2.2.1 _ hex)) (by rw [e1]; exact hce) hcv hcl ((hω _ _ _ _ _).mp (k0 q2 w' hpo T'.heap (locs ++ L) ls hl1 ((X.1 _ _).mpr ⟨j1, j2⟩) k3)) T' rfl Y'
    exact ⟨t2, stp.trans a1, b1⟩
theorem jt_last (C : Cx x cc mL own ret tab Ts R D tys) (X : Wt x D) {a n : Nat} {i v : Int32} {u : Int64} {f : Nat → Int32} (d : decode cc pc = .ok (.lastore, 1)) (q0 t0 : Nat) {cA : ClassId} (he : w[q0]? = some (a, .inl (cA, n, .inr (.inl (fun j => (f j).toInt64))))) (ht : tys[t0]? = some (cA, .long)) (hw : v.toInt64 = u) (hin : vp_in i n) (k0 : J x lo st (w.set q0 (a, .inl (cA, n, .inr (.inl (fun j => (upd f i.toNatClampNeg v j).toInt64))))) (pc + 1) kc ns) : J x lo (.long u :: .int i :: .ref a :: st) w pc kc ns := by
  subst hw
  obtain ⟨p, l, e, s, args, below, meth, c, Qc, XC, free, hω, hx, hb, hml, hn, hts, hown, hK, hr, hlk, htab, hst, hH0, hSt, hRet, hThr⟩ := C
  intro H locs ls hl1 hP hS
  refine (hω _ _ _ _ _).mpr ?_
  have e9 : (fun j => (upd f i.toNatClampNeg v j).toInt64) = vp_updL (fun j => (f j).toInt64) i.toNatClampNeg v.toInt64 := funext fun q => by by_cases h : q = i.toNatClampNeg <;> simp [vp_updL, upd, h]
  rw [e9] at k0
  exact va_last hx hb hK ((X.1 w H).mp hP).1 ((X.1 w H).mp hP).2 hS q0 t0 he ht hin d (fun H1 locs1 hP1 hD1 hS1 => (hω _ _ _ _ _).mp (k0 H1 locs1 ls hl1 ((X.1 _ H1).mpr ⟨hP1, hD1⟩) hS1))
theorem jt_ialdN (C : Cx x cc mL own ret tab Ts R D tys) (X : Wt x D) {a n j : Nat} {f : Nat → Int32} (d : decode cc pc = .ok (.iaload, 1)) (q0 t0 : Nat) {cA : ClassId} (he : w[q0]? = some (a, .inl (cA, n, .inl f))) (ht : tys[t0]? = some (cA, .int)) (hj : j < n) (hn : n < 100000) (k0 : J x lo (.int (f j) :: st) w (pc + 1) kc ns) : J x lo (.int (nI j) :: .ref a :: st) w pc kc ns := by
  obtain ⟨p, l, e, s, args, below, meth, c, Qc, XC, free, hω, hx, hb, hml, hn9, hts, hown, hK, hr, hlk, htab, hst, hH0, hSt, hRet, hThr⟩ := C
  intro H locs ls hl1 hP hS
  refine (hω _ _ _ _ _).mpr ?_
  refine va_iald hx hb hK ((X.1 w H).mp hP).1 q0 t0 he ht (vp_in_nI hj (by omega)) d ?_
  rw [nI_cl (by omega)]
  exact (hω _ _ _ _ _).mp (k0 H locs ls hl1 hP hS)
end R40b
