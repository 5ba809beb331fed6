/-! TEXT: arrays and objects that constructors make -/
section R40c
variable {K : Nat → Nat} {Po' : Option Value → Tx → Prop} {x : Xt Tx} {D : va_G} {cc : ByteArray} {mL : Nat} {own : String} {ret : Option FieldType} {tab : List ExceptionTableEntry} {Ts : List Cond} {R : Room} {tys : List (ClassId × FieldType)} {lo : List (Nat × Value)} {st st0 : List Value} {w wc wr : Tx} {pc kc ns : Nat}
theorem jt_newq (C : Cv K x cc mL own ret tab Ts R D tys) (X : Wt x D) {idx : Nat} {n : Int32} {N' : Nat} (d : decode cc pc = .ok (.anewarray idx, 3)) {Cn : String} (hao : ∀ U, NX U → va_AO Cn U) (t0 : Nat) {cA : ClassId} (ht : tys[t0]? = some (cA, .object Cn)) (hlk : Cond.classLink own idx Cn ∈ Ts) (hn0 : ¬ n < 0) (hN : n.toNatClampNeg = N') (hbytes : N' * 4 ≤ 536870912) (hcells : kc + 1 ≤ R.cells) (hslots : ns + N' ≤ R.slots)
    (k0 : ∀ q : Nat, J x lo (.ref q :: st) (w ++ [(q, .inl (cA, N', .inr (.inr (.inr (.inr (fun _ => none))))))]) (pc + 3) (kc + 1) (ns + N')) : J x lo (.int n :: st) w pc kc ns := by
  obtain ⟨p, l, e, s, args, below, meth, c, Qc, XC, free, hω, hx, hb, hml, hn, hts, hown, hK, hr, hlk9, htab, hst, hH0, hSt, hT⟩ := C
  intro H locs ls hl1 hP hS
  refine (hω _ _ _ _ _).mpr ?_
  refine va_newq (C := Cn) (N' := N') hx hb hown (hts _ hlk) (hao s hT.2.2.2.2.2.2.2.2) hK ((X.1 w H).mp hP).1 ((X.1 w H).mp hP).2 hS X.2 hn0 hN hbytes hcells hslots d (fun q cB H1 hK1 hP1 hD1 hS1 => ?_)
  obtain ⟨-, -, -, -, -, e1⟩ := (hK.2 t0 _ ht).2
  obtain ⟨-, -, -, -, -, e2⟩ := (hK1.2 tys.length (cB, .object Cn) (by simp)).2
  obtain rfl : cA = cB := Option.some.inj (e1.symm.trans e2)
  exact (hω _ _ _ _ _).mp (k0 q H1 locs ls hl1 ((X.1 _ H1).mpr ⟨hP1, hD1⟩) hS1)
/-- a new array of a primitive type -/
theorem jt_newP (C : Cx x cc mL own ret tab Ts R D tys) (X : Wt x D) {atype : ArrayType} {ty : FieldType} {n : Int32} {N' : Nat} (a0 : vp_A) (hty : newarray.typeOf atype = ty) (ha : ∀ cA : ClassId, vp_cell cA a0 = arrV cA N' (fun _ => defaultValue ty)) (d : decode cc pc = .ok (.newarray atype, 2)) (t0 : Nat) {cA : ClassId} (ht : tys[t0]? = some (cA, ty)) (hfc : ∀ (s : State) (c1 c2 : ClassId), va_RA s c1 ty → va_RA s c2 ty → c1 = c2) (harr : Cond.arrayClass (newarray.typeOf atype) ∈ Ts) (hn0 : ¬ n < 0) (hN : n.toNatClampNeg = N') (hbytes : N' * componentBytes ty ≤ 536870912) (hcells : kc + 1 ≤ R.cells) (hslots : ns + N' ≤ R.slots)
    (k0 : ∀ q : Nat, J x lo (.ref q :: st) (w ++ [(q, .inl (cA, a0))]) (pc + 2) (kc + 1) (ns + N')) : J x lo (.int n :: st) w pc kc ns := by
  obtain ⟨p, l, e, s, args, below, meth, c, Qc, XC, free, hω, hx, hb, hml, hn, hts, hown, hK, hr, hlk, htab, hst, hH0, hSt, hRet, hThr⟩ := C
  intro H locs ls hl1 hP hS
  refine (hω _ _ _ _ _).mpr ?_
  refine va_newa (a0 := a0) (ty := ty) (N' := N') hx hb (hts _ harr) hty hK ((X.1 w H).mp hP).1 ((X.1 w H).mp hP).2 hS X.2 ha hn0 hN hbytes hcells hslots d (fun q cB H1 hK1 hP1 hD1 hS1 => ?_)
  obtain rfl : cA = cB := hfc s cA cB (hK.2 t0 _ ht).2 (hK1.2 tys.length (cB, ty) (by simp)).2
  exact (hω _ _ _ _ _).mp (k0 q H1 locs ls hl1 ((X.1 _ H1).mpr ⟨hP1, hD1⟩) hS1)
theorem jt_aastN (C : Cx x cc mL own ret tab Ts R D tys) (X : Wt x D) {a n v j : Nat} {f : Nat → Option Nat} (d : decode cc pc = .ok (.aastore, 1)) (q0 t0 qk : Nat) {ci : Nat} {cA : ClassId} {r : vw_C} {vs : List Value} (he : w[q0]? = some (a, .inl (cA, n, .inr (.inr (.inr (.inr f)))))) (ht : tys[t0]? = some (cA, .object r.1)) (hv : w[qk]? = some (v, .inr (ci, vs))) (hc : vwCl[ci]? = some r) (hj : j < n) (hn : n < 100000)
    (k0 : J x lo st (w.set q0 (a, .inl (cA, n, .inr (.inr (.inr (.inr (va_up f j (some v)))))))) (pc + 1) kc ns) : J x lo (.ref v :: .int (nI j) :: .ref a :: st) w pc kc ns := by
  obtain ⟨p, l, e, s, args, below, meth, c, Qc, XC, free, hω, hx, hb, hml, hn9, hts, hown, hK, hr, hlk, htab, hst, hH0, hSt, hRet, hThr⟩ := C
  intro H locs ls hl1 hP hS
  refine (hω _ _ _ _ _).mpr ?_
  refine va_astq hx hb hK ((X.1 w H).mp hP).1 ((X.1 w H).mp hP).2 hS q0 t0 qk ci he ht hv hc (vp_in_nI hj (by omega)) d (fun H1 locs1 hP1 hD1 hS1 => ?_)
  rw [nI_cl (by omega)] at hP1 hD1
  exact (hω _ _ _ _ _).mp (k0 H1 locs1 ls hl1 ((X.1 _ H1).mpr ⟨hP1, hD1⟩) hS1)
theorem jt_iastN (C : Cx x cc mL own ret tab Ts R D tys) (X : Wt x D) {a n j : Nat} {v : Int32} {f : Nat → Int32} (d : decode cc pc = .ok (.iastore, 1)) (q0 t0 : Nat) {cA : ClassId} (he : w[q0]? = some (a, .inl (cA, n, .inl f))) (ht : tys[t0]? = some (cA, .int)) (hj : j < n) (hn : n < 100000) (k0 : J x lo st (w.set q0 (a, .inl (cA, n, .inl (upd f j v)))) (pc + 1) kc ns) : J x lo (.int v :: .int (nI j) :: .ref a :: st) w pc kc ns := by
  obtain ⟨p, l, e, s, args, below, meth, c, Qc, XC, free, hω, hx, hb, hml, hn9, hts, hown, hK, hr, hlk, htab, hst, hH0, hSt, hRet, hThr⟩ := C
  intro H locs ls hl1 hP hS
  refine (hω _ _ _ _ _).mpr ?_
  refine va_iast hx hb hK ((X.1 w H).mp hP).1 ((X.1 w H).mp hP).2 hS q0 t0 he ht (vp_in_nI hj (by omega)) d (fun H1 locs1 hP1 hD1 hS1 => ?_)
  rw [nI_cl (by omega)] at hP1 hD1
  exact (hω _ _ _ _ _).mp (k0 H1 locs1 ls hl1 ((X.1 _ H1).mpr ⟨hP1, hD1⟩) hS1)
/-- a private constructor of a nest mate -/
theorem jt_callIN (C : Cv K x cc mL own ret tab Ts R D tys) (X : Wt x D) {y : MethodName} {bytes : ByteArray} {maxL idx b n : Nat} {host : String} {wsM wsM' : List Cond} {rm : Room} {vs : List Value} (M : MT y wsM rm (.ref b :: vs) K D tys wc Po') (d : decode cc pc = .ok (.invokespecial idx, 3)) (hnx : ∀ U, NX U → va_Nw (.methodLinkNest own idx y host) U) (g : GoodIn Ts wsM) (hw : wsM = Cond.code y bytes maxL none :: wsM') (w1 : Cond.initialized y.cls ∈ Ts) (w3 : Cond.instanceMethod y ∈ Ts) (hy1 : y.name = "<init>") (hy : hyOk y n) (hlen : vs.length = n)
    (isC isR : List Nat) (hC : isC.map (fun i => w[i]?) = wc.map some) (hRr : isR.map (fun i => w[i]?) = wr.map some) (hnC : va_nd isC = true) (hnR : va_nd isR = true) (hdis : ∀ i ∈ isR, i ∉ isC) (hstk : st0 = vs.reverse ++ .ref b :: st) (hR : rm.frames + 1 ≤ R.frames ∧ 8 + (maxL + 11) + rm.locals ≤ R.locals) (hsum : (st.map fun v => v.category).sum ≤ 8) (hf : kc + rm.cells ≤ R.cells ∧ ns + rm.slots ≤ R.slots) (k0 : ∀ v w', Po' v w' → J x lo (v.toList ++ st) (wr ++ w') (pc + 3) (kc + rm.cells) (ns + rm.slots)) : J x lo st0 w pc kc ns := by
  obtain ⟨p, l, e, s, args, below, meth, c, Qc, XC, free, hω, hx, hb, hml, hn, hts, hown, hK, hr, hlk, htab, hst, hH0, hSt, hT⟩ := C
  intro H locs ls hl1 hP hS
  refine (hω _ _ _ _ _).mpr ?_
  obtain ⟨hP1, hD⟩ := (X.1 w H).mp hP
  have run : vx_Run p l e R s x.2.1 args below meth c H locs kc ns rm.cells rm.slots (F0 x.2.1 pc ls st0) st (QcT D wc Po' H.size (Value.ref b :: vs).toArray) (fun _ _ _ => False) (AT wc H.size) := vx_runIN (g := F0 x.2.1 pc ls st0) ⟨hx, hb, hml, hown, hts⟩ (M l hst H.size) ⟨va_cnB n hts g hw rfl rfl (hnx s hT.2.2.2.2.2.2.2.2) (hts _ w1) hy hR, hy1, hts _ w3⟩ ⟨preT_blind, preT_at X hH0 hK hSt hT hP hS isC hnC hC⟩ rfl hlen (hl1.1.trans hn) hstk (lv_room (m := x.2.1) (pc := pc) (ls := ls) (rest := st) hsum) d hf
  have hsub := va_free hD hS X.2 isC hC
  intro T hT' Y
  rcases run T hT' Y with ⟨v2, st₀, t, T', L, h0, Y', hL, e1, e2, ⟨v3, w', hpo, hv, hPw, hDw, hF⟩, stp⟩ | ⟨q2, st₀, t, T', L, E, ce, h0, Y', hL, e1, e2, hfalse, hce, hcv, hcl, stp⟩
  · cases hv
    obtain ⟨k1, k2, k3⟩ := vx_keep h0 e1 hS (fun q _ h => hsub q h) hsub hL hF
    obtain ⟨j1, j2⟩ := va_join hP1 hD isC isR hC hRr hnR hdis (H1 := T'.heap) k2 hsub (by rw [e1]; exact hPw) hDw
    obtain ⟨t2, a1, b1⟩ := (hω _ _ _ _ _).mp (k0 v2 w' hpo T'.heap (locs ++ L) ls hl1 ((X.1 _ _).mpr ⟨j1, j2⟩) k3) T' rfl Y'
    exact ⟨t2, stp t2 a1, b1⟩
  · exact absurd hfalse id
end R40c
theorem ra_int : ∀ (s : State) (c1 c2 : ClassId), va_RA s c1 .int → va_RA s c2 .int → c1 = c2 := fun _ _ _ h1 h2 => Option.some.inj (Eq.trans (Eq.symm h1) h2)
theorem ra_bool : ∀ (s : State) (c1 c2 : ClassId), va_RA s c1 .boolean → va_RA s c2 .boolean → c1 = c2 := fun _ _ _ h1 h2 => Option.some.inj (Eq.trans (Eq.symm h1) h2)
theorem ra_long : ∀ (s : State) (c1 c2 : ClassId), va_RA s c1 .long → va_RA s c2 .long → c1 = c2 := fun _ _ _ h1 h2 => Option.some.inj (Eq.trans (Eq.symm h1) h2)
theorem ra_double : ∀ (s : State) (c1 c2 : ClassId), va_RA s c1 .double → va_RA s c2 .double → c1 = c2 := fun _ _ _ h1 h2 => Option.some.inj (Eq.trans (Eq.symm h1) h2)
def upL : (Nat → Option Nat) → Nat → List Nat → (Nat → Option Nat)
  | f, _, [] => f
  | f, k, a :: L => upL (va_up f k (some a)) (k + 1) L
abbrev eLv (a : Nat) : Nat × va_E := (a, .inr (4, [.int 0, .int 0, .int 0, .int 0, .int 0, .int 0, .int 0, .int 0, .int 0, .int 0, .int 0]))
abbrev eRq (a : Nat) : Nat × va_E := (a, .inr (6, [.int 0, .int 0, .int 0, .int 0]))
abbrev eTp (a : Nat) : Nat × va_E := (a, .inr (7, [.int 45, .int 0, .int 0, .int 0, .int (-1)]))
abbrev eWt (a r : Nat) : Nat × va_E := (a, .inr (8, [.ref r, .int 0]))
abbrev eMn (a s p w t : Nat) : Nat × va_E := (a, .inr (5, [.ref s, .ref p, .ref w, .ref t, .int 0, .int 100, .int 20, .int 100, .int 0, .int 0, .int 0, .int 0, .int 0, .int 0, .int 0, .int (-1)]))
abbrev eAr (a : Nat) (c : ClassId) (n : Nat) (f : Nat → Option Nat) : Nat × va_E := (a, .inl (c, n, .inr (.inr (.inr (.inr f)))))
