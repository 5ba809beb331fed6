/-! TEXT: rows of the judgement over a world that grows: the state is the list of (address, what lies there) -/
abbrev Tx : Type := va_W
def Wt (x : Xt Tx) (D : va_G) : Prop := (∀ ws H, x.2.2.2.1 ws H ↔ (va_P D vwCl ws H ∧ va_D x.2.2.2.2.1 ws)) ∧ ∀ q : Nat, x.2.2.2.2.2.1.size ≤ q → x.2.2.2.2.1 q
section TROWS
variable {x : Xt Tx} {D : va_G} {cc : ByteArray} {mL : Nat} {own : String} {ret : Option FieldType} {tab : List ExceptionTableEntry} {Ts : List Cond} {R : Room} {tys : List (ClassId × FieldType)} {lo lo' : List (Nat × Value)} {st : List Value} {ws : Tx} {pc kc ns : Nat}
theorem jt_get (C : Cx x cc mL own ret tab Ts R D tys) (X : Wt x D) {idx a : Nat} (d : decode cc pc = .ok (.getfield idx, 3)) (q0 : Nat) {ci N : Nat} {Cn Dn nm ds : String} {T : u_T} {fin : Bool} {fs : List Value} {v : Value} (he : ws[q0]? = some (a, .inr (ci, fs))) (hc : vwCl[ci]? = some (Cn, T, N)) (k : Nat) (hk : k < N) (hT : T k = (Dn, nm, ds, fin)) (hv : fs[k]? = some v) (hin : ∀ w ∈ u_ws Cn T N, w ∈ Ts) {ref : String} (hsame : ∀ (s : State) y, s.fieldFound? Dn nm ds = some y → s.fieldFound? ref nm ds = some y) (hl : Cond.fieldLink own idx ref nm ds ∈ Ts) (k0 : J x lo (v :: st) ws (pc + 3) kc ns) : J x lo (.ref a :: st) ws pc kc ns := by
  obtain ⟨p, l, e, s, args, below, meth, c, Qc, XC, free, hω, hx, hb, hml, hn, hts, hown, hK, hr, hlk, htab, hst, hH0, hSt, hRet, hThr⟩ := C
  intro H locs ls hl1 hP hS
  refine (hω _ _ _ _ _).mpr ?_
  refine va_get hx hb hts hin hown hK ((X.1 ws H).mp hP).1 q0 (fs := fs) (ci := ci) he hc k hk (ref := ref) (by rw [hT]; exact hts _ hl) (fun y hy => by rw [hT] at hy ⊢; exact hsame _ y hy) hv d ((hω _ _ _ _ _).mp (k0 H locs ls hl1 hP hS))
theorem jt_put (C : Cx x cc mL own ret tab Ts R D tys) (X : Wt x D) {idx a : Nat} {v : Value} (d : decode cc pc = .ok (.putfield idx, 3)) (q0 : Nat) {ci N : Nat} {Cn Dn nm ds : String} {T : u_T} {fs : List Value} {ty0 : Nat → FieldType} {ty : FieldType} (he : ws[q0]? = some (a, .inr (ci, fs))) (hc : vwCl[ci]? = some (Cn, T, N)) (k : Nat) (hk : k < N) (hT : T k = (Dn, nm, ds, false)) (hlen : k < fs.length) (hty : ∀ k, k < N → parseFieldDescriptor (T k).2.2.1 = some (ty0 k)) (hnm : ∀ a, a < N → ∀ b, b < N → a ≠ b → (T a).2.1 ≠ (T b).2.1) (hd : ty0 k = ty) (hn9 : narrow ty v = v) (hf9 : fits ty v = true) (hin : ∀ w ∈ u_ws Cn T N, w ∈ Ts) {ref : String} (hsame : ∀ (s : State) y, s.fieldFound? Dn nm ds = some y → s.fieldFound? ref nm ds = some y) (hl : Cond.fieldLink own idx ref nm ds ∈ Ts) (k0 : J x lo st (ws.set q0 (a, .inr (ci, fs.set k v))) (pc + 3) kc ns) : J x lo (v :: .ref a :: st) ws pc kc ns := by
  obtain ⟨p, l, e, s, args, below, meth, c, Qc, XC, free, hω, hx, hb, hml, hn, hts, hown, hK, hr, hlk, htab, hst, hH0, hSt, hRet, hThr⟩ := C
  intro H locs ls hl1 hP hS
  refine (hω _ _ _ _ _).mpr ?_
  refine va_put hx hb hts hin ty0 hty hnm hown hK ((X.1 ws H).mp hP).1 ((X.1 ws H).mp hP).2 hS q0 (fs := fs) (ci := ci) he hc k hk (ref := ref) (by rw [hT]; exact hts _ hl) (fun y hy => by rw [hT] at hy ⊢; exact hsame _ y hy) (by rw [hT]) (ty := ty) (by rw [hty k hk, hd]) hn9 hf9 hlen d (fun H1 locs1 hP1 hD1 hS1 => ?_)
  exact (hω _ _ _ _ _).mp (k0 H1 locs1 ls hl1 ((X.1 _ H1).mpr ⟨hP1, hD1⟩) hS1)
theorem jt_alen (C : Cx x cc mL own ret tab Ts R D tys) (X : Wt x D) {a : Nat} (d : decode cc pc = .ok (.arraylength, 1)) (q0 t0 : Nat) {cA : ClassId} {y : vp_A} {ty : FieldType} (he : ws[q0]? = some (a, .inl (cA, y))) (ht : tys[t0]? = some (cA, ty)) (v : Int32) (hv : Int32.ofNat y.1 = v) (k0 : J x lo (.int v :: st) ws (pc + 1) kc ns) : J x lo (.ref a :: st) ws pc kc ns := by
  obtain ⟨p, l, e, s, args, below, meth, c, Qc, XC, free, hω, hx, hb, hml, hn, hts, hown, hK, hr, hlk, htab, hst, hH0, hSt, hRet, hThr⟩ := C
  intro H locs ls hl1 hP hS
  refine (hω _ _ _ _ _).mpr ?_
  exact va_alen hx hb hK ((X.1 ws H).mp hP).1 q0 t0 he ht hv d ((hω _ _ _ _ _).mp (k0 H locs ls hl1 hP hS))
theorem jt_bald (C : Cx x cc mL own ret tab Ts R D tys) (X : Wt x D) {a n : Nat} {i : Int32} {f : Nat → Int32} (d : decode cc pc = .ok (.baload, 1)) (q0 t0 : Nat) {cA : ClassId} (he : ws[q0]? = some (a, .inl (cA, n, .inl f))) (ht : tys[t0]? = some (cA, .byte)) (hin : vp_in i n) (k0 : J x lo (.int (f i.toNatClampNeg) :: st) ws (pc + 1) kc ns) : J x lo (.int i :: .ref a :: st) ws pc kc ns := by
  obtain ⟨p, l, e, s, args, below, meth, c, Qc, XC, free, hω, hx, hb, hml, hn, hts, hown, hK, hr, hlk, htab, hst, hH0, hSt, hRet, hThr⟩ := C
  intro H locs ls hl1 hP hS
  refine (hω _ _ _ _ _).mpr ?_
  exact va_bald hx hb hK ((X.1 ws H).mp hP).1 q0 t0 he ht hin d ((hω _ _ _ _ _).mp (k0 H locs ls hl1 hP hS))
theorem jt_bast (C : Cx x cc mL own ret tab Ts R D tys) (X : Wt x D) {a n : Nat} {i v : Int32} {f : Nat → Int32} (d : decode cc pc = .ok (.bastore, 1)) (q0 t0 : Nat) {cA : ClassId} (he : ws[q0]? = some (a, .inl (cA, n, .inl f))) (ht : tys[t0]? = some (cA, .byte)) (hin : vp_in i n) (k0 : J x lo st (ws.set q0 (a, .inl (cA, n, .inl (upd f i.toNatClampNeg (vp_nar .byte v))))) (pc + 1) kc ns) : J x lo (.int v :: .int i :: .ref a :: st) ws pc kc ns := by
  obtain ⟨p, l, e, s, args, below, meth, c, Qc, XC, free, hω, hx, hb, hml, hn, hts, hown, hK, hr, hlk, htab, hst, hH0, hSt, hRet, hThr⟩ := C
  intro H locs ls hl1 hP hS
  refine (hω _ _ _ _ _).mpr ?_
  exact va_bast hx hb hK ((X.1 ws H).mp hP).1 ((X.1 ws H).mp hP).2 hS q0 t0 he ht hin d (fun H1 locs1 hP1 hD1 hS1 => (hω _ _ _ _ _).mp (k0 H1 locs1 ls hl1 ((X.1 _ H1).mpr ⟨hP1, hD1⟩) hS1))
/-- a new byte array: byte arrays have one class -/
theorem jt_newb (C : Cx x cc mL own ret tab Ts R D tys) (X : Wt x D) {n : Int32} {N' : Nat} (d : decode cc pc = .ok (.newarray .byte, 2)) (t0 : Nat) {cB : ClassId} (ht : tys[t0]? = some (cB, .byte)) (harr : Cond.arrayClass (newarray.typeOf .byte) ∈ Ts) (hn0 : ¬ n < 0) (hN : n.toNatClampNeg = N') (hbytes : N' ≤ 536870912) (hcells : kc + 1 ≤ R.cells) (hslots : ns + N' ≤ R.slots)
    (k0 : ∀ q : Nat, J x lo (.ref q :: st) (ws ++ [(q, .inl (cB, N', .inl (fun _ => 0)))]) (pc + 2) (kc + 1) (ns + N')) : J x lo (.int n :: st) ws pc kc ns := by
  obtain ⟨p, l, e, s, args, below, meth, c, Qc, XC, free, hω, hx, hb, hml, hn, hts, hown, hK, hr, hlk, htab, hst, hH0, hSt, hRet, hThr⟩ := C
  intro H locs ls hl1 hP hS
  refine (hω _ _ _ _ _).mpr ?_
  refine va_newa (a0 := (N', .inl (fun _ => 0))) (ty := .byte) (N' := N') hx hb (hts _ harr) rfl hK ((X.1 ws H).mp hP).1 ((X.1 ws H).mp hP).2 hS X.2 (fun cA => rfl) hn0 hN (by show N' * 1 ≤ _; omega) hcells hslots d (fun q cA H1 hK1 hP1 hD1 hS1 => ?_)
  have e1 : s.vm.findClass ("[" ++ FieldType.byte.toString) = some cB := (hK.2 t0 _ ht).2
  have e2 : s.vm.findClass ("[" ++ FieldType.byte.toString) = some cA := (hK1.2 tys.length (cA, .byte) (by simp)).2
  obtain rfl : cB = cA := Option.some.inj (e1.symm.trans e2)
  exact (hω _ _ _ _ _).mp (k0 q H1 locs ls hl1 ((X.1 _ H1).mpr ⟨hP1, hD1⟩) hS1)
/-- System.arraycopy of bytes, from one array of the world to another -/
theorem jt_copy (C : Cx x cc mL own ret tab Ts R D tys) (X : Wt x D) {idx a a0 : Nat} (d : decode cc pc = .ok (.invokestatic idx, 3)) (q0 q1 t0 : Nat) {cB : ClassId} {n0 n1 : Nat} {f g : Nat → Int32} (h0 : ws[q0]? = some (a0, .inl (cB, n0, .inl f))) (h1 : ws[q1]? = some (a, .inl (cB, n1, .inl g))) (ht : tys[t0]? = some (cB, .byte)) (w1 : Cond.methodLink own idx arraycopyName ∈ Ts) (w2 : Cond.native arraycopyName ∈ Ts) (w3 : Cond.static arraycopyName ∈ Ts) (w4 : Cond.initialized "java/lang/System" ∈ Ts)
    {sp dp n : Int32} (g1 : ¬ sp < 0) (g2 : ¬ dp < 0) (g3 : ¬ n < 0) (g4 : sp.toNatClampNeg + n.toNatClampNeg ≤ n0) (g5 : dp.toNatClampNeg + n.toNatClampNeg ≤ n1) (hfit : ∀ i, i < n.toNatClampNeg → fits .byte (.int (f (sp.toNatClampNeg + i))) = true) (hfr : 1 ≤ R.frames) (hlo : (st.map fun v => v.category).sum + (nativeFrameWords "java/lang/System" "arraycopy" 5 + 11) ≤ R.locals)
    (k0 : J x lo st (ws.set q1 (a, .inl (cB, n1, .inl (va_cpy f g sp.toNatClampNeg dp.toNatClampNeg n.toNatClampNeg)))) (pc + 3) kc ns) : J x lo (.int n :: .int dp :: .ref a :: .int sp :: .ref a0 :: st) ws pc kc ns := by
  obtain ⟨p, l, e, s, args, below, meth, c, Qc, XC, free, hω, hx, hb, hml, hn, hts, hown, hK, hr, hlk, htab, hst, hH0, hSt, hRet, hThr⟩ := C
  intro H locs ls hl1 hP hS
  refine (hω _ _ _ _ _).mpr ?_
  exact va_copyi hx hb (by rw [hml, ← hn]; exact hl1.1.symm) hown (hts _ w1) (hts _ w2) (hts _ w3) (hts _ w4) hK ((X.1 ws H).mp hP).1 ((X.1 ws H).mp hP).2 hS q0 q1 t0 t0 h0 h1 ht ht rfl g1 g2 g3 g4 g5 hfit hfr hlo d (fun H1 locs1 hP1 hD1 hS1 => (hω _ _ _ _ _).mp (k0 H1 locs1 ls hl1 ((X.1 _ H1).mpr ⟨hP1, hD1⟩) hS1))
/-- a new object -/
theorem jt_new (C : Cx x cc mL own ret tab Ts R D tys) (X : Wt x D) {idx : Nat} (d : decode cc pc = .ok (.new idx, 3)) {ci N : Nat} {Cn : String} {T : u_T} (hc : vwCl[ci]? = some (Cn, T, N)) (hin : ∀ w ∈ u_ws Cn T N, w ∈ Ts) (ty : Nat → FieldType) (hty : ∀ k, k < N → parseFieldDescriptor (T k).2.2.1 = some (ty k)) (w1 : Cond.classLink own idx Cn ∈ Ts) (w2 : Cond.instantiable Cn N ∈ Ts) (w3 : Cond.initialized Cn ∈ Ts) {fs : List Value} (hfs : ∀ j, j < N → defaultValue (ty j) = vp_V fs j) (hcells : kc + 1 ≤ R.cells) (hslots : ns + N ≤ R.slots)
    (k0 : ∀ q : Nat, J x lo (.ref q :: st) (ws ++ [(q, .inr (ci, fs))]) (pc + 3) (kc + 1) (ns + N)) : J x lo st ws pc kc ns := by
  obtain ⟨p, l, e, s, args, below, meth, c, Qc, XC, free, hω, hx, hb, hml, hn, hts, hown, hK, hr, hlk, htab, hst, hH0, hSt, hRet, hThr⟩ := C
  intro H locs ls hl1 hP hS
  refine (hω _ _ _ _ _).mpr ?_
  exact va_new hx hb hts hin ty hty hown (hts _ w1) (hts _ w2) (hts _ w3) hK ((X.1 ws H).mp hP).1 ((X.1 ws H).mp hP).2 hS X.2 hc hfs hcells hslots d (fun q H1 hP1 hD1 hS1 => (hω _ _ _ _ _).mp (k0 q H1 locs ls hl1 ((X.1 _ H1).mpr ⟨hP1, hD1⟩) hS1))
end TROWS
