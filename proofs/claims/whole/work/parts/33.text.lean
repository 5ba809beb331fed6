/-! TEXT: rows of the judgement over a world that grows: the state is the list of (address, what lies there) -/
abbrev Tx : Type := va_W
def Wt (x : Xt Tx) (D : va_G) : Prop := (∀ ws H, x.2.2.2.1 ws H ↔ (va_P D vwCl ws H ∧ va_D x.2.2.2.2.1 ws)) ∧ ∀ q : Nat, x.2.2.2.2.2.1.size ≤ q → x.2.2.2.2.1 q
section TROWS
variable {x : Xt Tx} {D : va_G} {cc : ByteArray} {mL : Nat} {own : String} {ret : Option FieldType} {tab : List ExceptionTableEntry} {Ts : List Cond} {R : Room} {tys : List (ClassId × FieldType)} {lo lo' : List (Nat × Value)} {st : List Value} {ws : Tx} {pc kc ns : Nat}
theorem jt_get (C : Cx x cc mL own ret tab Ts R D tys) (X : Wt x D) {idx a : Nat} (d : decode cc pc = .ok (.getfield idx, 3)) (q0 : Nat) {ci N : Nat} {Cn nm ds : String} {T : u_T} {fin : Bool} {fs : List Value} {v : Value} (he : ws[q0]? = some (a, .inr (ci, fs))) (hc : vwCl[ci]? = some (Cn, T, N)) (k : Nat) (hk : k < N) (hT : T k = (Cn, nm, ds, fin)) (hv : fs[k]? = some v) (hin : ∀ w ∈ u_ws Cn T N, w ∈ Ts) {ref : String} (hsame : ∀ (s : State) y, s.fieldFound? Cn nm ds = some y → s.fieldFound? ref nm ds = some y) (hl : Cond.fieldLink own idx ref nm ds ∈ Ts) (k0 : J x lo (v :: st) ws (pc + 3) kc ns) : J x lo (.ref a :: st) ws pc kc ns := by
  obtain ⟨p, l, e, s, args, below, meth, c, Qc, XC, free, hω, hx, hb, hml, hn, hts, hown, hK, hr, hlk, htab, hst, hH0, hSt, hRet, hThr⟩ := C
  intro H locs ls hl1 hP hS
  refine (hω _ _ _ _ _).mpr ?_
  refine va_get hx hb hts hin hown hK ((X.1 ws H).mp hP).1 q0 (fs := fs) (ci := ci) he hc k hk (ref := ref) (by rw [hT]; exact hts _ hl) (fun y hy => by rw [hT] at hy ⊢; exact hsame _ y hy) hv d ((hω _ _ _ _ _).mp (k0 H locs ls hl1 hP hS))
theorem jt_put (C : Cx x cc mL own ret tab Ts R D tys) (X : Wt x D) {idx a : Nat} {v : Value} (d : decode cc pc = .ok (.putfield idx, 3)) (q0 : Nat) {ci N : Nat} {Cn nm ds : String} {T : u_T} {fs : List Value} {ty0 : Nat → FieldType} {ty : FieldType} (he : ws[q0]? = some (a, .inr (ci, fs))) (hc : vwCl[ci]? = some (Cn, T, N)) (k : Nat) (hk : k < N) (hT : T k = (Cn, nm, ds, false)) (hlen : k < fs.length) (hty : ∀ k, k < N → parseFieldDescriptor (T k).2.2.1 = some (ty0 k)) (hnm : ∀ a, a < N → ∀ b, b < N → a ≠ b → (T a).2.1 ≠ (T b).2.1) (hd : ty0 k = ty) (hn9 : narrow ty v = v) (hf9 : fits ty v = true) (hin : ∀ w ∈ u_ws Cn T N, w ∈ Ts) {ref : String} (hsame : ∀ (s : State) y, s.fieldFound? Cn nm ds = some y → s.fieldFound? ref nm ds = some y) (hl : Cond.fieldLink own idx ref nm ds ∈ Ts) (k0 : J x lo st (ws.set q0 (a, .inr (ci, fs.set k v))) (pc + 3) kc ns) : J x lo (v :: .ref a :: st) ws pc kc ns := by
  obtain ⟨p, l, e, s, args, below, meth, c, Qc, XC, free, hω, hx, hb, hml, hn, hts, hown, hK, hr, hlk, htab, hst, hH0, hSt, hRet, hThr⟩ := C
  intro H locs ls hl1 hP hS
  refine (hω _ _ _ _ _).mpr ?_
  refine va_put hx hb hts hin ty0 hty hnm hown hK ((X.1 ws H).mp hP).1 ((X.1 ws H).mp hP).2 hS q0 (fs := fs) (ci := ci) he hc k hk (ref := ref) (by rw [hT]; exact hts _ hl) (fun y hy => by rw [hT] at hy ⊢; exact hsame _ y hy) (by rw [hT]) (ty := ty) (by rw [hty k hk, hd]) hn9 hf9 hlen d (fun H1 locs1 hP1 hD1 hS1 => ?_)
  exact (hω _ _ _ _ _).mp (k0 H1 locs1 ls hl1 ((X.1 _ H1).mpr ⟨hP1, hD1⟩) hS1)
theorem jt_alen (C : Cx x cc mL own ret tab Ts R D tys) (X : Wt x D) {a : Nat} (d : decode cc pc = .ok (.arraylength, 1)) (q0 t0 : Nat) {cA : ClassId} {y : vp_A} {ty : FieldType} (he : ws[q0]? = some (a, .inl (cA, y))) (ht : tys[t0]? = some (cA, ty)) (v : Int32) (hv : Int32.ofNat y.1 = v) (k0 : J x lo (.int v :: st) ws (pc + 1) kc ns) : J x lo (.ref a :: st) ws pc kc ns := by
  obtain ⟨p, l, e, s, args, below, meth, c, Qc, XC, free, hω, hx, hb, hml, hn, hts, hown, hK, hr, hlk, htab, hst, hH0, hSt, hRet, hThr⟩ := C
  intro H locs ls hl1 hP hS
  refine (hω _ _ _ _ _).mpr ?_
  exact va_alen hx hb hK ((X.1 ws H).mp hP).1 q0 t0 he ht hv d ((hω _ _ _ _ _).mp (k0 H locs ls hl1 hP hS))
theorem jt_bald (C : Cx x cc mL own ret tab Ts R D tys) (X : Wt x D) {a n : Nat} {i : Int32} {f : Nat → Int32} (d : decode cc pc = .ok (.baload, 1)) (q0 t0 : Nat) {cA : ClassId} (he : ws[q0]? = some (a, .inl (cA, n, .inl f))) (ht : tys[t0]? = some (cA, .byte)) (hin : vp_in i n) (k0 : J x lo (.int (f i.toNatClampNeg) :: st) ws (pc + 1) kc ns) : J x lo (.int i :: .ref a :: st) ws pc kc ns := by
  obtain ⟨p, l, e, s, args, below, meth, c, Qc, XC, free, hω, hx, hb, hml, hn, hts, hown, hK, hr, hlk, htab, hst, hH0, hSt, hRet, hThr⟩ := C
  intro H locs ls hl1 hP hS
  refine (hω _ _ _ _ _).mpr ?_
  exact va_bald hx hb hK ((X.1 ws H).mp hP).1 q0 t0 he ht hin d ((hω _ _ _ _ _).mp (k0 H locs ls hl1 hP hS))
theorem jt_bast (C : Cx x cc mL own ret tab Ts R D tys) (X : Wt x D) {a n : Nat} {i v : Int32} {f : Nat → Int32} (d : decode cc pc = .ok (.bastore, 1)) (q0 t0 : Nat) {cA : ClassId} (he : ws[q0]? = some (a, .inl (cA, n, .inl f))) (ht : tys[t0]? = some (cA, .byte)) (hin : vp_in i n) (k0 : J x lo st (ws.set q0 (a, .inl (cA, n, .inl (upd f i.toNatClampNeg (vp_nar .byte v))))) (pc + 1) kc ns) : J x lo (.int v :: .int i :: .ref a :: st) ws pc kc ns := by
  obtain ⟨p, l, e, s, args, below, meth, c, Qc, XC, free, hω, hx, hb, hml, hn, hts, hown, hK, hr, hlk, htab, hst, hH0, hSt, hRet, hThr⟩ := C
  intro H locs ls hl1 hP hS
  refine (hω _ _ _ _ _).mpr ?_
  exact va_bast hx hb hK ((X.1 ws H).mp hP).1 ((X.1 ws H).mp hP).2 hS q0 t0 he ht hin d (fun H1 locs1 hP1 hD1 hS1 => (hω _ _ _ _ _).mp (k0 H1 locs1 ls hl1 ((X.1 _ H1).mpr ⟨hP1, hD1⟩) hS1))
/-- a new byte array: its class joins the types -/
theorem jt_newb (C : Cx x cc mL own ret tab Ts R D tys) (X : Wt x D) {n : Int32} {N' : Nat} (d : decode cc pc = .ok (.newarray .byte, 2)) (harr : Cond.arrayClass (newarray.typeOf .byte) ∈ Ts) (hn0 : ¬ n < 0) (hN : n.toNatClampNeg = N') (hbytes : N' ≤ 536870912) (hcells : kc + 1 ≤ R.cells) (hslots : ns + N' ≤ R.slots)
    (k0 : ∀ (q : Nat) (cA : ClassId), Cx x cc mL own ret tab Ts R D (tys ++ [(cA, .byte)]) → J x lo (.ref q :: st) (ws ++ [(q, .inl (cA, N', .inl (fun _ => 0)))]) (pc + 2) (kc + 1) (ns + N')) : J x lo (.int n :: st) ws pc kc ns := by
  have C0 := C
  obtain ⟨p, l, e, s, args, below, meth, c, Qc, XC, free, hω, hx, hb, hml, hn, hts, hown, hK, hr, hlk, htab, hst, hH0, hSt, hRet, hThr⟩ := C
  intro H locs ls hl1 hP hS
  refine (hω _ _ _ _ _).mpr ?_
  refine va_newa (a0 := (N', .inl (fun _ => 0))) (ty := .byte) (N' := N') hx hb (hts _ harr) rfl hK ((X.1 ws H).mp hP).1 ((X.1 ws H).mp hP).2 hS X.2 (fun cA => rfl) hn0 hN (by show N' * 1 ≤ _; omega) hcells hslots d (fun q cA H1 hK1 hP1 hD1 hS1 => ?_)
  have C1 : Cx x cc mL own ret tab Ts R D (tys ++ [(cA, .byte)]) := ⟨p, l, e, s, args, below, meth, c, Qc, XC, free, hω, hx, hb, hml, hn, hts, hown, hK1, hr, hlk, htab, hst, hH0, hSt, hRet, hThr⟩
  exact (hω _ _ _ _ _).mp (k0 q cA C1 H1 locs ls hl1 ((X.1 _ H1).mpr ⟨hP1, hD1⟩) hS1)
end TROWS
