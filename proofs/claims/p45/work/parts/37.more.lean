/-! TEXT: more rows -/
section MOREROWS
variable {nm : String} {K : Nat → Nat} {Po : Option Value → Tx → Prop} {x : Xt Tx} {D : va_G} {cc : ByteArray} {mL : Nat} {own : String} {ret : Option FieldType} {tab : List ExceptionTableEntry} {Ts : List Cond} {R : Room} {tys : List (ClassId × FieldType)} {lo lo' : List (Nat × Value)} {st : List Value} {ws : Tx} {pc kc ns : Nat}
/-- System.arraycopy out of a constant's bytes -/
theorem jy_copyK (C : Cy nm K Po x cc mL own ret tab Ts R D tys) (X : Wt x D) {idx a i : Nat} (hi : i < 8) (d : decode cc pc = .ok (.invokestatic idx, 3)) (q1 t0 : Nat) {cB : ClassId} {n1 : Nat} {g : Nat → Int32} (h1 : ws[q1]? = some (a, .inl (cB, n1, .inl g))) (ht : tys[t0]? = some (cB, .byte)) (w1 : Cond.methodLink own idx arraycopyName ∈ Ts) (w2 : Cond.native arraycopyName ∈ Ts) (w3 : Cond.static arraycopyName ∈ Ts) (w4 : Cond.initialized "java/lang/System" ∈ Ts)
    {sp dp n : Int32} (g1 : ¬ sp < 0) (g2 : ¬ dp < 0) (g3 : ¬ n < 0) (g4 : sp.toNatClampNeg + n.toNatClampNeg ≤ litN.getD i 0) (g5 : dp.toNatClampNeg + n.toNatClampNeg ≤ n1) (hfit : ∀ j : Nat, j < n.toNatClampNeg → fits .byte (.int ((litB.getD i []).getD (sp.toNatClampNeg + j) 0)) = true) (hfr : 1 ≤ R.frames) (hlo : (st.map fun v => v.category).sum + (nativeFrameWords "java/lang/System" "arraycopy" 5 + 11) ≤ R.locals)
    (k0 : J x lo st (ws.set q1 (a, .inl (cB, n1, .inl (va_cpy (fun j => (litB.getD i []).getD j 0) g sp.toNatClampNeg dp.toNatClampNeg n.toNatClampNeg)))) (pc + 3) kc ns) : J x lo (.int n :: .int dp :: .ref a :: .int sp :: .ref (K (20 + i)) :: st) ws pc kc ns := by
  obtain ⟨p, l, e, s, args, below, meth, c, Qc, XC, free, hω, hx, hb, hml, hn, hts, hown, hK, hr, hlk, htab, hst, hH0, hSt, hRet, h6, hT, hnm9⟩ := C
  intro H locs ls hl1 hP hS
  refine (hω _ _ _ _ _).mpr ?_
  have hS' := hS
  rw [hH0] at hS'
  exact vk_copyt hx hb (by rw [hml, ← hn]; exact hl1.1.symm) hown (hts _ w1) (hts _ w2) (hts _ w3) (hts _ w4) hK ((X.1 ws H).mp hP).1 ((X.1 ws H).mp hP).2 hS' (f := fun j => (litB.getD i []).getD j 0) (hT.1.1 i hi).2.2.2 q1 t0 h1 ht g1 g2 g3 g4 g5 hfit hfr hlo d (fun H1 locs1 hP1 hD1 hS1 => (hω _ _ _ _ _).mp (k0 H1 locs1 ls hl1 ((X.1 _ H1).mpr ⟨hP1, hD1⟩) (by rw [hH0]; exact hS1)))
theorem jy_zreturn {a : Int32} {ty : FieldType} (C : Cy nm K Po x cc mL own (some ty) tab Ts R D tys) (hn9 : narrow ty (.int a) = .int a) (d : decode cc pc = .ok (.ireturn, 1)) (hg : Po (some (.int a)) ws) (hk : kc ≤ R.cells) (hs : ns ≤ R.slots) : J x lo [.int a] ws pc kc ns := by
  obtain ⟨p, l, e, s, args, below, meth, c, Qc, XC, free, hω, hx, hb, hml, hn, hts, hown, hK, hr, hlk, htab, hst, hH0, hSt, hRet, h6, hT, hnm9⟩ := C
  intro H locs ls hl hP hS
  refine (hω _ _ _ _ _).mpr ?_
  rw [hH0] at hS
  obtain ⟨q1, q2⟩ := hRet _ ws H locs hg hP hS
  refine W.widen hk hs (vx_ret ?_)
  exact W.zret hx hb hr hn9 q1 q2 d hlk
theorem jy_digits (C : Cy nm K Po x cc mL own ret tab Ts R D tys) {idx : Nat} (one : Bool) (d : decode cc pc = .ok (.getstatic idx, 3)) (hl : Cond.fieldLink own idx "java/lang/Integer" (if one then "DigitOnes" else "DigitTens") "[B" ∈ Ts) (k0 : J x lo (.ref (if one then K 40 else K 41) :: st) ws (pc + 3) kc ns) : J x lo st ws pc kc ns := by
  obtain ⟨p, l, e, s, args, below, meth, c, Qc, XC, free, hω, hx, hb, hml, hn, hts, hown, hK, hr, hlk, htab, hst, hH0, hSt, hRet, h6, hT, hnm9⟩ := C
  intro H locs ls hl1 hP hS
  refine (hω _ _ _ _ _).mpr ?_
  cases one
  · exact va_gets hx hb hT.2.2.2.2.1 (by rw [← hH0]; exact hS) hown (hts _ hl) (fun _ h => h) d ((hω _ _ _ _ _).mp (k0 H locs ls hl1 hP hS))
  · exact va_gets hx hb hT.2.2.1 (by rw [← hH0]; exact hS) hown (hts _ hl) (fun _ h => h) d ((hω _ _ _ _ _).mp (k0 H locs ls hl1 hP hS))
end MOREROWS
