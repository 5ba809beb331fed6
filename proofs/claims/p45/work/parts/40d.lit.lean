/-! TEXT: a literal's characters -/
section KROW
variable {nm : String} {K : Nat → Nat} {Po : Option Value → Tx → Prop} {x : Xt Tx} {D : va_G} {cc : ByteArray} {mL : Nat} {own : String} {ret : Option FieldType} {tab : List ExceptionTableEntry} {Ts : List Cond} {R : Room} {tys : List (ClassId × FieldType)} {lo : List (Nat × Value)} {st : List Value} {ws : Tx} {pc kc ns : Nat}
theorem jy_lit (C : Cy nm K Po x cc mL own ret tab Ts R D tys) {i j : Nat} (hi : i < 8) (hj : j < litN.getD i 0) (hj2 : j < 100000) (d : decode cc pc = .ok (.baload, 1)) (k0 : J x lo (.int ((litB.getD i []).getD j 0) :: st) ws (pc + 1) kc ns) : J x lo (.int (nI j) :: .ref (K (20 + i)) :: st) ws pc kc ns := by
  obtain ⟨p, l, e, s, args, below, meth, c, Qc, XC, free, hω, hx, hb, hml, hn, hts, hown, hK, hr, hlk, htab, hst, hH0, hSt, hRet, h6, hT, hnm9⟩ := C
  intro H locs ls hl1 hP hS
  refine (hω _ _ _ _ _).mpr ?_
  exact va_tb hx hb (hT.1.1 i hi).2.2.2 (by rw [← hH0]; exact hS) (vp_in_nI hj (by have := litN_le hi; omega)) (congrArg (fun q => Value.int ((litB.getD i []).getD q 0)) (nI_cl hj2)) d ((hω _ _ _ _ _).mp (k0 H locs ls hl1 hP hS))
/-- a string constant in a context of calls -/
theorem jv_ldc {S : Type} {x : Xt S} {ws : S} (C : Cv K x cc mL own ret tab Ts R D tys) {idx i : Nat} (d : decode cc pc = .ok (.ldc idx, 2)) (h : (own, idx, i) ∈ litP) (k0 : J x lo (.ref (K i) :: st) ws (pc + 2) kc ns) : J x lo st ws pc kc ns := by
  obtain ⟨p, l, e, s, args, below, meth, c, Qc, XC, free, hω, hx, hb, hml, hn, hts, hown, hK, hr, hlk, htab, hst, hH0, hSt, hT⟩ := C
  intro H locs ls hl1 hP hS
  refine (hω _ _ _ _ _).mpr ?_
  exact va_ldcS hx hb hown (hT.2.2.2.2.2.2.2.1 _ h) d ((hω _ _ _ _ _).mp (k0 H locs ls hl1 hP hS))
end KROW
