/-! TEXT: rows that were wanting -/
section ROWS39
variable {nm : String} {K : Nat → Nat} {Po Po' : Option Value → Tx → Prop} {x : Xt Tx} {D : va_G} {cB : ClassId} {cc : ByteArray} {mL : Nat} {own : String} {ret : Option FieldType} {tab : List ExceptionTableEntry} {Ts : List Cond} {R : Room} {tys : List (ClassId × FieldType)} {lo lo' : List (Nat × Value)} {st st0 : List Value} {w wc wr : Tx} {pc kc ns : Nat}
theorem jt_pick (X : Wt x D) (is : List Nat) {w' : Tx} (hn : va_nd is = true) (hs : is.map (fun i => w[i]?) = w'.map some) (k0 : J x lo st w' pc kc ns) : J x lo st w pc kc ns := by
  intro H locs ls hl hP hS
  obtain ⟨hP1, hD⟩ := (X.1 w H).mp hP
  exact k0 H locs ls hl ((X.1 w' H).mpr ⟨sub_P hP1 is hs, hD.sub is hn hs⟩) hS
/-- a method of the class above, found by the receiver -/
theorem jt_callU (C : Cv K x cc mL own ret tab Ts R D tys) (X : Wt x D) {y : MethodName} {bytes : ByteArray} {maxL idx b n : Nat} {ret' : Option FieldType} {wsM wsM' : List Cond} {rm : Room} {vs : List Value} (M : MT y wsM rm (.ref b :: vs) K D tys wc Po') (d : decode cc pc = .ok (.invokevirtual idx, 3)) {Cr : String} (g : GoodIn Ts (va_wsU own idx Cr y.cls y y wsM)) (hw : wsM = Cond.code y bytes maxL ret' :: wsM') (hy : hyOk y n) (hlen : vs.length = n) (q0 : Nat) {ci : Nat} {q : vw_C} {fs : List Value} (he : w[q0]? = some (b, .inr (ci, fs))) (hc : vwCl[ci]? = some q) (hq : q.1 = Cr)
    (isC isR : List Nat) (hC : isC.map (fun i => w[i]?) = wc.map some) (hRr : isR.map (fun i => w[i]?) = wr.map some) (hnC : va_nd isC = true) (hnR : va_nd isR = true) (hdis : ∀ i ∈ isR, i ∉ isC) (hstk : st0 = vs.reverse ++ .ref b :: st) (hR : rm.frames + 1 ≤ R.frames ∧ 8 + (maxL + 11) + rm.locals ≤ R.locals) (hsum : (st.map fun v => v.category).sum ≤ 8) (hf : kc + rm.cells ≤ R.cells ∧ ns + rm.slots ≤ R.slots) (k0 : ∀ v w', Po' v w' → J x lo (v.toList ++ st) (wr ++ w') (pc + 3) (kc + rm.cells) (ns + rm.slots)) : J x lo st0 w pc kc ns := by
  obtain ⟨p, l, e, s, args, below, meth, c, Qc, XC, free, hω, hx, hb, hml, hn, hts, hown, hK, hr, hlk, htab, hst, hH0, hSt, hT⟩ := C
  intro H locs ls hl1 hP hS
  refine (hω _ _ _ _ _).mpr ?_
  obtain ⟨hP1, hD⟩ := (X.1 w H).mp hP
  have hrv := va_recv hK hP1 hc he
  rw [hq] at hrv
  have run : vx_Run p l e R s x.2.1 args below meth c H locs kc ns rm.cells rm.slots (F0 x.2.1 pc ls st0) st (QcT D wc Po' H.size (Value.ref b :: vs).toArray) (fun _ _ _ => False) (AT wc H.size) := vx_runU (g := F0 x.2.1 pc ls st0) ⟨hx, hb, hml, hown, hts⟩ (M l hst H.size) (va_cwU n hts g hw rfl rfl rfl hy hR) ⟨preT_blind, hrv, preT_at X hH0 hK hSt hT hP hS isC hnC hC⟩ rfl hlen (hl1.1.trans hn) hstk (lv_room (m := x.2.1) (pc := pc) (ls := ls) (rest := st) hsum) d hf
  have hsub := va_free hD hS X.2 isC hC
  intro T hT' Y
  rcases run T hT' Y with ⟨v2, st₀, t, T', L, h0, Y', hL, e1, e2, ⟨v3, w', hpo, hv, hPw, hDw, hF⟩, stp⟩ | ⟨q2, st₀, t, T', L, E, ce, h0, Y', hL, e1, e2, hfalse, hce, hcv, hcl, stp⟩
  · cases hv
    obtain ⟨k1, k2, k3⟩ := vx_keep h0 e1 hS (fun q _ h => hsub q h) hsub hL hF
    obtain ⟨j1, j2⟩ := va_join hP1 hD isC isR hC hRr hnR hdis (H1 := T'.heap) k2 hsub (by rw [e1]; exact hPw) hDw
    obtain ⟨t2, a1, b1⟩ := (hω _ _ _ _ _).mp (k0 v2 w' hpo T'.heap (locs ++ L) ls hl1 ((X.1 _ _).mpr ⟨j1, j2⟩) k3) T' rfl Y'
    exact ⟨t2, stp t2 a1, b1⟩
  · exact absurd hfalse id
/-- super.m(..) -/
theorem jt_callSU (C : Cv K x cc mL own ret tab Ts R D tys) (X : Wt x D) {y : MethodName} {bytes : ByteArray} {maxL idx b n : Nat} {ret' : Option FieldType} {wsM wsM' : List Cond} {rm : Room} {vs : List Value} (M : MT y wsM rm (.ref b :: vs) K D tys wc Po') (d : decode cc pc = .ok (.invokespecial idx, 3)) (g : GoodIn Ts (va_wsSU own idx y wsM)) (hw : wsM = Cond.code y bytes maxL ret' :: wsM') (hy : y.name ≠ "<init>" ∧ (parseMethodDescriptor y.desc).map (fun d => d.parameters.length) = some n) (hlen : vs.length = n) (q0 : Nat) {ci : Nat} {q : vw_C} {fs : List Value} (he : w[q0]? = some (b, .inr (ci, fs))) (hc : vwCl[ci]? = some q)
    (isC isR : List Nat) (hC : isC.map (fun i => w[i]?) = wc.map some) (hRr : isR.map (fun i => w[i]?) = wr.map some) (hnC : va_nd isC = true) (hnR : va_nd isR = true) (hdis : ∀ i ∈ isR, i ∉ isC) (hstk : st0 = vs.reverse ++ .ref b :: st) (hR : rm.frames + 1 ≤ R.frames ∧ 8 + (maxL + 11) + rm.locals ≤ R.locals) (hsum : (st.map fun v => v.category).sum ≤ 8) (hf : kc + rm.cells ≤ R.cells ∧ ns + rm.slots ≤ R.slots) (k0 : ∀ v w', Po' v w' → J x lo (v.toList ++ st) (wr ++ w') (pc + 3) (kc + rm.cells) (ns + rm.slots)) : J x lo st0 w pc kc ns := by
  obtain ⟨p, l, e, s, args, below, meth, c, Qc, XC, free, hω, hx, hb, hml, hn, hts, hown, hK, hr, hlk, htab, hst, hH0, hSt, hT⟩ := C
  intro H locs ls hl1 hP hS
  refine (hω _ _ _ _ _).mpr ?_
  obtain ⟨hP1, hD⟩ := (X.1 w H).mp hP
  have hrv := va_recv hK hP1 hc he
  have run : vx_Run p l e R s x.2.1 args below meth c H locs kc ns rm.cells rm.slots (F0 x.2.1 pc ls st0) st (QcT D wc Po' H.size (Value.ref b :: vs).toArray) (fun _ _ _ => False) (AT wc H.size) := vx_runSU (g := F0 x.2.1 pc ls st0) (hK.1 ci q hc).2 ⟨hx, hb, hml, hown, hts⟩ (M l hst H.size) (va_cwSU n hts g hw rfl rfl hy hR) ⟨preT_blind, hrv, preT_at X hH0 hK hSt hT hP hS isC hnC hC⟩ rfl hlen (hl1.1.trans hn) hstk (lv_room (m := x.2.1) (pc := pc) (ls := ls) (rest := st) hsum) d hf
  have hsub := va_free hD hS X.2 isC hC
  intro T hT' Y
  rcases run T hT' Y with ⟨v2, st₀, t, T', L, h0, Y', hL, e1, e2, ⟨v3, w', hpo, hv, hPw, hDw, hF⟩, stp⟩ | ⟨q2, st₀, t, T', L, E, ce, h0, Y', hL, e1, e2, hfalse, hce, hcv, hcl, stp⟩
  · cases hv
    obtain ⟨k1, k2, k3⟩ := vx_keep h0 e1 hS (fun q _ h => hsub q h) hsub hL hF
    obtain ⟨j1, j2⟩ := va_join hP1 hD isC isR hC hRr hnR hdis (H1 := T'.heap) k2 hsub (by rw [e1]; exact hPw) hDw
    obtain ⟨t2, a1, b1⟩ := (hω _ _ _ _ _).mp (k0 v2 w' hpo T'.heap (locs ++ L) ls hl1 ((X.1 _ _).mpr ⟨j1, j2⟩) k3) T' rfl Y'
    exact ⟨t2, stp t2 a1, b1⟩
  · exact absurd hfalse id
/-- a method of a literal -/
theorem jt_callK (C : Cv K x cc mL own ret tab Ts R D tys) (X : Wt x D) {y : MethodName} {bytes : ByteArray} {maxL idx i n : Nat} (hi : i < 8) {ret' : Option FieldType} {wsM wsM' : List Cond} {rm : Room} {vs : List Value} (M : MT y wsM rm (.ref (K i) :: vs) K D tys wc Po') (d : decode cc pc = .ok (.invokevirtual idx, 3)) (g : GoodIn Ts (wsV own idx y.cls y wsM)) (hw : wsM = Cond.code y bytes maxL ret' :: wsM') (hy : hyOk y n) (hlen : vs.length = n) (hq : "java/lang/String" = y.cls)
    (isC isR : List Nat) (hC : isC.map (fun i => w[i]?) = wc.map some) (hRr : isR.map (fun i => w[i]?) = wr.map some) (hnC : va_nd isC = true) (hnR : va_nd isR = true) (hdis : ∀ i ∈ isR, i ∉ isC) (hstk : st0 = vs.reverse ++ .ref (K i) :: st) (hR : rm.frames + 1 ≤ R.frames ∧ 8 + (maxL + 11) + rm.locals ≤ R.locals) (hsum : (st.map fun v => v.category).sum ≤ 8) (hf : kc + rm.cells ≤ R.cells ∧ ns + rm.slots ≤ R.slots) (k0 : ∀ v w', Po' v w' → J x lo (v.toList ++ st) (wr ++ w') (pc + 3) (kc + rm.cells) (ns + rm.slots)) : J x lo st0 w pc kc ns := by
  obtain ⟨p, l, e, s, args, below, meth, c, Qc, XC, free, hω, hx, hb, hml, hn, hts, hown, hK, hr, hlk, htab, hst, hH0, hSt, hT⟩ := C
  intro H locs ls hl1 hP hS
  refine (hω _ _ _ _ _).mpr ?_
  obtain ⟨hP1, hD⟩ := (X.1 w H).mp hP
  have hrv := vk_recv hT.1 hi (by rw [← hH0]; exact hS)
  rw [hq] at hrv
  have run : vx_Run p l e R s x.2.1 args below meth c H locs kc ns rm.cells rm.slots (F0 x.2.1 pc ls st0) st (QcT D wc Po' H.size (Value.ref (K i) :: vs).toArray) (fun _ _ _ => False) (AT wc H.size) := vx_runV (g := F0 x.2.1 pc ls st0) ⟨hx, hb, hml, hown, hts⟩ (M l hst H.size) (cwV n hts g hw rfl rfl ⟨rfl, hy.1, hy.2.1, hy.2.2⟩ hR) ⟨preT_blind, hrv, preT_at X hH0 hK hSt hT hP hS isC hnC hC⟩ rfl hlen (hl1.1.trans hn) hstk (lv_room (m := x.2.1) (pc := pc) (ls := ls) (rest := st) hsum) d hf
  have hsub := va_free hD hS X.2 isC hC
  intro T hT' Y
  rcases run T hT' Y with ⟨v2, st₀, t, T', L, h0, Y', hL, e1, e2, ⟨v3, w', hpo, hv, hPw, hDw, hF⟩, stp⟩ | ⟨q2, st₀, t, T', L, E, ce, h0, Y', hL, e1, e2, hfalse, hce, hcv, hcl, stp⟩
  · cases hv
    obtain ⟨k1, k2, k3⟩ := vx_keep h0 e1 hS (fun q _ h => hsub q h) hsub hL hF
    obtain ⟨j1, j2⟩ := va_join hP1 hD isC isR hC hRr hnR hdis (H1 := T'.heap) k2 hsub (by rw [e1]; exact hPw) hDw
    obtain ⟨t2, a1, b1⟩ := (hω _ _ _ _ _).mp (k0 v2 w' hpo T'.heap (locs ++ L) ls hl1 ((X.1 _ _).mpr ⟨j1, j2⟩) k3) T' rfl Y'
    exact ⟨t2, stp t2 a1, b1⟩
  · exact absurd hfalse id
theorem jt_ishr (C : Cx x cc mL own ret tab Ts R D tys) {a b : Int32} (d : decode cc pc = .ok (.ishr, 1)) (v : Int32) (hv : a >>> (b &&& 31) = v) (k0 : J x lo (.int v :: st) w (pc + 1) kc ns) : J x lo (.int b :: .int a :: st) w pc kc ns := by
  subst hv
  obtain ⟨p, l, e, s, args, below, meth, c, Qc, XC, free, hω, hx, hb, hml, hn, hts, hown, hK, hr, hlk, htab, hst, hH0, hSt, hRet, hThr⟩ := C
  intro H locs ls hl hP hS
  refine (hω _ _ _ _ _).mpr ?_
  exact lv_ishr hx hb d ((hω _ _ _ _ _).mp (k0 H locs ls hl hP hS))
theorem jt_ishl (C : Cx x cc mL own ret tab Ts R D tys) {a b : Int32} (d : decode cc pc = .ok (.ishl, 1)) (v : Int32) (hv : a <<< (b &&& 31) = v) (k0 : J x lo (.int v :: st) w (pc + 1) kc ns) : J x lo (.int b :: .int a :: st) w pc kc ns := by
  subst hv
  obtain ⟨p, l, e, s, args, below, meth, c, Qc, XC, free, hω, hx, hb, hml, hn, hts, hown, hK, hr, hlk, htab, hst, hH0, hSt, hRet, hThr⟩ := C
  intro H locs ls hl hP hS
  refine (hω _ _ _ _ _).mpr ?_
  exact lv_ishl hx hb d ((hω _ _ _ _ _).mp (k0 H locs ls hl hP hS))
theorem jt_i2b (C : Cx x cc mL own ret tab Ts R D tys) {a : Int32} (d : decode cc pc = .ok (.i2b, 1)) (v : Int32) (hv : a.toInt8.toInt32 = v) (k0 : J x lo (.int v :: st) w (pc + 1) kc ns) : J x lo (.int a :: st) w pc kc ns := by
  obtain ⟨p, l, e, s, args, below, meth, c, Qc, XC, free, hω, hx, hb, hml, hn, hts, hown, hK, hr, hlk, htab, hst, hH0, hSt, hRet, hThr⟩ := C
  intro H locs ls hl hP hS
  refine (hω _ _ _ _ _).mpr ?_
  exact lv_i2b hx hb d hv ((hω _ _ _ _ _).mp (k0 H locs ls hl hP hS))
theorem jt_dup_x1 (C : Cx x cc mL own ret tab Ts R D tys) {a b : Value} (d : decode cc pc = .ok (.dup_x1, 1)) (h : a.category = 1) (h2 : b.category = 1) (k0 : J x lo (a :: b :: a :: st) w (pc + 1) kc ns) : J x lo (a :: b :: st) w pc kc ns := by
  obtain ⟨p, l, e, s, args, below, meth, c, Qc, XC, free, hω, hx, hb, hml, hn, hts, hown, hK, hr, hlk, htab, hst, hH0, hSt, hRet, hThr⟩ := C
  intro H locs ls hl hP hS
  refine (hω _ _ _ _ _).mpr ?_
  exact lv_dup_x1 hx hb d h h2 ((hω _ _ _ _ _).mp (k0 H locs ls hl hP hS))
theorem jt_ldcI (C : Cx x cc mL own ret tab Ts R D tys) {idx : Nat} {v : Int32} (d : decode cc pc = .ok (.ldc idx, 2)) (h : Cond.constant own idx v ∈ Ts) (k0 : J x lo (.int v :: st) w (pc + 2) kc ns) : J x lo st w pc kc ns := by
  obtain ⟨p, l, e, s, args, below, meth, c, Qc, XC, free, hω, hx, hb, hml, hn, hts, hown, hK, hr, hlk, htab, hst, hH0, hSt, hRet, hThr⟩ := C
  intro H locs ls hl hP hS
  refine (hω _ _ _ _ _).mpr ?_
  exact lv_ldc hx hb hown (hts _ h) d ((hω _ _ _ _ _).mp (k0 H locs ls hl hP hS))
theorem jt_mmax (C : Cx x cc mL own ret tab Ts R D tys) {a b : Int32} {idx : Nat} (d : decode cc pc = .ok (.invokestatic idx, 3)) (h1 : Cond.methodLink own idx Lib.Math.max.name ∈ Ts) (h2 : Cond.static Lib.Math.max.name ∈ Ts) (h3 : Cond.initialized "java/lang/Math" ∈ Ts) (h4 : Cond.code Lib.Math.max.name Lib.Math.max.code 2 (some .int) ∈ Ts) (hf : 1 ≤ R.frames) (hL : (st.map fun v => v.category).sum + 13 ≤ R.locals) (hc : kc ≤ R.cells) (hs : ns ≤ R.slots) (k0 : J x lo (.int (if a < b then b else a) :: st) w (pc + 3) kc ns) : J x lo (.int b :: .int a :: st) w pc kc ns := by
  obtain ⟨p, l, e, s, args, below, meth, c, Qc, XC, free, hω, hx, hb, hml, hn, hts, hown, hK, hr, hlk, htab, hst, hH0, hSt, hRet, hThr⟩ := C
  intro H locs ls hl hP hS
  refine (hω _ _ _ _ _).mpr ?_
  exact va_mmax hx hb (by rw [hml, ← hn]; exact hl.1.symm) hown (hts _ h1) (hts _ h2) (hts _ h3) (hts _ h4) hf hL hc hs d ((hω _ _ _ _ _).mp (k0 H locs ls hl hP hS))
theorem jt_objInit (C : Cx x cc mL own ret tab Ts R D tys) {a idx : Nat} (d : decode cc pc = .ok (.invokespecial idx, 3)) (h1 : Cond.methodLink own idx Lib.objectInit ∈ Ts) (h2 : Cond.instanceMethod Lib.objectInit ∈ Ts) (h3 : Cond.code Lib.objectInit ⟨#[0xb1]⟩ 1 none ∈ Ts) (hf : 1 ≤ R.frames) (hL : (st.map fun v => v.category).sum ≤ 8) (hL2 : 20 ≤ R.locals) (k0 : J x lo st w (pc + 3) kc ns) : J x lo (.ref a :: st) w pc kc ns := by
  obtain ⟨p, l, e, s, args, below, meth, c, Qc, XC, free, hω, hx, hb, hml, hn, hts, hown, hK, hr, hlk, htab, hst, hH0, hSt, hRet, hThr⟩ := C
  intro H locs ls hl hP hS
  refine (hω _ _ _ _ _).mpr ?_
  have hq : 2 * (F0 x.2.1 pc ls (.ref a :: st)).monitorRoom + (st.map fun v => v.category).sum ≤ 8 := lv_room (m := x.2.1) (pc := pc) (ls := ls) (rest := st) hL
  exact W.objInit hx hb hown (hts _ h1) (hts _ h2) (hts _ h3) (g := F0 x.2.1 pc ls (.ref a :: st)) rfl ((hl.1.trans hn).trans hml.symm) rfl d hf (by omega) ((hω _ _ _ _ _).mp (k0 H locs ls hl hP hS))
theorem jt_aloadV (C : Cx x cc mL own ret tab Ts R D tys) {q : Fin 4} {a : Value} (h9 : a = .null ∨ ∃ r, a = .ref r) (d : decode cc pc = .ok (.aload_n q, 1)) (i : Nat) (h : lo[i]? = some ((q : Nat), a)) (k0 : J x lo (a :: st) w (pc + 1) kc ns) : J x lo st w pc kc ns := by
  rcases h9 with rfl | ⟨r, rfl⟩
  · exact j_aload_nN C d i h k0
  · exact j_aload_n C d i h k0
theorem jt_clone (C : Cv K x cc mL own ret tab Ts R D tys) (X : Wt x D) {idx a n : Nat} {f : Nat → Int32} (d : decode cc pc = .ok (.invokevirtual idx, 3)) (q0 t0 : Nat) (ht : tys[t0]? = some (cB, .byte)) (he : w[q0]? = some (a, .inl (cB, n, .inl f))) (hfit : ∀ j, fits .byte (.int (f j)) = true) (w1 : Cond.methodLink own idx ⟨"[B", "clone", "()Ljava/lang/Object;"⟩ ∈ Ts) (w2 : Cond.sameMethod "[B" "java/lang/Object" "clone" "()Ljava/lang/Object;" ∈ Ts) (w3 : Cond.native ⟨"java/lang/Object", "clone", "()Ljava/lang/Object;"⟩ ∈ Ts) (w4 : Cond.instanceMethod ⟨"java/lang/Object", "clone", "()Ljava/lang/Object;"⟩ ∈ Ts) (w5 : Cond.selects "[B" ⟨"[B", "clone", "()Ljava/lang/Object;"⟩ ⟨"java/lang/Object", "clone", "()Ljava/lang/Object;"⟩ ∈ Ts) (hfr : 1 ≤ R.frames) (hlo : (st.map fun v => v.category).sum + 14 ≤ R.locals) (hcells : kc + 1 ≤ R.cells) (hslots : ns + n ≤ R.slots)
    (k0 : ∀ q : Nat, J x lo (.ref q :: st) (w ++ [(q, .inl (cB, n, .inl f))]) (pc + 3) (kc + 1) (ns + n)) : J x lo (.ref a :: st) w pc kc ns := by
  obtain ⟨p, l, e, s, args, below, meth, c, Qc, XC, free, hω, hx, hb, hml, hn, hts, hown, hK, hr, hlk, htab, hst, hH0, hSt, hT⟩ := C
  intro H locs ls hl1 hP hS
  refine (hω _ _ _ _ _).mpr ?_
  have e1 : s.vm.findClass ("[" ++ FieldType.byte.toString) = some cB := (hK.2 t0 _ ht).2
  refine va_clone (ad := "[B") (x := (n, .inl f)) hx hb (by rw [hml, ← hn]; exact hl1.1.symm) hown (hts _ w1) (hts _ w2) (hts _ w3) (hts _ w4) (hts _ w5) hT.2.2.2.2.2.2.2.2.1 hK ((X.1 w H).mp hP).1 ((X.1 w H).mp hP).2 hS X.2 q0 t0 he ht e1 (fun i v hv => ?_) hfr hlo hcells hslots d (fun q H1 _ hP1 hD1 hS1 => (hω _ _ _ _ _).mp (k0 q H1 locs ls hl1 ((X.1 _ H1).mpr ⟨hP1, hD1⟩) hS1))
  by_cases hi : i < n
  · have h2 : (arrV cB n (fun j => .int (f j))).slots[i]? = some v := hv
    rw [arrV_read cB _ hi] at h2
    cases h2
    exact hfit i
  · have h2 : (arrV cB n (fun j => .int (f j))).slots[i]? = some v := hv
    have h3 := (Array.getElem?_eq_some_iff.mp h2).1
    rw [arrV_size] at h3
    exact absurd h3 hi
theorem jt_castB (C : Cv K x cc mL own ret tab Ts R D tys) (X : Wt x D) {idx a : Nat} {y : vp_A} (d : decode cc pc = .ok (.checkcast idx, 3)) (q0 t0 : Nat) (ht : tys[t0]? = some (cB, .byte)) (he : w[q0]? = some (a, .inl (cB, y))) (w1 : Cond.classLink own idx "[B" ∈ Ts) (k0 : J x lo (.ref a :: st) w (pc + 3) kc ns) : J x lo (.ref a :: st) w pc kc ns := by
  obtain ⟨p, l, e, s, args, below, meth, c, Qc, XC, free, hω, hx, hb, hml, hn, hts, hown, hK, hr, hlk, htab, hst, hH0, hSt, hT⟩ := C
  intro H locs ls hl1 hP hS
  refine (hω _ _ _ _ _).mpr ?_
  have e1 : s.vm.findClass ("[" ++ FieldType.byte.toString) = some cB := (hK.2 t0 _ ht).2
  exact va_castA (nm := "[B") hx hb hown (hts _ w1) ((X.1 w H).mp hP).1 q0 he e1 d ((hω _ _ _ _ _).mp (k0 H locs ls hl1 hP hS))
/-- a final field, in a constructor -/
theorem jt_putF (C : Cy nm K Po x cc mL own ret tab Ts R D tys) (X : Wt x D) (hin2 : nm = "<init>") {idx a : Nat} {v : Value} (d : decode cc pc = .ok (.putfield idx, 3)) (q0 : Nat) {ci N : Nat} {Cn fn ds : String} {T : u_T} {fs : List Value} {ty0 : Nat → FieldType} {ty : FieldType} (he : w[q0]? = some (a, .inr (ci, fs))) (hc : vwCl[ci]? = some (Cn, T, N)) (k : Nat) (hk : k < N) (hT : T k = (Cn, fn, ds, true)) (hown2 : Cn = own) (hlen : k < fs.length) (hty : ∀ k, k < N → parseFieldDescriptor (T k).2.2.1 = some (ty0 k)) (hnm : ∀ a, a < N → ∀ b, b < N → a ≠ b → (T a).2.1 ≠ (T b).2.1) (hd : ty0 k = ty) (hn9 : narrow ty v = v) (hf9 : fits ty v = true) (hin : ∀ w ∈ u_ws Cn T N, w ∈ Ts) (hl : Cond.fieldLink own idx Cn fn ds ∈ Ts) (k0 : J x lo st (w.set q0 (a, .inr (ci, fs.set k v))) (pc + 3) kc ns) : J x lo (v :: .ref a :: st) w pc kc ns := by
  obtain ⟨p, l, e, s, args, below, meth, c, Qc, XC, free, hω, hx, hb, hml, hn, hts, hown, hK, hr, hlk, htab, hst, hH0, hSt, hRet, h6, hTX, hnm9⟩ := C
  intro H locs ls hl1 hP hS
  refine (hω _ _ _ _ _).mpr ?_
  refine va_putF hx hb hts hin ty0 hty hnm hown hK ((X.1 w H).mp hP).1 ((X.1 w H).mp hP).2 hS q0 (fs := fs) (ci := ci) he hc k hk (ref := Cn) (by rw [hT]; exact hts _ hl) (fun y hy => by rw [hT] at hy ⊢; exact hy) (by rw [hT]) (hnm9.trans hin2) (by rw [hT]; exact hown2) (ty := ty) (by rw [hty k hk, hd]) hn9 hf9 hlen d (fun H1 locs1 hP1 hD1 hS1 => ?_)
  exact (hω _ _ _ _ _).mp (k0 H1 locs1 ls hl1 ((X.1 _ H1).mpr ⟨hP1, hD1⟩) hS1)
theorem jy_ldcw (C : Cy nm K Po x cc mL own ret tab Ts R D tys) {idx i : Nat} (d : decode cc pc = .ok (.ldc_w idx, 3)) (h : (own, idx, i) ∈ litP) (k0 : J x lo (.ref (K i) :: st) w (pc + 3) kc ns) : J x lo st w pc kc ns := by
  obtain ⟨p, l, e, s, args, below, meth, c, Qc, XC, free, hω, hx, hb, hml, hn, hts, hown, hK, hr, hlk, htab, hst, hH0, hSt, hRet, h6, hT, hnm9⟩ := C
  intro H locs ls hl1 hP hS
  refine (hω _ _ _ _ _).mpr ?_
  have hZ := hT.2.2.2.2.2.2.2.1 _ h
  intro T hT' Y
  obtain ⟨t, a1, b1⟩ := (hω _ _ _ _ _).mp (k0 H locs ls hl1 hP hS) T hT' Y
  exact ⟨t, Y.ldcStringW hx hown (text := litT.getD i "") (a := K i) hZ.1 hZ.2 (g := F0 x.2.1 pc ls st) rfl (by rw [hb]; exact d) t a1, b1⟩
theorem jy_sioobe (C : Cy nm K Po x cc mL own ret tab Ts R D tys) {idx : Nat} (d : decode cc pc = .ok (.getstatic idx, 3)) (hl : Cond.fieldLink own idx "jdk/internal/util/Preconditions" "SIOOBE_FORMATTER" "Ljava/util/function/BiFunction;" ∈ Ts) (k0 : ∀ v : Value, (v = .null ∨ ∃ r, v = .ref r) → J x lo (v :: st) w (pc + 3) kc ns) : J x lo st w pc kc ns := by
  obtain ⟨p, l, e, s, args, below, meth, c, Qc, XC, free, hω, hx, hb, hml, hn, hts, hown, hK, hr, hlk, htab, hst, hH0, hSt, hRet, h6, hT, hnm9⟩ := C
  intro H locs ls hl1 hP hS
  refine (hω _ _ _ _ _).mpr ?_
  rcases hT.2.2.2.2.2.2.1 with h | ⟨r, h⟩
  · exact va_gets hx hb h (by rw [← hH0]; exact hS) hown (hts _ hl) (fun _ h => h) d ((hω _ _ _ _ _).mp (k0 .null (Or.inl rfl) H locs ls hl1 hP hS))
  · exact va_gets hx hb h (by rw [← hH0]; exact hS) hown (hts _ hl) (fun _ h => h) d ((hω _ _ _ _ _).mp (k0 (.ref r) (Or.inr ⟨r, rfl⟩) H locs ls hl1 hP hS))
end ROWS39
