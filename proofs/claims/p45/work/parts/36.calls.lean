/-! TEXT: calls -/
theorem sub_P {D : va_G} {w wc : Tx} {H : Heap} (hP : va_P D vwCl w H) (isC : List Nat) (hC : isC.map (fun i => w[i]?) = wc.map some) : va_P D vwCl wc H := by
  intro k q hk
  have h1 : (isC.map (fun i => w[i]?))[k]? = (wc.map some)[k]? := by rw [hC]
  rw [List.getElem?_map, List.getElem?_map, hk] at h1
  cases hi : isC[k]? with
  | none => rw [hi] at h1; cases h1
  | some i =>
    rw [hi] at h1
    exact hP i q (Option.some.inj h1)
theorem preT_at {K : Nat → Nat} {x : Xt Tx} {D : va_G} {tys : List (ClassId × FieldType)} (X : Wt x D) {s : State} {H : Heap} {locs : List Loc} {w wc : Tx} {vs : List Value} (hH0 : x.2.2.2.2.2.1 = s.heap) (hK : va_K D vwCl tys s) (hSt : St x.2.2.2.2.1 s s.heap) (hT : TX K x.2.2.2.2.1 s s.heap) (hP : x.2.2.2.1 w H) (hS : va_S x.2.2.2.2.1 x.2.2.2.2.2.1 H locs) (isC : List Nat) (hn : va_nd isC = true) (hC : isC.map (fun i => w[i]?) = wc.map some) :
    ∀ U : State, U.heap = H → s.WarmedH U.vm → va_Pc vs (PreT K D tys wc H.size) vs.toArray U := by
  intro U hU hW
  obtain ⟨hP1, hD⟩ := (X.1 w H).mp hP
  have hsub := va_free hD hS X.2 isC hC
  rw [hH0] at hS
  have hd := hD.sub isC hn hC
  refine ⟨rfl, by rw [hU], by rw [hU]; exact sub_P hP1 isC hC, va_K.moved hW.alike hK, ⟨hd.1, fun k q hk => Or.inl ⟨k, q.2, hk⟩⟩, ?_, ?_⟩
  · rw [hU]
    exact ⟨((hSt.1.kept hS.2.1).narrow hsub).moved hW.alike, ((hSt.2.1.kept hS.2.1).narrow hsub).moved hW.alike, SR.warm hW hSt.2.2.1, CS.warm hW hSt.2.2.2⟩
  · rw [hU]
    exact TX.next hT hS.2.1 hsub hW
section TCALLS
variable {nm : String} {K : Nat → Nat} {Po Po' : Option Value → Tx → Prop} {x : Xt Tx} {D : va_G} {cB : ClassId} {cc : ByteArray} {mL : Nat} {own : String} {ret : Option FieldType} {tab : List ExceptionTableEntry} {Ts : List Cond} {R : Room} {tys : List (ClassId × FieldType)} {lo lo' : List (Nat × Value)} {st st0 : List Value} {w wc wr : Tx} {pc kc ns : Nat}
theorem jt_callV (C : Cv K x cc mL own ret tab Ts R D tys) (X : Wt x D) {y : MethodName} {bytes : ByteArray} {maxL idx b n : Nat} {ret' : Option FieldType} {wsM wsM' : List Cond} {rm : Room} {vs : List Value} (M : MT y wsM rm (.ref b :: vs) K D tys wc Po') (d : decode cc pc = .ok (.invokevirtual idx, 3)) (g : GoodIn Ts (wsV own idx y.cls y wsM)) (hw : wsM = Cond.code y bytes maxL ret' :: wsM') (hy : hyOk y n) (hlen : vs.length = n) (q0 : Nat) {ci : Nat} {q : vw_C} {fs : List Value} (he : w[q0]? = some (b, .inr (ci, fs))) (hc : vwCl[ci]? = some q) (hq : q.1 = y.cls)
    (isC isR : List Nat) (hC : isC.map (fun i => w[i]?) = wc.map some) (hRr : isR.map (fun i => w[i]?) = wr.map some) (hnC : va_nd isC = true) (hnR : va_nd isR = true) (hdis : ∀ i ∈ isR, i ∉ isC) (hstk : st0 = vs.reverse ++ .ref b :: st) (hR : rm.frames + 1 ≤ R.frames ∧ 8 + (maxL + 11) + rm.locals ≤ R.locals) (hsum : (st.map fun v => v.category).sum ≤ 8) (hf : kc + rm.cells ≤ R.cells ∧ ns + rm.slots ≤ R.slots) (k0 : ∀ v w', Po' v w' → J x lo (v.toList ++ st) (wr ++ w') (pc + 3) (kc + rm.cells) (ns + rm.slots)) : J x lo st0 w pc kc ns := by
  obtain ⟨p, l, e, s, args, below, meth, c, Qc, XC, free, hω, hx, hb, hml, hn, hts, hown, hK, hr, hlk, htab, hst, hH0, hSt, hT⟩ := C
  intro H locs ls hl1 hP hS
  refine (hω _ _ _ _ _).mpr ?_
  obtain ⟨hP1, hD⟩ := (X.1 w H).mp hP
  have hrv := va_recv hK hP1 hc he
  rw [hq] at hrv
  have run : vx_Run p l e R s x.2.1 args below meth c H locs kc ns rm.cells rm.slots (F0 x.2.1 pc ls st0) st (QcT D wc Po' H.size (Value.ref b :: vs).toArray) (fun _ _ _ => False) (AT wc H.size) := vx_runV (g := F0 x.2.1 pc ls st0) ⟨hx, hb, hml, hown, hts⟩ (M l hst H.size) (cwV n hts g hw rfl rfl ⟨rfl, hy.1, hy.2.1, hy.2.2⟩ hR) ⟨preT_blind, hrv, preT_at X hH0 hK hSt hT hP hS isC hnC hC⟩ rfl hlen (hl1.1.trans hn) hstk (lv_room (m := x.2.1) (pc := pc) (ls := ls) (rest := st) hsum) d hf
  have hsub := va_free hD hS X.2 isC hC
  intro T hT' Y
  rcases run T hT' Y with ⟨v2, st₀, t, T', L, h0, Y', hL, e1, e2, ⟨v3, w', hpo, hv, hPw, hDw, hF⟩, stp⟩ | ⟨q2, st₀, t, T', L, E, ce, h0, Y', hL, e1, e2, hfalse, hce, hcv, hcl, stp⟩
  · cases hv
    obtain ⟨k1, k2, k3⟩ := vx_keep h0 e1 hS (fun q _ h => hsub q h) hsub hL hF
    obtain ⟨j1, j2⟩ := va_join hP1 hD isC isR hC hRr hnR hdis (H1 := T'.heap) k2 hsub (by rw [e1]; exact hPw) hDw
    obtain ⟨t2, a1, b1⟩ := (hω _ _ _ _ _).mp (k0 v2 w' hpo T'.heap (locs ++ L) ls hl1 ((X.1 _ _).mpr ⟨j1, j2⟩) k3) T' rfl Y'
    exact ⟨t2, stp t2 a1, b1⟩
  · exact absurd hfalse id
theorem jt_callS (C : Cv K x cc mL own ret tab Ts R D tys) (X : Wt x D) {y : MethodName} {bytes : ByteArray} {maxL idx n : Nat} {ret' : Option FieldType} {wsM wsM' : List Cond} {rm : Room} {vs : List Value} (M : MT y wsM rm vs K D tys wc Po') (d : decode cc pc = .ok (.invokestatic idx, 3)) (g : GoodIn Ts (va_wsS own idx y wsM)) (hw : wsM = Cond.code y bytes maxL ret' :: wsM') (hy : hyOk y n) (hlen : vs.length = n)
    (isC isR : List Nat) (hC : isC.map (fun i => w[i]?) = wc.map some) (hRr : isR.map (fun i => w[i]?) = wr.map some) (hnC : va_nd isC = true) (hnR : va_nd isR = true) (hdis : ∀ i ∈ isR, i ∉ isC) (hstk : st0 = vs.reverse ++ st) (hR : rm.frames + 1 ≤ R.frames ∧ 8 + (maxL + 11) + rm.locals ≤ R.locals) (hsum : (st.map fun v => v.category).sum ≤ 8) (hf : kc + rm.cells ≤ R.cells ∧ ns + rm.slots ≤ R.slots) (k0 : ∀ v w', Po' v w' → J x lo (v.toList ++ st) (wr ++ w') (pc + 3) (kc + rm.cells) (ns + rm.slots)) : J x lo st0 w pc kc ns := by
  obtain ⟨p, l, e, s, args, below, meth, c, Qc, XC, free, hω, hx, hb, hml, hn, hts, hown, hK, hr, hlk, htab, hst, hH0, hSt, hT⟩ := C
  intro H locs ls hl1 hP hS
  refine (hω _ _ _ _ _).mpr ?_
  obtain ⟨hP1, hD⟩ := (X.1 w H).mp hP
  have run : vx_Run p l e R s x.2.1 args below meth c H locs kc ns rm.cells rm.slots (F0 x.2.1 pc ls st0) st (QcT D wc Po' H.size vs.toArray) (fun _ _ _ => False) (AT wc H.size) := vx_runS (g := F0 x.2.1 pc ls st0) ⟨hx, hb, hml, hown, hts⟩ (M l hst H.size) (va_cwS n hts g hw rfl rfl ⟨hy.1, hy.2.1, hy.2.2⟩ hR) ⟨preT_blind, preT_at X hH0 hK hSt hT hP hS isC hnC hC⟩ rfl hlen (hl1.1.trans hn) hstk (lv_room (m := x.2.1) (pc := pc) (ls := ls) (rest := st) hsum) d hf
  have hsub := va_free hD hS X.2 isC hC
  intro T hT' Y
  rcases run T hT' Y with ⟨v2, st₀, t, T', L, h0, Y', hL, e1, e2, ⟨v3, w', hpo, hv, hPw, hDw, hF⟩, stp⟩ | ⟨q2, st₀, t, T', L, E, ce, h0, Y', hL, e1, e2, hfalse, hce, hcv, hcl, stp⟩
  · cases hv
    obtain ⟨k1, k2, k3⟩ := vx_keep h0 e1 hS (fun q _ h => hsub q h) hsub hL hF
    obtain ⟨j1, j2⟩ := va_join hP1 hD isC isR hC hRr hnR hdis (H1 := T'.heap) k2 hsub (by rw [e1]; exact hPw) hDw
    obtain ⟨t2, a1, b1⟩ := (hω _ _ _ _ _).mp (k0 v2 w' hpo T'.heap (locs ++ L) ls hl1 ((X.1 _ _).mpr ⟨j1, j2⟩) k3) T' rfl Y'
    exact ⟨t2, stp t2 a1, b1⟩
  · exact absurd hfalse id
theorem jt_callI (C : Cv K x cc mL own ret tab Ts R D tys) (X : Wt x D) {y : MethodName} {bytes : ByteArray} {maxL idx b n : Nat} {wsM wsM' : List Cond} {rm : Room} {vs : List Value} (M : MT y wsM rm (.ref b :: vs) K D tys wc Po') (d : decode cc pc = .ok (.invokespecial idx, 3)) (g : GoodIn Ts wsM) (hw : wsM = Cond.code y bytes maxL none :: wsM') (w1 : Cond.initialized y.cls ∈ Ts) (w2 : Cond.methodLink own idx y ∈ Ts) (w3 : Cond.instanceMethod y ∈ Ts) (hy1 : y.name = "<init>") (hy : hyOk y n) (hlen : vs.length = n)
    (isC isR : List Nat) (hC : isC.map (fun i => w[i]?) = wc.map some) (hRr : isR.map (fun i => w[i]?) = wr.map some) (hnC : va_nd isC = true) (hnR : va_nd isR = true) (hdis : ∀ i ∈ isR, i ∉ isC) (hstk : st0 = vs.reverse ++ .ref b :: st) (hR : rm.frames + 1 ≤ R.frames ∧ 8 + (maxL + 11) + rm.locals ≤ R.locals) (hsum : (st.map fun v => v.category).sum ≤ 8) (hf : kc + rm.cells ≤ R.cells ∧ ns + rm.slots ≤ R.slots) (k0 : ∀ v w', Po' v w' → J x lo (v.toList ++ st) (wr ++ w') (pc + 3) (kc + rm.cells) (ns + rm.slots)) : J x lo st0 w pc kc ns := by
  obtain ⟨p, l, e, s, args, below, meth, c, Qc, XC, free, hω, hx, hb, hml, hn, hts, hown, hK, hr, hlk, htab, hst, hH0, hSt, hT⟩ := C
  intro H locs ls hl1 hP hS
  refine (hω _ _ _ _ _).mpr ?_
  obtain ⟨hP1, hD⟩ := (X.1 w H).mp hP
  have run : vx_Run p l e R s x.2.1 args below meth c H locs kc ns rm.cells rm.slots (F0 x.2.1 pc ls st0) st (QcT D wc Po' H.size (Value.ref b :: vs).toArray) (fun _ _ _ => False) (AT wc H.size) := vx_runI (g := F0 x.2.1 pc ls st0) ⟨hx, hb, hml, hown, hts⟩ (M l hst H.size) (cwI n hts g hw rfl rfl (hts _ w1) (hts _ w2) (hts _ w3) hy1 hy hR) ⟨preT_blind, preT_at X hH0 hK hSt hT hP hS isC hnC hC⟩ rfl hlen (hl1.1.trans hn) hstk (lv_room (m := x.2.1) (pc := pc) (ls := ls) (rest := st) hsum) d hf
  have hsub := va_free hD hS X.2 isC hC
  intro T hT' Y
  rcases run T hT' Y with ⟨v2, st₀, t, T', L, h0, Y', hL, e1, e2, ⟨v3, w', hpo, hv, hPw, hDw, hF⟩, stp⟩ | ⟨q2, st₀, t, T', L, E, ce, h0, Y', hL, e1, e2, hfalse, hce, hcv, hcl, stp⟩
  · cases hv
    obtain ⟨k1, k2, k3⟩ := vx_keep h0 e1 hS (fun q _ h => hsub q h) hsub hL hF
    obtain ⟨j1, j2⟩ := va_join hP1 hD isC isR hC hRr hnR hdis (H1 := T'.heap) k2 hsub (by rw [e1]; exact hPw) hDw
    obtain ⟨t2, a1, b1⟩ := (hω _ _ _ _ _).mp (k0 v2 w' hpo T'.heap (locs ++ L) ls hl1 ((X.1 _ _).mpr ⟨j1, j2⟩) k3) T' rfl Y'
    exact ⟨t2, stp t2 a1, b1⟩
  · exact absurd hfalse id
end TCALLS
