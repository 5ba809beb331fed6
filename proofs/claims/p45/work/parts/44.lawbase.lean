/-! THE LAW: rows over the world of both systems and the text -/
/-- the script, read where it lay at the start -/
def CS9 (x : Xt Tx) (b L : Nat) (xs : Nat → Int32) : Prop :=
  ∃ (p : Program) (l : Launch) (e : Env) (R : Room) (s : State) (args : Array Value) (below : List Frame) (meth : Method) (c : Code) (Q : State → Prop), (∀ H locs k n g, x.1 H locs k n g ↔ W p l e R s x.2.1 args below meth c H locs k n Q g) ∧ p.tables.exec = Jvm.exec ∧ c.code = code ∧ va_X b L xs s s.heap ∧ b < s.heap.size ∧ x.2.2.2.2.2.1 = s.heap ∧ ¬ x.2.2.2.2.1 b
abbrev tys9 (G : Gt) (cB : ClassId) : List (ClassId × FieldType) := (cB, .byte) :: tysF G
section L44
variable {K : Nat → Nat} {x : Xt Tx} {G : Gt} {cB : ClassId} {cc : ByteArray} {mL : Nat} {own : String} {ret : Option FieldType} {tab : List ExceptionTableEntry} {Ts : List Cond} {R : Room} {tys : List (ClassId × FieldType)} {lo : List (Nat × Value)} {st st0 : List Value} {w T : Tx} {σ σ1 : Mem} {pc kc ns : Nat} {b L : Nat} {xs : Nat → Int32}
theorem jl_sld (S : CS9 x b L xs) {p : Nat} (d : decode code pc = .ok (.iaload, 1)) (hp : p < L) (hL : L < 100000) (k0 : J x lo (.int (xs p) :: st) w (pc + 1) kc ns) : J x lo (.int (nI p) :: .ref b :: st) w pc kc ns := by
  obtain ⟨p9, l, e, R, s, args, below, meth, c, Q, hω, hx, hb, hX, hbl, hH0, hbA⟩ := S
  intro H locs ls hl hP hS
  refine (hω _ _ _ _ _).mpr ?_
  rw [hH0] at hS
  refine va_sld hx hb hX hbl hbA hS (vp_in_nI hp (by omega)) d ?_
  rw [nI_cl (by omega)]
  exact (hω _ _ _ _ _).mp (k0 H locs ls hl hP (by rw [hH0]; exact hS))
theorem jl_slen (S : CS9 x b L xs) (d : decode code pc = .ok (.arraylength, 1)) (k0 : J x lo (.int (nI L) :: st) w (pc + 1) kc ns) : J x lo (.ref b :: st) w pc kc ns := by
  obtain ⟨p9, l, e, R, s, args, below, meth, c, Q, hω, hx, hb, hX, hbl, hH0, hbA⟩ := S
  intro H locs ls hl hP hS
  refine (hω _ _ _ _ _).mpr ?_
  rw [hH0] at hS
  exact va_slen hx hb hX hbl hbA hS d ((hω _ _ _ _ _).mp (k0 H locs ls hl hP (by rw [hH0]; exact hS)))
theorem jl_tableIn (S : CS9 x b L xs) {dflt lo9 hi : Int} {offs : Array Int} {len : Nat} {v : Int32} {off : Int} {tgt : Nat} (d : decode code pc = .ok (.tableswitch dflt lo9 hi offs, len)) (h1 : ¬ v.toInt < lo9) (h2 : ¬ hi < v.toInt) (ho : offs[(v.toInt - lo9).toNat]? = some off) (ht : (pc : Int) + off = (tgt : Int)) (k0 : J x lo st w tgt kc ns) : J x lo (.int v :: st) w pc kc ns := by
  obtain ⟨p9, l, e, R, s, args, below, meth, c, Q, hω, hx, hb, hX, hbl, hH0, hbA⟩ := S
  intro H locs ls hl hP hS
  refine (hω _ _ _ _ _).mpr ?_
  exact lv_tableIn hx hb d h1 h2 ho ht ((hω _ _ _ _ _).mp (k0 H locs ls hl hP hS))
theorem jl_tableOut (S : CS9 x b L xs) {dflt lo9 hi : Int} {offs : Array Int} {len : Nat} {v : Int32} {tgt : Nat} (d : decode code pc = .ok (.tableswitch dflt lo9 hi offs, len)) (h : v.toInt < lo9 ∨ hi < v.toInt) (ht : (pc : Int) + dflt = (tgt : Int)) (k0 : J x lo st w tgt kc ns) : J x lo (.int v :: st) w pc kc ns := by
  obtain ⟨p9, l, e, R, s, args, below, meth, c, Q, hω, hx, hb, hX, hbl, hH0, hbA⟩ := S
  intro H locs ls hl hP hS
  refine (hω _ _ _ _ _).mpr ?_
  exact lv_tableOut hx hb d h ht ((hω _ _ _ _ _).mp (k0 H locs ls hl hP hS))
theorem g9_in {i : Nat} (h : i < 41) : (wsF G σ ++ T)[i]? = some (G.2.2 i, En G σ i) := by
  rw [List.getElem?_append_left (by rw [g_len]; exact h)]
  exact g_in h
theorem g9_out {i : Nat} (h : ¬ i < 41) : (wsF G σ ++ T)[i]? = T[i - 41]? := by
  rw [List.getElem?_append_right (by rw [g_len]; omega), g_len]
theorem g9_ad {k : Nat} {q : Nat × va_E} (h : (wsF G σ1 ++ T)[k]? = some q) : ∃ q', (wsF G σ ++ T)[k]? = some q' ∧ q'.1 = q.1 := by
  by_cases hk : k < 41
  · rw [g9_in hk] at h
    cases h
    exact ⟨_, g9_in hk, rfl⟩
  · rw [g9_out hk] at h
    exact ⟨q, by rw [g9_out hk]; exact h, rfl⟩
theorem jm_sub (X : Wt x G.1) {H : Heap} {locs : List Loc} (hD : va_D x.2.2.2.2.1 (wsF G σ ++ T)) (hS : va_S x.2.2.2.2.1 x.2.2.2.2.2.1 H locs) : ∀ q, AF G H.size q → x.2.2.2.2.1 q := fun q h => by
  rcases h with ⟨i, hi, rfl⟩ | h
  · exact hD.2 i _ (g9_in hi)
  · exact X.2 q (Nat.le_trans hS.1 h)
theorem jm_pre (X : Wt x G.1) {s : State} {H : Heap} {locs : List Loc} {vs : List Value} (hH0 : x.2.2.2.2.2.1 = s.heap) (hK : va_K G.1 vwCl (tys9 G cB) s) (hSt : St x.2.2.2.2.1 s s.heap) (hP : x.2.2.2.1 (wsF G σ ++ T) H) (hS : va_S x.2.2.2.2.1 x.2.2.2.2.2.1 H locs) :
    ∀ U : State, U.heap = H → s.WarmedH U.vm → va_Pc vs (PreM G σ H.size) vs.toArray U := by
  intro U hU hW
  obtain ⟨hP1, hD⟩ := (X.1 _ H).mp hP
  have hsub := jm_sub X hD hS
  rw [hH0] at hS
  refine ⟨rfl, by rw [hU], ?_, va_K.moved hW.alike (hK.sub [1, 2] rfl), fun i j hi hj e => hD.1 i j _ _ (g9_in hi) (g9_in hj) e, ?_⟩
  · rw [hU]
    intro k q hk
    have h5 : k < 41 := by
      have := (List.getElem?_eq_some_iff.mp hk).1
      rw [g_len] at this
      exact this
    exact hP1 k q (by rw [g9_in h5]; rw [g_in h5] at hk; exact hk)
  · rw [hU]
    exact ⟨((hSt.1.kept hS.2.1).narrow hsub).moved hW.alike, ((hSt.2.1.kept hS.2.1).narrow hsub).moved hW.alike, SR.warm hW hSt.2.2.1, CS.warm hW hSt.2.2.2⟩
theorem jm_join {A : Nat → Prop} {H H1 : Heap} (hP : va_P G.1 vwCl (wsF G σ ++ T) H) (hD : va_D A (wsF G σ ++ T)) (hk : ∀ q : Nat, q < H.size → ¬ AF G H.size q → H1[q]? = H[q]?) (hP1 : va_P G.1 vwCl (wsF G σ1) H1) : va_P G.1 vwCl (wsF G σ1 ++ T) H1 ∧ va_D A (wsF G σ1 ++ T) := by
  refine ⟨fun k q hq => ?_, fun i j a c ha hc e => ?_, fun k q hq => ?_⟩
  · by_cases h5 : k < 41
    · rw [g9_in h5] at hq
      exact hP1 k q (by rw [g_in h5]; exact hq)
    · rw [g9_out h5] at hq
      have hq2 : (wsF G σ ++ T)[k]? = some q := by rw [g9_out h5]; exact hq
      have hlt := (hP k q hq2).lt
      refine (hP k q hq2).kept (hk q.1 hlt ?_)
      rintro (⟨i, hi, e⟩ | h)
      · have := hD.1 k i _ _ hq2 (g9_in hi) e
        omega
      · omega
  · obtain ⟨a', h1, h2⟩ := g9_ad (σ := σ) ha
    obtain ⟨c', h3, h4⟩ := g9_ad (σ := σ) hc
    exact hD.1 i j _ _ h1 h3 (by rw [h2, h4]; exact e)
  · obtain ⟨a', h1, h2⟩ := g9_ad (σ := σ) hq
    rw [← h2]
    exact hD.2 k _ h1
/-- a call of a method that has a contract over both systems' memory -/
theorem jm_callV {N1 N2 : Nat} (C : Cv K x cc mL own ret tab Ts R G.1 (tys9 G cB)) (X : Wt x G.1) {y : MethodName} {bytes : ByteArray} {maxL idx b9 K9 n : Nat} {ret' : Option FieldType} {wsM wsM' : List Cond} {rm : Room} {vs : List Value} {v : Option Value} (M : MM y wsM rm (.ref (G.2.2 b9) :: vs) G σ (.inl v) σ1) (d : decode cc pc = .ok (.invokevirtual idx, 3)) (g : GoodIn Ts (wsV own idx y.cls y wsM)) (hw : wsM = Cond.code y bytes maxL ret' :: wsM') (hy : hyOk y n) (hlen : vs.length = n) (hi : Ok b9 K9) {ci : Nat} {q : vw_C} {fs : List Value} (he : EnR G b9 K9 (σ.1 b9) (σ.2 b9) = .inr (ci, fs)) (hc : vwCl[ci]? = some q) (hq : q.1 = y.cls) (hstk : st0 = vs.reverse ++ .ref (G.2.2 b9) :: st) (hR : rm.frames + 1 ≤ R.frames ∧ 8 + (maxL + 11) + rm.locals ≤ R.locals) (hsum : (st.map fun v => v.category).sum ≤ 8) (hc9 : rm.cells ≤ N1) (hs9 : rm.slots ≤ N2) (hf : kc + N1 ≤ R.cells ∧ ns + N2 ≤ R.slots) (k0 : J x lo (v.toList ++ st) (wsF G σ1 ++ T) (pc + 3) (kc + N1) (ns + N2)) : J x lo st0 (wsF G σ ++ T) pc kc ns := by
  obtain ⟨p, l, e, s, args, below, meth, c, Qc, XC, free, hω, hx, hb, hml, hn, hts, hown, hK, hr, hlk, htab, hst, hH0, hSt, hT⟩ := C
  intro H locs ls hl1 hP hS
  refine (hω _ _ _ _ _).mpr ?_
  obtain ⟨hP1, hD⟩ := (X.1 _ H).mp hP
  have hrv := va_recv hK hP1 hc (show (wsF G σ ++ T)[b9]? = some (G.2.2 b9, .inr (ci, fs)) by rw [g9_in hi.1]; unfold En; rw [hi.2, he])
  rw [hq] at hrv
  have hsub := jm_sub X hD hS
  have run : vx_Run p l e R s x.2.1 args below meth c H locs kc ns rm.cells rm.slots (F0 x.2.1 pc ls st0) st (QcM G (.inl v) σ1 H.size (Value.ref (G.2.2 b9) :: vs).toArray) (XcM G (.inl v) σ1 H.size) (AF G H.size) := vx_runV (g := F0 x.2.1 pc ls st0) ⟨hx, hb, hml, hown, hts⟩ (M l hst H.size) (cwV n hts g hw rfl rfl ⟨rfl, hy.1, hy.2.1, hy.2.2⟩ hR) ⟨preM_blind, hrv, jm_pre X hH0 hK hSt hP hS⟩ rfl hlen (hl1.1.trans hn) hstk (lv_room (m := x.2.1) (pc := pc) (ls := ls) (rest := st) hsum) d ⟨by omega, by omega⟩
  intro T9 hT9 Y
  rcases run T9 hT9 Y with ⟨v2, st₀, t, T', L', h0, Y', hL, e1, e2, ⟨v3, ho, hv, hP2, hF⟩, stp⟩ | ⟨q2, st₀, t, T', L', E, ce, h0, Y', hL, e1, e2, ⟨ho, hP2, hF⟩, hce, hcv, hcl, stp⟩
  · cases ho
    cases hv
    obtain ⟨k1, k2, k3⟩ := vx_keep h0 e1 hS (fun q _ h => hsub q h) hsub hL hF
    have hJ := jm_join (σ1 := σ1) hP1 hD (H1 := T'.heap) k2 (by rw [e1]; exact hP2)
    obtain ⟨t2, a1, b1⟩ := W.widen (show kc + rm.cells ≤ kc + N1 by omega) (show ns + rm.slots ≤ ns + N2 by omega) ((hω _ _ _ _ _).mp (k0 T'.heap (locs ++ L') ls hl1 ((X.1 _ _).mpr hJ) k3)) T' rfl Y'
    exact ⟨t2, stp t2 a1, b1⟩
  · cases ho
theorem jm_callSX {N1 N2 : Nat} (C : Cv K x cc mL own ret tab Ts R G.1 (tys9 G cB)) (X : Wt x G.1) {y : MethodName} {bytes : ByteArray} {maxL idx n : Nat} {ret' : Option FieldType} {wsM wsM' : List Cond} {hh : List (Nat × Nat × Nat × Nat)} {rm : Room} {vs : List Value} {v : Option Value} (M : MM y wsM rm vs G σ (.inl v) σ1) (d : decode cc pc = .ok (.invokestatic idx, 3)) (g : GoodIn Ts (va_wsS own idx y wsM)) (hw : wsM = Cond.codeWith y bytes maxL ret' hh :: wsM') (hy : hyOk y n) (hlen : vs.length = n) (hstk : st0 = vs.reverse ++ st) (hR : rm.frames + 1 ≤ R.frames ∧ 8 + (maxL + 11) + rm.locals ≤ R.locals) (hsum : (st.map fun v => v.category).sum ≤ 8) (hc9 : rm.cells ≤ N1) (hs9 : rm.slots ≤ N2) (hf : kc + N1 ≤ R.cells ∧ ns + N2 ≤ R.slots) (k0 : J x lo (v.toList ++ st) (wsF G σ1 ++ T) (pc + 3) (kc + N1) (ns + N2)) : J x lo st0 (wsF G σ ++ T) pc kc ns := by
  obtain ⟨p, l, e, s, args, below, meth, c, Qc, XC, free, hω, hx, hb, hml, hn, hts, hown, hK, hr, hlk, htab, hst, hH0, hSt, hT⟩ := C
  intro H locs ls hl1 hP hS
  refine (hω _ _ _ _ _).mpr ?_
  obtain ⟨hP1, hD⟩ := (X.1 _ H).mp hP
  have hsub := jm_sub X hD hS
  have run : vx_Run p l e R s x.2.1 args below meth c H locs kc ns rm.cells rm.slots (F0 x.2.1 pc ls st0) st (QcM G (.inl v) σ1 H.size vs.toArray) (XcM G (.inl v) σ1 H.size) (AF G H.size) := vx_runSX (g := F0 x.2.1 pc ls st0) ⟨hx, hb, hml, hown, hts⟩ (M l hst H.size) (vx_cwSW n hts g hw rfl rfl ⟨hy.1, hy.2.1, hy.2.2⟩ hR) ⟨preM_blind, jm_pre X hH0 hK hSt hP hS⟩ rfl hlen (hl1.1.trans hn) hstk (lv_room (m := x.2.1) (pc := pc) (ls := ls) (rest := st) hsum) d ⟨by omega, by omega⟩
  intro T9 hT9 Y
  rcases run T9 hT9 Y with ⟨v2, st₀, t, T', L', h0, Y', hL, e1, e2, ⟨v3, ho, hv, hP2, hF⟩, stp⟩ | ⟨q2, st₀, t, T', L', E, ce, h0, Y', hL, e1, e2, ⟨ho, hP2, hF⟩, hce, hcv, hcl, stp⟩
  · cases ho
    cases hv
    obtain ⟨k1, k2, k3⟩ := vx_keep h0 e1 hS (fun q _ h => hsub q h) hsub hL hF
    have hJ := jm_join (σ1 := σ1) hP1 hD (H1 := T'.heap) k2 (by rw [e1]; exact hP2)
    obtain ⟨t2, a1, b1⟩ := W.widen (show kc + rm.cells ≤ kc + N1 by omega) (show ns + rm.slots ≤ ns + N2 by omega) ((hω _ _ _ _ _).mp (k0 T'.heap (locs ++ L') ls hl1 ((X.1 _ _).mpr hJ) k3)) T' rfl Y'
    exact ⟨t2, stp t2 a1, b1⟩
  · cases ho
theorem jm_callS {N1 N2 : Nat} (C : Cv K x cc mL own ret tab Ts R G.1 (tys9 G cB)) (X : Wt x G.1) {y : MethodName} {bytes : ByteArray} {maxL idx n : Nat} {ret' : Option FieldType} {wsM wsM' : List Cond} {rm : Room} {vs : List Value} {v : Option Value} (M : MM y wsM rm vs G σ (.inl v) σ1) (d : decode cc pc = .ok (.invokestatic idx, 3)) (g : GoodIn Ts (va_wsS own idx y wsM)) (hw : wsM = Cond.code y bytes maxL ret' :: wsM') (hy : hyOk y n) (hlen : vs.length = n) (hstk : st0 = vs.reverse ++ st) (hR : rm.frames + 1 ≤ R.frames ∧ 8 + (maxL + 11) + rm.locals ≤ R.locals) (hsum : (st.map fun v => v.category).sum ≤ 8) (hc9 : rm.cells ≤ N1) (hs9 : rm.slots ≤ N2) (hf : kc + N1 ≤ R.cells ∧ ns + N2 ≤ R.slots) (k0 : J x lo (v.toList ++ st) (wsF G σ1 ++ T) (pc + 3) (kc + N1) (ns + N2)) : J x lo st0 (wsF G σ ++ T) pc kc ns := by
  obtain ⟨p, l, e, s, args, below, meth, c, Qc, XC, free, hω, hx, hb, hml, hn, hts, hown, hK, hr, hlk, htab, hst, hH0, hSt, hT⟩ := C
  intro H locs ls hl1 hP hS
  refine (hω _ _ _ _ _).mpr ?_
  obtain ⟨hP1, hD⟩ := (X.1 _ H).mp hP
  have hsub := jm_sub X hD hS
  have run : vx_Run p l e R s x.2.1 args below meth c H locs kc ns rm.cells rm.slots (F0 x.2.1 pc ls st0) st (QcM G (.inl v) σ1 H.size vs.toArray) (XcM G (.inl v) σ1 H.size) (AF G H.size) := vx_runS (g := F0 x.2.1 pc ls st0) ⟨hx, hb, hml, hown, hts⟩ (M l hst H.size) (va_cwS n hts g hw rfl rfl ⟨hy.1, hy.2.1, hy.2.2⟩ hR) ⟨preM_blind, jm_pre X hH0 hK hSt hP hS⟩ rfl hlen (hl1.1.trans hn) hstk (lv_room (m := x.2.1) (pc := pc) (ls := ls) (rest := st) hsum) d ⟨by omega, by omega⟩
  intro T9 hT9 Y
  rcases run T9 hT9 Y with ⟨v2, st₀, t, T', L', h0, Y', hL, e1, e2, ⟨v3, ho, hv, hP2, hF⟩, stp⟩ | ⟨q2, st₀, t, T', L', E, ce, h0, Y', hL, e1, e2, ⟨ho, hP2, hF⟩, hce, hcv, hcl, stp⟩
  · cases ho
    cases hv
    obtain ⟨k1, k2, k3⟩ := vx_keep h0 e1 hS (fun q _ h => hsub q h) hsub hL hF
    have hJ := jm_join (σ1 := σ1) hP1 hD (H1 := T'.heap) k2 (by rw [e1]; exact hP2)
    obtain ⟨t2, a1, b1⟩ := W.widen (show kc + rm.cells ≤ kc + N1 by omega) (show ns + rm.slots ≤ ns + N2 by omega) ((hω _ _ _ _ _).mp (k0 T'.heap (locs ++ L') ls hl1 ((X.1 _ _).mpr hJ) k3)) T' rfl Y'
    exact ⟨t2, stp t2 a1, b1⟩
  · cases ho
/-- a static method with a table, over the text's world -/
theorem jt_callSX {Po' : Option Value → Tx → Prop} {D : va_G} {wc wr : Tx} (C : Cv K x cc mL own ret tab Ts R D tys) (X : Wt x D) {y : MethodName} {bytes : ByteArray} {maxL idx n : Nat} {ret' : Option FieldType} {wsM wsM' : List Cond} {hh : List (Nat × Nat × Nat × Nat)} {rm : Room} {vs : List Value} (M : MT y wsM rm vs K D tys wc Po') (d : decode cc pc = .ok (.invokestatic idx, 3)) (g : GoodIn Ts (va_wsS own idx y wsM)) (hw : wsM = Cond.codeWith y bytes maxL ret' hh :: wsM') (hy : hyOk y n) (hlen : vs.length = n)
    (isC isR : List Nat) (hC : isC.map (fun i => w[i]?) = wc.map some) (hRr : isR.map (fun i => w[i]?) = wr.map some) (hnC : va_nd isC = true) (hnR : va_nd isR = true) (hdis : ∀ i ∈ isR, i ∉ isC) (hstk : st0 = vs.reverse ++ st) (hR : rm.frames + 1 ≤ R.frames ∧ 8 + (maxL + 11) + rm.locals ≤ R.locals) (hsum : (st.map fun v => v.category).sum ≤ 8) (hf : kc + rm.cells ≤ R.cells ∧ ns + rm.slots ≤ R.slots) (k0 : ∀ v w', Po' v w' → J x lo (v.toList ++ st) (wr ++ w') (pc + 3) (kc + rm.cells) (ns + rm.slots)) : J x lo st0 w pc kc ns := by
  obtain ⟨p, l, e, s, args, below, meth, c, Qc, XC, free, hω, hx, hb, hml, hn, hts, hown, hK, hr, hlk, htab, hst, hH0, hSt, hT⟩ := C
  intro H locs ls hl1 hP hS
  refine (hω _ _ _ _ _).mpr ?_
  obtain ⟨hP1, hD⟩ := (X.1 w H).mp hP
  have run : vx_Run p l e R s x.2.1 args below meth c H locs kc ns rm.cells rm.slots (F0 x.2.1 pc ls st0) st (QcT D wc Po' H.size vs.toArray) (fun _ _ _ => False) (AT wc H.size) := vx_runSX (g := F0 x.2.1 pc ls st0) ⟨hx, hb, hml, hown, hts⟩ (M l hst H.size) (vx_cwSW n hts g hw rfl rfl ⟨hy.1, hy.2.1, hy.2.2⟩ hR) ⟨preT_blind, preT_at X hH0 hK hSt hT hP hS isC hnC hC⟩ rfl hlen (hl1.1.trans hn) hstk (lv_room (m := x.2.1) (pc := pc) (ls := ls) (rest := st) hsum) d hf
  have hsub := va_free hD hS X.2 isC hC
  intro T9 hT' Y
  rcases run T9 hT' Y with ⟨v2, st₀, t, T', L', h0, Y', hL, e1, e2, ⟨v3, w', hpo, hv, hPw, hDw, hF⟩, stp⟩ | ⟨q2, st₀, t, T', L', E, ce, h0, Y', hL, e1, e2, hfalse, hce, hcv, hcl, stp⟩
  · cases hv
    obtain ⟨k1, k2, k3⟩ := vx_keep h0 e1 hS (fun q _ h => hsub q h) hsub hL hF
    obtain ⟨j1, j2⟩ := va_join hP1 hD isC isR hC hRr hnR hdis (H1 := T'.heap) k2 hsub (by rw [e1]; exact hPw) hDw
    obtain ⟨t2, a1, b1⟩ := (hω _ _ _ _ _).mp (k0 v2 w' hpo T'.heap (locs ++ L') ls hl1 ((X.1 _ _).mpr ⟨j1, j2⟩) k3) T' rfl Y'
    exact ⟨t2, stp t2 a1, b1⟩
  · exact absurd hfalse id
end L44
theorem lg_cmp_self (a : Int64) : lg_cmp a a = 0 := by
  unfold lg_cmp
  rw [if_neg (show ¬ a > a from fun h => absurd h (Int64.lt_irrefl)), if_pos rfl]
theorem RX.mono {B B' : Nat} {σ τ : Mem} (h : RX B σ τ) (hB : B ≤ B') : RX B' σ τ := h.to hB (fun _ _ _ _ _ _ => rfl) (fun _ _ => rfl) (fun _ _ _ _ _ _ => rfl)
abbrev wsL : List Cond := Cond.initialized RL :: wsT
theorem ok40 : Ok 40 5 := ⟨by decide, rfl⟩
theorem gCm {c1 : Cond} {L : List Cond} (hL : ∀ w ∈ L, w ∈ wsT) (h1 : c1 ∈ wsT) : ∀ w ∈ L ++ (c1 :: wsU), w ∈ wsT := fun w hw => (List.mem_append.mp hw).elim (hL w) (fun h => (List.mem_cons.mp h).elim (fun e => e ▸ h1) mUT)
theorem gVm9 {c0 : Cond} {own : String} {idx mL : Nat} {y : MethodName} {b : ByteArray} {ret : Option FieldType} (h1 : Cond.methodLink own idx y ∈ wsT) (h2 : Cond.instanceMethod y ∈ wsT) (h3 : Cond.selects y.cls y y ∈ wsT) (h4 : Cond.initialized y.cls ∈ wsT) (h5 : Cond.code y b mL ret ∈ wsT) : GoodIn (c0 :: wsT) (wsV own idx y.cls y (Cond.code y b mL ret :: wsU)) := gT9 (gCm (L := [.methodLink own idx y, .instanceMethod y, .selects y.cls y y, .initialized y.cls]) (m4_ h1 h2 h3 h4) h5)
theorem gSm9 {c0 : Cond} {own : String} {idx mL : Nat} {y : MethodName} {b : ByteArray} {ret : Option FieldType} {hh : List (Nat × Nat × Nat × Nat)} (h1 : Cond.methodLink own idx y ∈ wsT) (h2 : Cond.static y ∈ wsT) (h4 : Cond.initialized y.cls ∈ wsT) (h5 : Cond.codeWith y b mL ret hh ∈ wsT) : GoodIn (c0 :: wsT) (va_wsS own idx y (Cond.codeWith y b mL ret hh :: wsU)) := gT9 (gCm (L := [.methodLink own idx y, .static y, .initialized y.cls]) (m3_ h1 h2 h4) h5)
theorem dq_ne {a b : Int32} (h : ¬ b = 0) : FP.Core.val64 (dq a b) ≠ .nan := by
  obtain ⟨s, c, q, e1, -⟩ := dq_val a
  obtain ⟨t, d, r, e2, e3⟩ := dq_val b
  unfold dq
  rw [show FP.Core.val64 (FP.ddiv (FP.i2d a) (FP.i2d b)) = FP.Core.quotient FP.Core.b64 (FP.Core.val64 (FP.i2d a)) (FP.Core.val64 (FP.i2d b)) from FP.Core.val64_ddiv _ _, e1, e2]
  unfold FP.Core.quotient
  simp only []
  rw [if_neg (e3 h)]
  exact dq_nn _ _ _ _
