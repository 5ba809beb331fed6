/-! THE LAW: its script read by a method, its literal's characters -/
/-- what at(script, k) answers -/
def atv (xs : Nat → Int32) (L : Nat) (k : Int32) : Int32 := if nI L ≤ k then 0 else xs k.toNatClampNeg
def chF (i : Int32) : Int32 := (litB.getD 7 []).getD i.toNatClampNeg 0
def PreA (b L : Nat) (xs : Nat → Int32) (sz : Nat) (U : State) : Prop := U.heap.size = sz ∧ b < sz ∧ va_X b L xs U U.heap
def QcA (r : Int32) (sz : Nat) : Array Value → State → Outcome → State → Prop := fun _ st oc t => oc = .returned (some (.int r)) ∧ va_F (fun q => sz ≤ q) st t
abbrev rm_L_at : Room := ({ frames := 10, cells := 0, slots := 0, locals := 200 } : Room)
abbrev wu_L_at : List Cond := (Cond.code yL_at cL_at 2 (some .int)) :: wsU
theorem hy_L_at : hyOk yL_at 2 := by decide +kernel
theorem preA_blind {vs : List Value} {b L : Nat} {xs : Nat → Int32} {sz : Nat} : FrameBlind (va_Pc vs (PreA b L xs sz)) := by
  intro a U g mk h
  obtain ⟨h1, h2, h3, h4⟩ := h
  exact ⟨h1, h2, h3, va_X.moved (u := U) (U := U.calling g mk a) (Vm.Alike.refl U.vm) h4⟩
theorem c_L_at (b L : Nat) (xs : Nat → Int32) (k : Int32) (hL : L < 100000) (hk : ¬ k < 0) (l : Launch) (sz : Nat) : vx_Met l yL_at wu_L_at rm_L_at (va_Pc [.ref b, .int k] (PreA b L xs sz)) (QcA (atv xs L k) sz) (fun _ _ _ => False) 0 0 (fun q => sz ≤ q) := by
  refine vx_ofW (cc := cL_at) (maxL := 2) (ret := some .int) (by decide +kernel) rfl ?_
  intro p e s m args below meth c s₁ B hml htab hv
  obtain ⟨rfl, hsz, hb, hX⟩ := hv
  have hx := B.exec
  have hbb := B.bytes
  have hnb : ¬ sz ≤ b := Nat.not_le.mpr hb
  have hbs : b < s.heap.size := by rw [hsz]; exact hb
  have hS : va_S (fun q => sz ≤ q) s.heap s.heap [] := va_S.rf
  have fin : ∀ (r : Int32) (ls : Array Slot), r = atv xs L k → W p l e (headSpec wu_L_at rm_L_at).room s m [.ref b, .int k].toArray below meth c s.heap [] 0 0 (vx_MQ below (QcA (atv xs L k) sz) (fun _ _ _ => False) [.ref b, .int k].toArray s 0 0 (fun q => sz ≤ q)) (F0 m 13 ls [.int r]) := by
    intro r ls hr
    refine vx_ret ?_
    exact W.iret hx hbb B.returns (fun t ht _ => ⟨by rw [hr], hS.F ht⟩) (fun q hq => by cases hq) dL_at_13 B.notSynchronized
  have hl := lv_entry [.ref b, .int k] (n := 2) (Nat.le_of_ble_eq_true rfl)
  rw [lg_entry_eq]
  generalize (lg_sl ([.ref b, .int k] : List Value) ++ List.replicate (2 - (lg_sl ([.ref b, .int k] : List Value)).length) Slot.unset).toArray = ls at hl ⊢
  refine lv_iload_n hx hbb dL_at_0 rfl (lv_at hl 1 rfl) ?_
  refine lv_aload_n hx hbb dL_at_1 rfl (lv_at hl 0 rfl) ?_
  refine va_slen hx hbb hX hbs hnb hS dL_at_2 ?_
  refine lv_icmp_ge hx hbb dL_at_3 (tgt := 12) (by decide) (fun c1 => ?_) (fun c1 => ?_)
  · refine lv_iconst hx hbb dL_at_12 (v := 0) (by decide) ?_
    exact fin 0 ls (if_pos c1).symm
  · refine lv_aload_n hx hbb dL_at_6 rfl (lv_at hl 0 rfl) ?_
    refine lv_iload_n hx hbb dL_at_7 rfl (lv_at hl 1 rfl) ?_
    have hin : vp_in k L := by
      obtain ⟨j, hj, rfl⟩ := nI_of hk
      have : j < L := Nat.not_le.mp (fun h => c1 (nI_le h hj))
      exact vp_in_nI this (by omega)
    refine va_sld hx hbb hX hbs hnb hS hin dL_at_8 ?_
    refine lv_goto hx hbb dL_at_9 (tgt := 13) (by decide) ?_
    exact fin _ ls (if_neg c1).symm
/-- a context of calls, with the script -/
def CA {S : Type} (K : Nat → Nat) (x : Xt S) (cc : ByteArray) (mL : Nat) (own : String) (ret : Option FieldType) (tab : List ExceptionTableEntry) (Ts : List Cond) (R : Room) (D : va_G) (tys : List (ClassId × FieldType)) (b L : Nat) (xs : Nat → Int32) : Prop :=
  ∃ (p : Program) (l : Launch) (e : Env) (s : State) (args : Array Value) (below : List Frame) (meth : Method) (c : Code) (Qc : Array Value → State → Outcome → State → Prop) (XC : String → State → State → Prop) (free : Addr → Prop),
    (∀ H locs k n g, x.1 H locs k n g ↔ W p l e R s x.2.1 args below meth c H locs k n (vx_MQ below Qc XC args s R.cells R.slots free) g) ∧
    p.tables.exec = Jvm.exec ∧ c.code = cc ∧ c.maxLocals = mL ∧ x.2.2.1 = mL ∧ (∀ w ∈ Ts, w.before args s = true) ∧ s.vm.findClass own = some x.2.1.cls ∧ x.2.2.2.2.2.1 = s.heap ∧ va_X b L xs s s.heap ∧ b < s.heap.size ∧ ¬ x.2.2.2.2.1 b ∧ L < 100000
section L45
variable {K : Nat → Nat} {x : Xt Tx} {D : va_G} {cc : ByteArray} {mL : Nat} {own : String} {ret : Option FieldType} {tab : List ExceptionTableEntry} {Ts : List Cond} {R : Room} {tys : List (ClassId × FieldType)} {lo : List (Nat × Value)} {st : List Value} {w : Tx} {pc kc ns : Nat} {b L : Nat} {xs : Nat → Int32}
theorem jl_at (C : CA K x cc mL own ret tab Ts R D tys b L xs) (X : Wt x D) {idx : Nat} {k : Int32} (d : decode cc pc = .ok (.invokestatic idx, 3)) (g : GoodIn Ts (va_wsS own idx yL_at wu_L_at)) (hk : ¬ k < 0) (hR : rm_L_at.frames + 1 ≤ R.frames ∧ 8 + (2 + 11) + rm_L_at.locals ≤ R.locals) (hsum : (st.map fun v => v.category).sum ≤ 8) (hf : kc ≤ R.cells ∧ ns ≤ R.slots) (k0 : J x lo (.int (atv xs L k) :: st) w (pc + 3) kc ns) : J x lo (.int k :: .ref b :: st) w pc kc ns := by
  obtain ⟨p, l, e, s, args, below, meth, c, Qc, XC, free, hω, hx, hb, hml, hn, hts, hown, hH0, hX, hbl, hbA, hL⟩ := C
  intro H locs ls hl1 hP hS
  refine (hω _ _ _ _ _).mpr ?_
  have hsub : ∀ q, H.size ≤ q → x.2.2.2.2.1 q := fun q h => X.2 q (Nat.le_trans hS.1 h)
  have hsz : s.heap.size ≤ H.size := by rw [← hH0]; exact hS.1
  have hkb : H[b]? = s.heap[b]? := by
    have := hS.2.1 b (by rw [hH0]; exact hbl) hbA
    rw [hH0] at this
    exact this
  have run : vx_Run p l e R s x.2.1 args below meth c H locs kc ns 0 0 (F0 x.2.1 pc ls (.int k :: .ref b :: st)) st (QcA (atv xs L k) H.size [.ref b, .int k].toArray) (fun _ _ _ => False) (fun q => H.size ≤ q) := vx_runS (g := F0 x.2.1 pc ls (.int k :: .ref b :: st)) ⟨hx, hb, hml, hown, hts⟩ (c_L_at b L xs k hL hk l H.size) (va_cwS 2 hts g rfl rfl rfl ⟨hy_L_at.1, hy_L_at.2.1, hy_L_at.2.2⟩ hR) ⟨preA_blind, fun U hU hW => ⟨rfl, by rw [hU], Nat.lt_of_lt_of_le hbl hsz, by rw [hU]; exact (hX.kept hkb).moved hW.alike⟩⟩ rfl rfl (hl1.1.trans hn) rfl (lv_room (m := x.2.1) (pc := pc) (ls := ls) (rest := st) hsum) d hf
  intro T9 hT9 Y
  rcases run T9 hT9 Y with ⟨v2, st₀, t, T', L', h0, Y', hL9, e1, e2, ⟨hv, hF⟩, stp⟩ | ⟨q2, st₀, t, T', L', E, ce, h0, Y', hL9, e1, e2, hfalse, hce, hcv, hcl, stp⟩
  · cases hv
    obtain ⟨k1, k2, k3⟩ := vx_keep h0 e1 hS (fun q _ h => hsub q h) hsub hL9 hF
    have hP1 : x.2.2.2.1 w T'.heap := by
      obtain ⟨p1, p2⟩ := (X.1 w H).mp hP
      exact (X.1 w _).mpr ⟨va_P_kept p1 (fun q hq => k2 q hq (Nat.not_le.mpr hq)), p2⟩
    obtain ⟨t2, a1, b1⟩ := (hω _ _ _ _ _).mp (k0 T'.heap (locs ++ L') ls hl1 hP1 k3) T' rfl Y'
    exact ⟨t2, stp t2 a1, b1⟩
  · exact absurd hfalse id
theorem nd_of : ∀ l : List Nat, l.Nodup → va_nd l = true
  | [], _ => rfl
  | a :: l, h => by
    rw [List.nodup_cons] at h
    show (decide (a ∉ l) && va_nd l) = true
    rw [nd_of l h.2, decide_eq_true h.1]
    rfl
theorem all_pick (w : Tx) : (List.range w.length).map (fun i => w[i]?) = w.map some := by
  apply List.ext_getElem
  · simp
  · intro i h1 h2
    simp
theorem jl_chr (C : Cv K x cc mL own ret tab Ts R D tys) (X : Wt x D) {idx : Nat} {i : Int32} (hi : inR i 6) (d : decode cc pc = .ok (.invokevirtual idx, 3)) (g : GoodIn Ts (wsV own idx yJ0_charAt_5068e.cls yJ0_charAt_5068e wt_J0_charAt_5068e)) (hR : rmt_J0_charAtK.frames + 1 ≤ R.frames ∧ 8 + (2 + 11) + rmt_J0_charAtK.locals ≤ R.locals) (hsum : (st.map fun v => v.category).sum ≤ 8) (hf : kc + rmt_J0_charAtK.cells ≤ R.cells ∧ ns + rmt_J0_charAtK.slots ≤ R.slots) (k0 : J x lo (.int (chF i) :: st) w (pc + 3) (kc + rmt_J0_charAtK.cells) (ns + rmt_J0_charAtK.slots)) : J x lo (.int i :: .ref (K 7) :: st) w pc kc ns := by
  obtain ⟨j, hj, rfl⟩ := nI_of (x := i) (fun h => hi (Or.inl h))
  have hj6 : j < 6 := by
    have : ¬ 6 ≤ (nI j).toNatClampNeg := fun h => hi (Or.inr h)
    rw [nI_clamp hj] at this
    omega
  refine jt_callK (wr := w) C X (i := 7) (by omega) (t_J0_charAtK K D 7 (by omega) j (show j < litN.getD 7 0 from hj6)) d g rfl hy_J0_charAt_5068e rfl rfl [] (List.range w.length) rfl (all_pick w) rfl (nd_of _ List.nodup_range) (fun i _ h => by cases h) rfl hR hsum hf (fun v w' h => ?_)
  obtain ⟨rfl, rfl⟩ := h
  rw [List.append_nil]
  have e : (litB.getD 7 []).getD j 0 = chF (nI j) := by
    unfold chF
    rw [nI_clamp hj]
  rw [e]
  exact k0
end L45
theorem gSc9 {c0 : Cond} {own : String} {idx mL : Nat} {y : MethodName} {b : ByteArray} {ret : Option FieldType} (h1 : Cond.methodLink own idx y ∈ wsT) (h2 : Cond.static y ∈ wsT) (h4 : Cond.initialized y.cls ∈ wsT) (h5 : Cond.code y b mL ret ∈ wsT) : GoodIn (c0 :: wsT) (va_wsS own idx y (Cond.code y b mL ret :: wsU)) :=
  gT9 (gCm (L := [.methodLink own idx y, .static y, .initialized y.cls]) (m3_ h1 h2 h4) h5)
