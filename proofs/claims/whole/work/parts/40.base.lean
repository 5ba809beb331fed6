/-! TEXT: numbers, letters, contents -/
section B40
variable {x : Xt Tx} {D : va_G} {cB : ClassId} {cc : ByteArray} {mL : Nat} {own : String} {ret : Option FieldType} {tab : List ExceptionTableEntry} {Ts : List Cond} {R : Room} {tys : List (ClassId × FieldType)} {lo : List (Nat × Value)} {st : List Value} {w : Tx} {pc kc ns : Nat}
theorem jt_eqI {a b : Int32} (h : a = b) (k0 : J x lo (.int b :: st) w pc kc ns) : J x lo (.int a :: st) w pc kc ns := by rw [h]; exact k0
theorem jt_iinc (C : Cx x cc mL own ret tab Ts R D tys) {q : Nat} {m : Int} {a : Int32} (d : decode cc pc = .ok (.iinc q m, 3)) (i : Nat) (hq : lo[i]? = some (q, .int a)) (v a' : Int32) (hv : Int32.ofInt m = v) (ha : a + v = a') (h : q < mL) (lo' : List (Nat × Value)) (hlo : lset lo q (.int a') = lo') (k0 : J x lo' st w (pc + 3) kc ns) : J x lo st w pc kc ns := by
  subst ha
  exact j_iinc C d i hq v hv h lo' hlo k0
theorem nar_b {u : Nat} (h : u < 128) : vp_nar .byte (nI u) = nI u := (by decide +kernel : ∀ u, u < 128 → vp_nar .byte (nI u) = nI u) u h
theorem fit_b {u : Nat} (h : u < 128) : fits .byte (.int (nI u)) = true := (by decide +kernel : ∀ u, u < 128 → fits .byte (.int (nI u)) = true) u h
theorem chr_b {u : Nat} (h : u < 128) : ((nI u &&& (255 : Int32)).toUInt32 % 65536).toInt32 = nI u := (by decide +kernel : ∀ u, u < 128 → ((nI u &&& (255 : Int32)).toUInt32 % 65536).toInt32 = nI u) u h
theorem chr_n {u : Nat} (h : u < 128) : narrow .char (.int (nI u)) = .int (nI u) := (by decide +kernel : ∀ u, u < 128 → narrow .char (.int (nI u)) = .int (nI u)) u h
theorem jt_bastN (C : Cx x cc mL own ret tab Ts R D tys) (X : Wt x D) {a n j u : Nat} {f : Nat → Int32} (d : decode cc pc = .ok (.bastore, 1)) (q0 t0 : Nat) {cA : ClassId} (he : w[q0]? = some (a, .inl (cA, n, .inl f))) (ht : tys[t0]? = some (cA, .byte)) (hj : j < n) (hn : n < 100000) (hu : u < 128) (k0 : J x lo st (w.set q0 (a, .inl (cA, n, .inl (upd f j (nI u))))) (pc + 1) kc ns) : J x lo (.int (nI u) :: .int (nI j) :: .ref a :: st) w pc kc ns := by
  refine jt_bast C X d q0 t0 he ht (vp_in_nI hj (by omega)) ?_
  rw [nI_cl (by omega), nar_b hu]
  exact k0
theorem jt_baldN (C : Cx x cc mL own ret tab Ts R D tys) (X : Wt x D) {a n j : Nat} {f : Nat → Int32} (d : decode cc pc = .ok (.baload, 1)) (q0 t0 : Nat) {cA : ClassId} (he : w[q0]? = some (a, .inl (cA, n, .inl f))) (ht : tys[t0]? = some (cA, .byte)) (hj : j < n) (hn : n < 100000) (k0 : J x lo (.int (f j) :: st) w (pc + 1) kc ns) : J x lo (.int (nI j) :: .ref a :: st) w pc kc ns := by
  refine jt_bald C X d q0 t0 he ht (vp_in_nI hj (by omega)) ?_
  rw [nI_cl (by omega)]
  exact k0
theorem shr0 (a : Int32) : a >>> ((0 : Int32) &&& 31) = a := by
  rw [show ((0 : Int32) &&& 31) = 0 by decide]
  exact Int32.shiftRight_zero
theorem shl0 (a : Int32) : a <<< ((0 : Int32) &&& 31) = a := by
  rw [show ((0 : Int32) &&& 31) = 0 by decide]
  exact Int32.shiftLeft_zero
theorem sub_nI {a b : Nat} (h : b ≤ a) : nI a - nI b = nI (a - b) := by
  have e : nI a = nI (a - b) + nI b := by rw [add_nI, Nat.sub_add_cancel h]
  rw [e, Int32.add_sub_cancel]
theorem pre_nI {a : Nat} (h : 1 ≤ a) : nI a + (-1 : Int32) = nI (a - 1) := by
  have e := sub_nI h
  rw [← e, Int32.sub_eq_add_neg]
  rfl
theorem ng_leI {k m : Nat} (hk : k < 1000000) (hm : m < 1000000) : -nI k ≤ -nI m ↔ m ≤ k := by
  have e1 : (nI k).toInt = k := nI_toInt (by omega)
  have e2 : (nI m).toInt = m := nI_toInt (by omega)
  have f1 : (-nI k).toInt = -(k : Int) := by rw [Int32.toInt_neg, e1]; exact Int.bmod_eq_of_le (by omega) (by omega)
  have f2 : (-nI m).toInt = -(m : Int) := by rw [Int32.toInt_neg, e2]; exact Int.bmod_eq_of_le (by omega) (by omega)
  rw [Int32.le_iff_toInt_le, f1, f2]
  omega
theorem ng_ltI {k m : Nat} (hk : k < 1000000) (hm : m < 1000000) : -nI k < -nI m ↔ m < k := by
  rw [← Int32.not_le, ng_leI hm hk]
  omega
theorem ng_div {k : Nat} (hk : k < 1000000) : -nI k / (100 : Int32) = -nI (k / 100) := by
  apply Int32.toInt_inj.mp
  have e1 : (nI k).toInt = k := nI_toInt (by omega)
  have e2 : (nI (k / 100)).toInt = ((k / 100 : Nat) : Int) := nI_toInt (by omega)
  have f1 : (-nI k).toInt = -(k : Int) := by rw [Int32.toInt_neg, e1]; exact Int.bmod_eq_of_le (by omega) (by omega)
  have f2 : (-nI (k / 100)).toInt = -((k / 100 : Nat) : Int) := by rw [Int32.toInt_neg, e2]; exact Int.bmod_eq_of_le (by omega) (by omega)
  rw [Int32.toInt_div, f1, f2, show (100 : Int32).toInt = 100 from by decide, Int.neg_tdiv, show ((k : Int).tdiv 100) = ((k / 100 : Nat) : Int) from (Int.ofNat_tdiv k 100).symm]
  exact Int.bmod_eq_of_le (by omega) (by omega)
theorem ng_mod {k : Nat} : -nI (k / 100) * (100 : Int32) - -nI k = nI (k % 100) := by
  have e : nI k = nI (k / 100) * 100 + nI (k % 100) := by
    show nI k = nI (k / 100) * nI 100 + nI (k % 100)
    rw [show nI (k / 100) * nI 100 = nI (k / 100 * 100) from (Int32.ofNat_mul _ _).symm, add_nI]
    congr 1
    omega
  rw [e, Int32.neg_mul, Int32.sub_eq_add_neg, Int32.neg_neg, ← Int32.add_assoc, Int32.add_left_neg, Int32.zero_add]
theorem sub_le0 {k n : Nat} (hk : k < 100000) (hn : n < 100000) : nI k - nI n ≤ 0 ↔ k ≤ n := by
  have e1 : (nI k).toInt = k := nI_toInt (by omega)
  have e2 : (nI n).toInt = n := nI_toInt (by omega)
  rw [Int32.le_iff_toInt_le, Int32.toInt_sub, e1, e2, Int.bmod_eq_of_le (by omega) (by omega)]
  show (k : Int) - n ≤ 0 ↔ _
  omega
end B40
/-- contents -/
def cp (n : Nat) : Prop := n = 16 ∨ n = 34
def fitB (f : Nat → Int32) : Prop := ∀ j, fits .byte (.int (f j)) = true
/-- letters -/
def ltr (t : List Nat) : Prop := ∀ u ∈ t, u < 128
def tx (t : List Nat) (j : Nat) : Int32 := nI (t.getD j 0)
def hasT (f : Nat → Int32) (t : List Nat) : Prop := ∀ j, j < t.length → f j = tx t j
theorem ltr_at {t : List Nat} (h : ltr t) (j : Nat) : t.getD j 0 < 128 := by
  rw [List.getD_eq_getElem?_getD]
  cases e : t[j]? with
  | none => exact (by decide : (0 : Nat) < 128)
  | some u => exact h u (List.mem_of_getElem? e)
theorem fit_tx {t : List Nat} (h : ltr t) : fitB (tx t) := fun j => fit_b (ltr_at h j)
theorem ltr_app {s t : List Nat} (h : ltr s) (g : ltr t) : ltr (s ++ t) := fun u hu => (List.mem_append.mp hu).elim (h u) (g u)
theorem tx_app1 {s t : List Nat} {j : Nat} (h : j < s.length) : tx (s ++ t) j = tx s j := by
  unfold tx
  rw [List.getD_eq_getElem?_getD, List.getD_eq_getElem?_getD, List.getElem?_append_left h]
theorem tx_app2 {s t : List Nat} {j : Nat} (h : s.length ≤ j) : tx (s ++ t) j = tx t (j - s.length) := by
  unfold tx
  rw [List.getD_eq_getElem?_getD, List.getD_eq_getElem?_getD, List.getElem?_append_right h]
theorem fit_upd {f : Nat → Int32} {j u : Nat} (hf : fitB f) (hu : u < 128) : fitB (upd f j (nI u)) := fun i => by
  unfold upd
  split
  · exact fit_b hu
  · exact hf i
theorem fit_0 : fitB (fun _ => 0) := fun _ => by decide
theorem fit_cpy {f g : Nat → Int32} {a b c : Nat} (hf : fitB f) (hg : fitB g) : fitB (va_cpy f g a b c) := fun i => by
  unfold va_cpy
  split
  · exact hf _
  · exact hg _
abbrev Bw (cB : ClassId) (b v : Nat) (c z : Int32) (n : Nat) (f : Nat → Int32) : Tx := [(b, .inr (1, [.ref v, .int 0, .int z, .int c])), (v, .inl (cB, n, .inl f))]
/-- the builder b holds the text t -/
def BT (cB : ClassId) (b : Nat) (t : List Nat) (w : Tx) : Prop := ∃ v z n f, w = Bw cB b v (nI t.length) z n f ∧ cp n ∧ t.length ≤ n ∧ fitB f ∧ hasT f t ∧ ltr t
theorem BT_w {cB : ClassId} {b : Nat} {t : List Nat} (h1 : t.length ≤ 34) (h2 : ltr t) : BT cB b t (Bw cB b 0 (nI t.length) 0 34 (tx t)) := ⟨0, 0, 34, tx t, rfl, Or.inr rfl, h1, fit_tx h2, fun _ _ => rfl, h2⟩
