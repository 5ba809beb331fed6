/-! PURE. each step of the law keeps the invariant -/
section LW
variable {σ τ : Mem} {L N g n A : Nat} {O : Int32} {xs : Nat → Int32} {K : Mem → Int32 → Int32 → Int32 → Int32 → Option (Int64 × Mem)} {Z : Option (Int64 × Mem) → Prop} {l4 : Int32} {i q w : Nat} {l8 : Int32} {l9 : Int64}
/-- what the next round takes -/
def KK [Inhabited Bl] (K : Mem → Int32 → Int32 → Int32 → Int32 → Option (Int64 × Mem)) (Z : Option (Int64 × Mem) → Prop) (l4 : Int32) (i : Nat) : Prop := ∀ σ L N O, INV σ L N (450 * (i + 1)) O → N ≤ i + 1 → Z (K σ O (nI N) l4 (nI (i + 1)))
theorem rfs_lt {v : Int32} (h : rfs v) : v < 0 := by
  rcases h with e | e | e | e <;> subst e <;> decide
theorem pos_1000 {c : Nat} (h : c < 2 ^ 31) : -1000 ≤ nI c := by
  rw [Int32.le_iff_toInt_le, nI_toInt h]
  have : (-1000 : Int32).toInt = -1000 := by decide
  omega
theorem md {a d : Nat} (ha : a < 2 ^ 31) (hd : 0 < d) (hd2 : d < 2 ^ 31) : nI a - nI a / nI d * nI d = nI (a % d) := pk_rem ha hd hd2
theorem st602 [Inhabited Bl] (hn : 1010 < n) (hi : i < 58) (HK : KK K Z l4 i) (h : INV σ L N (450 * (i + 1)) O) (hN : N ≤ i + 1) : Z (lp_L_law_602 n xs A K σ O (nI N) l4 (nI i)) := by
  unfold lp_L_law_602
  rw [show (7 : Int32) = nI 7 from rfl, md (by omega) (by omega) (by omega)]
  by_cases c : nI (i % 7) = 6
  · obtain ⟨σ', e1, h1⟩ := x_isSound hn h (by omega)
    rw [if_pos c, e1, Option.bind_some]
    dsimp only
    rw [if_neg (by decide)]
    unfold lp_L_law_622
    rw [add1_nI]
    exact HK _ _ _ _ h1 hN
  · rw [if_neg c]
    unfold lp_L_law_622
    rw [add1_nI]
    exact HK _ _ _ _ h hN
theorem st579 [Inhabited Bl] (hn : 1010 < n) (hi : i < 58) (HK : KK K Z l4 i) (h : INV σ L N (450 * (i + 1)) O) (hN : N ≤ i + 1) {v : Int32} (hv : -1000 ≤ v ∨ l8 = 0 ∨ sp_L_sum n σ 40 = some (l9, σ)) : Z (lp_L_law_579 n xs A K σ O (nI N) l4 (nI i) l8 l9 v) := by
  have h6 := st602 (xs := xs) (A := A) hn hi HK h hN
  unfold lp_L_law_579
  by_cases c1 : -1000 ≤ v
  · rw [if_pos c1]
    exact h6
  · rw [if_neg c1]
    by_cases c2 : l8 = 0
    · rw [if_pos c2]
      exact h6
    · rw [if_neg c2, (hv.resolve_left c1).resolve_left c2, Option.bind_some]
      dsimp only
      rw [if_pos (lg_cmp_self l9)]
      exact h6
theorem INV.dep [Inhabited Bl] (h : INV σ L N g O) : ∃ dl, dl ≤ 210 * L ∧ σ.1 L 0 = nI dl := by
  obtain ⟨τ, W, u, Q, hR, -, hI⟩ := h
  by_cases c : L = 0
  · subst c
    exact ⟨0, by omega, hI.2.2.2.2.2.2.2.2.2.1⟩
  · obtain ⟨d, e, -, h2, -, h4⟩ := hI.1 L (by omega) (Nat.le_refl L)
    exact ⟨e, h2, h4⟩
/-! the leaves -/
theorem lf_level [Inhabited Bl] (hn : 1010 < n) (hi : i < 58) (HK : KK K Z l4 i) (h : INV σ L N (450 * i) O) (hN : N ≤ i) (hs : l8 = 0 ∨ sp_L_sum n σ 40 = some (l9, σ)) (hq : q < 5000000) : Z ((sp_L_of n σ 40 (nI L) 0).bind fun q2 => match q2 with | (r266, σ267) => ((sp_L_level n σ267 40 (((r266 + (10 : Int32)) + (nI q - nI q / (200 : Int32) * (200 : Int32)))) (((10 : Int32) + ((nI q / (200 : Int32)) - (nI q / (200 : Int32)) / (300 : Int32) * (300 : Int32)))) (((1 : Int32) + ((nI q / (60000 : Int32)) - (nI q / (60000 : Int32)) / (20 : Int32) * (20 : Int32)))) (((nI q / (1200000 : Int32)) - (nI q / (1200000 : Int32)) / (8 : Int32) * (8 : Int32)))).bind fun q3 => match q3 with | (r272, σ273) => lp_L_law_579 n xs A K σ273 O (nI N) l4 (nI i) l8 l9 r272)) := by
  obtain ⟨hL, -, -, -⟩ := h.lv
  obtain ⟨dl, d1, d2⟩ := h.dep
  have hR0 := h
  obtain ⟨τ, W, u, Q, hR, -, -⟩ := hR0
  rw [of_0 n hR (Nat.le_refl L), Option.bind_some]
  dsimp only
  have e1 : nI dl + (10 : Int32) + (nI q - nI q / (200 : Int32) * (200 : Int32)) = nI (dl + 10 + q % 200) := by
    rw [show (10 : Int32) = nI 10 from rfl, show (200 : Int32) = nI 200 from rfl, md (by omega) (by omega) (by omega), add_nI, add_nI]
  have e2 : (10 : Int32) + ((nI q / (200 : Int32)) - (nI q / (200 : Int32)) / (300 : Int32) * (300 : Int32)) = nI (10 + q / 200 % 300) := by
    rw [show (10 : Int32) = nI 10 from rfl, show (200 : Int32) = nI 200 from rfl, show (300 : Int32) = nI 300 from rfl, pk_div (a := q) (d := 200) (by omega) (by omega) (by omega), md (by omega) (by omega) (by omega), add_nI]
  have e3 : (1 : Int32) + ((nI q / (60000 : Int32)) - (nI q / (60000 : Int32)) / (20 : Int32) * (20 : Int32)) = nI (1 + q / 60000 % 20) := by
    rw [show (1 : Int32) = nI 1 from rfl, show (60000 : Int32) = nI 60000 from rfl, show (20 : Int32) = nI 20 from rfl, pk_div (a := q) (d := 60000) (by omega) (by omega) (by omega), md (by omega) (by omega) (by omega), add_nI]
  have e4 : (nI q / (1200000 : Int32)) - (nI q / (1200000 : Int32)) / (8 : Int32) * (8 : Int32) = nI (q / 1200000 % 8) := by
    rw [show (1200000 : Int32) = nI 1200000 from rfl, show (8 : Int32) = nI 8 from rfl, pk_div (a := q) (d := 1200000) (by omega) (by omega) (by omega), md (by omega) (by omega) (by omega)]
  rw [d2, e1, e2, e3, e4]
  rcases w_level (n := n) (by omega) h (da := dl + 10 + q % 200) (sb := 10 + q / 200 % 300) (wc := 1 + q / 60000 % 20) (dd := q / 1200000 % 8) (dl := dl) (by omega) (by omega) (by omega) (by omega) (by omega) (by omega) (by omega) d2 (by omega) (by omega) with e | ⟨hL6, σ1, e, h1⟩
  · rw [e, Option.bind_some]
    exact st579 hn hi HK (h.mono (by omega)) (by omega) (Or.inr hs)
  · rw [e, Option.bind_some]
    exact st579 hn hi HK (h1.mono (by omega)) (by omega) (Or.inl (pos_1000 (by omega)))
theorem lf_hire [Inhabited Bl] (hn : 1010 < n) (hi : i < 58) (HK : KK K Z l4 i) (h : INV σ L N (450 * i) O) (hN : N ≤ i) (hs : l8 = 0 ∨ sp_L_sum n σ 40 = some (l9, σ)) (hq : q < 5000000) : Z ((sp_L_hire n σ 40 (((1 : Int32) + (nI q - nI q / (40 : Int32) * (40 : Int32))))).bind fun q => match q with | (r263, σ264) => lp_L_law_579 n xs A K σ264 O (nI N) l4 (nI i) l8 l9 r263) := by
  rw [show (1 : Int32) = nI 1 from rfl, show (40 : Int32) = nI 40 from rfl, md (by omega) (by omega) (by omega), add_nI]
  rcases w_hire (n := n) (by omega) h (c := 1 + q % 40) (by omega) (by omega) (by omega) with e | ⟨p, σ1, p1, e, h1⟩
  · rw [e, Option.bind_some]
    exact st579 hn hi HK (h.mono (by omega)) (by omega) (Or.inr hs)
  · rw [e, Option.bind_some]
    exact st579 hn hi HK (h1.mono (by omega)) (by omega) (Or.inl (pos_1000 (by omega)))
theorem lf_fan [Inhabited Bl] (hn : 1010 < n) (hi : i < 58) (HK : KK K Z l4 i) (h : INV σ L N (450 * i) O) (hN : N ≤ i) (hq : q < 5000000) : Z ((sp_L_sets n σ 40 ((102 : Int32)) ((nI q - nI q / (400 : Int32) * (400 : Int32)))).bind fun q => match q with | (r260, σ261) => lp_L_law_579 n xs A K σ261 O (nI N) l4 (nI i) l8 l9 r260) := by
  rw [show (400 : Int32) = nI 400 from rfl, md (by omega) (by omega) (by omega)]
  obtain ⟨u, σ1, u1, u2, e, h1, -⟩ := w_fan (n := n) (by omega) (v := q % 400) h (by omega)
  rw [e, Option.bind_some]
  exact st579 hn hi HK (h1.mono (by omega)) (by omega) (Or.inl (pos_1000 (by omega)))
theorem lf_limit [Inhabited Bl] (hn : 1010 < n) (hi : i < 58) (HK : KK K Z l4 i) (h : INV σ L N (450 * i) O) (hN : N ≤ i) (hq : q < 5000000) : Z ((sp_L_sets n σ 40 ((108 : Int32)) (((1 : Int32) + (nI q - nI q / (100 : Int32) * (100 : Int32))))).bind fun q => match q with | (r257, σ258) => lp_L_law_579 n xs A K σ258 O (nI N) l4 (nI i) l8 l9 r257) := by
  rw [show (1 : Int32) = nI 1 from rfl, show (100 : Int32) = nI 100 from rfl, md (by omega) (by omega) (by omega), add_nI]
  obtain ⟨u, u1, e, h1⟩ := w_limit (n := n) (v := 1 + q % 100) h (by omega) (by omega)
  rw [e, Option.bind_some]
  exact st579 hn hi HK (h1.mono (by omega)) (by omega) (Or.inl (pos_1000 (by omega)))
theorem lf_speed [Inhabited Bl] (hn : 1010 < n) (hi : i < 58) (HK : KK K Z l4 i) (h : INV σ L N (450 * i) O) (hN : N ≤ i) (hq : q < 5000000) : Z ((sp_L_sets n σ 40 ((115 : Int32)) (((10 : Int32) + (nI q - nI q / (300 : Int32) * (300 : Int32))))).bind fun q => match q with | (r254, σ255) => lp_L_law_579 n xs A K σ255 O (nI N) l4 (nI i) l8 l9 r254) := by
  rw [show (10 : Int32) = nI 10 from rfl, show (300 : Int32) = nI 300 from rfl, md (by omega) (by omega) (by omega), add_nI]
  obtain ⟨u, u1, e, h1⟩ := w_speed (n := n) (v := 10 + q % 300) h (by omega) (by omega)
  rw [e, Option.bind_some]
  exact st579 hn hi HK (h1.mono (by omega)) (by omega) (Or.inl (pos_1000 (by omega)))
theorem lf_door [Inhabited Bl] (hn : 1010 < n) (hi : i < 58) (HK : KK K Z l4 i) (h : INV σ L N (450 * i) O) (hN : N ≤ i) (hs : l8 = 0 ∨ sp_L_sum n σ 40 = some (l9, σ)) (a : Int32) {b : Int32} (hb : b = 0 ∨ b = 1) : Z (lp_L_law_318 n xs A K σ O (nI N) l4 (nI i) l8 l9 b a) := by
  unfold lp_L_law_318
  rcases w_door (n := n) (by omega) (a := a) hb h with ⟨-, e⟩ | ⟨r, σ1, hr, e, h1⟩
  · rw [e, Option.bind_some]
    exact st579 hn hi HK (h.mono (by omega)) (by omega) (Or.inr hs)
  · rw [e, Option.bind_some]
    refine st579 hn hi HK (h1.mono (by omega)) (by omega) (Or.inl ?_)
    rcases hr with e | e <;> subst e <;> decide
theorem lf_blast [Inhabited Bl] (hn : 1010 < n) (hi : i < 58) (HK : KK K Z l4 i) (h : INV σ L N (450 * i) O) (hN : N ≤ i) (hs : l8 = 0 ∨ sp_L_sum n σ 40 = some (l9, σ)) (hq : q < 5000000) {k : Nat} (hk1 : 1 ≤ k) (hk6 : k ≤ 6) : Z ((sp_X5_gasTotal n σ 40).bind fun q2 => match q2 with | (r234, σ235) => ((sp_L_blast n σ235 40 (nI k) (((1 : Int32) + ((nI q / (7 : Int32)) - (nI q / (7 : Int32)) / (20 : Int32) * (20 : Int32))))).bind fun q2 => match q2 with | (r237, σ238) => if r237 < 0 then lp_L_law_579 n xs A K σ238 O (nI N) l4 (nI i) l8 l9 r237 else ((sp_X5_gasTotal n σ238 40).bind fun q2 => match q2 with | (r241, σ242) => if r241 = (r234 + ((5 : Int32) * ((1 : Int32) + ((nI q / (7 : Int32)) - (nI q / (7 : Int32)) / (20 : Int32) * (20 : Int32))))) then ((sp_L_of n σ242 40 (nI k) ((9 : Int32))).bind fun q2 => match q2 with | (r245, σ246) => if r245 = (1 : Int32) then lp_L_law_579 n xs A K σ246 ((O + ((3 : Int32) * ((1 : Int32) + ((nI q / (7 : Int32)) - (nI q / (7 : Int32)) / (20 : Int32) * (20 : Int32)))))) (nI N) l4 (nI i) l8 l9 r237 else none) else none))) := by
  have eb : (1 : Int32) + ((nI q / (7 : Int32)) - (nI q / (7 : Int32)) / (20 : Int32) * (20 : Int32)) = nI (1 + q / 7 % 20) := by
    rw [show (7 : Int32) = nI 7 from rfl, show (20 : Int32) = nI 20 from rfl, pk_div (by omega) (by omega) (by omega), md (by omega) (by omega) (by omega), show (1 : Int32) = nI 1 from rfl, add_nI]
  rw [x_gasTotal, Option.bind_some]
  dsimp only
  rw [eb]
  rcases w_blast (n := n) h hk1 hk6 (b := 1 + q / 7 % 20) (by omega) (by omega) (by omega) with ⟨v, hv, e⟩ | ⟨hk, c, σ1, c1, e, h1, e7, e9⟩
  · rw [e, Option.bind_some]
    dsimp only
    rw [if_pos (rfs_lt hv)]
    exact st579 hn hi HK (h.mono (by omega)) (by omega) (Or.inr hs)
  · have h1' := h1
    obtain ⟨τ1, W1, u1, Q1, hR1, -, -⟩ := h1'
    rw [e, Option.bind_some]
    dsimp only
    rw [if_neg (nI_pos (by omega)), x_gasTotal, Option.bind_some]
    dsimp only
    rw [if_pos e7, of_9 n hR1 hk1 hk, Option.bind_some]
    dsimp only
    rw [if_pos e9]
    exact st579 hn hi HK (h1.mono (by omega)) (by omega) (Or.inl (pos_1000 (by omega)))
theorem lf_pass [Inhabited Bl] (hn : 1010 < n) (hi : i < 58) (HK : KK K Z l4 i) (h : INV σ L N (450 * i) O) (hN : N ≤ i) (hs : l8 = 0 ∨ sp_L_sum n σ 40 = some (l9, σ)) (hq : q < 5000000) : Z ((sp_X5_clock n σ 40).bind fun q2 => match q2 with | (r187, σ188) => ((sp_L_pass n σ188 40 (((1 : Int32) + (nI q - nI q / (7 : Int32) * (7 : Int32))))).bind fun q2 => match q2 with | (r190, σ191) => if r190 < 0 then lp_L_law_579 n xs A K σ191 O (nI N) l4 (nI i) l8 l9 r190 else if r190 = ((r187 + (1 : Int32)) + (nI q - nI q / (7 : Int32) * (7 : Int32))) then lp_L_law_579 n xs A K σ191 O (nI N) l4 (nI i) l8 l9 r190 else none)) := by
  rw [x_clock, Option.bind_some]
  dsimp only
  rw [show (7 : Int32) = nI 7 from rfl, md (by omega) (by omega) (by omega), show (1 : Int32) = nI 1 from rfl, add_nI]
  rcases w_pass (n := n) (by omega) h (M := 1 + q % 7) (by omega) (by omega) (by omega) with e | ⟨c, σ1, c1, c2, e, h1⟩
  · rw [e, Option.bind_some]
    dsimp only
    rw [if_pos (by decide)]
    exact st579 hn hi HK (h.mono (by omega)) (by omega) (Or.inr hs)
  · rw [e, Option.bind_some]
    dsimp only
    rw [if_neg (nI_pos (by omega)), if_pos (by rw [c2, add_nI, add_nI, Nat.add_assoc])]
    exact st579 hn hi HK (h1.mono (by omega)) (by omega) (Or.inl (pos_1000 (by omega)))
theorem lf_cancel [Inhabited Bl] (hn : 1010 < n) (hi : i < 58) (HK : KK K Z l4 i) (h : INV σ L N (450 * i) O) (hN : N ≤ i) (hs : l8 = 0 ∨ sp_L_sum n σ 40 = some (l9, σ)) (m : Int32) (hm : ¬ m = 0) : Z ((sp_X5_waitingCount n σ 40).bind fun q2 => match q2 with | (r206, σ207) => if ¬ m = 0 then ((sp_L_asked n σ207 40 ((nI q - nI q / m * m)) ((0 : Int32))).bind fun q2 => match q2 with | (r210, σ211) => if r210 < 0 then lp_L_law_579 n xs A K σ211 O (nI N) l4 (nI i) l8 l9 r210 else if r210 = (r206 - (1 : Int32)) then lp_L_law_579 n xs A K σ211 O (nI N) l4 (nI i) l8 l9 r210 else none) else none) := by
  have h' := h
  obtain ⟨τ, W, u, Q, hR, -, -⟩ := h'
  rw [x_waitingCount n hR, Option.bind_some]
  dsimp only
  rw [if_pos hm]
  rcases w_cancel (n := n) (by omega) (nI q - nI q / m * m) h with e | ⟨Q', σ1, q1, q2, e0, e, h1⟩
  · rw [e, Option.bind_some]
    dsimp only
    rw [if_pos (by decide)]
    exact st579 hn hi HK (h.mono (by omega)) (by omega) (Or.inr hs)
  · rw [x_waitingCount n hR] at e0
    have eQ : nI Q = nI Q' := (Prod.mk.inj (Option.some.inj e0)).1
    rw [e, Option.bind_some]
    dsimp only
    rw [if_neg (nI_pos (by omega)), if_pos (by rw [eQ]; exact (pk_sub (a := Q') (b := 1) q1).symm)]
    exact st579 hn hi HK (h1.mono (by omega)) (by omega) (Or.inl (pos_1000 (by omega)))
theorem lf_request [Inhabited Bl] (hn : 1010 < n) (hi : i < 58) (HK : KK K Z l4 i) (h : INV σ L N (450 * i) O) (hN : N ≤ i) (hs : l8 = 0 ∨ sp_L_sum n σ 40 = some (l9, σ)) (hq : q < 5000000) {k : Nat} (hk1 : 1 ≤ k) (hk6 : k ≤ 6) {c : Int32} (hc : c = 100 ∨ c = 117 ∨ c = 111) : Z ((sp_L_request n σ 40 c (nI k) (((1 : Int32) + ((nI q / (7 : Int32)) - (nI q / (7 : Int32)) / (12 : Int32) * (12 : Int32))))).bind fun q2 => match q2 with | (r217, σ218) => if r217 < 0 then lp_L_law_579 n xs A K σ218 O (nI N) l4 (nI i) l8 l9 r217 else if r217 = nI N then ((sp_X5_waitingCount n σ218 40).bind fun q2 => match q2 with | (r222, σ223) => ((sp_L_asked n σ223 40 ((r222 - (1 : Int32))) ((1 : Int32))).bind fun q2 => match q2 with | (r225, σ226) => if r225 = r217 then ((sp_L_asked n σ226 40 r217 ((2 : Int32))).bind fun q2 => match q2 with | (r229, σ230) => if r229 = (-1001 : Int32) then none else lp_L_law_579 n xs A K σ230 O ((nI N + (1 : Int32))) l4 (nI i) l8 l9 r217) else none)) else none) := by
  rw [show (7 : Int32) = nI 7 from rfl, show (12 : Int32) = nI 12 from rfl, pk_div (by omega) (by omega) (by omega), md (by omega) (by omega) (by omega), show (1 : Int32) + nI (q / 7 % 12) = nI (1 + q / 7 % 12) from add_nI 1 _]
  rcases w_request (n := n) h (by omega) hk1 hk6 (x := 1 + q / 7 % 12) (by omega) (by omega) hc with ⟨v, hv, e⟩ | ⟨σ1, e, h1, τ1, W1, u1, Q1, hR1, e0⟩
  · rw [e, Option.bind_some]
    dsimp only
    rw [if_pos (rfs_lt hv)]
    exact st579 hn hi HK (h.mono (by omega)) (by omega) (Or.inr hs)
  · have hQ8 := hR1.2.2.2.2.1.1
    obtain ⟨v, σ2, e2, h2, hv⟩ := r_wait (n := n) (by omega) h1 (r := N) (by omega) ⟨τ1, W1, u1, Q1 + 1, hR1, Q1, by omega, e0⟩
    rw [e, Option.bind_some]
    dsimp only
    rw [if_neg (nI_pos (by omega)), if_pos rfl, x_waitingCount n hR1, Option.bind_some]
    dsimp only
    rw [show nI (Q1 + 1) - 1 = nI Q1 from pk_sub (a := Q1 + 1) (b := 1) (by omega), asked_1 n hR1 (p := Q1) (by omega), Option.bind_some]
    dsimp only
    rw [if_pos e0, e2, Option.bind_some]
    dsimp only
    rw [if_neg hv, add1_nI]
    exact st579 hn hi HK (h2.mono (by omega)) (by omega) (Or.inl (pos_1000 (by omega)))
end LW
