/-! PURE. the looks ahead: what the model keeps, waiting for a request -/
theorem lp_keeps (n : Nat) {τ0 : Mem} : ∀ (d k j : Nat) (τ : Mem), j + d = 73 → d < k → τ.2 = τ0.2 → (∀ a b, (a ≠ 48 ∨ j ≤ b) → τ.1 a b = τ0.1 a b) → (∀ b, b < j → τ.1 48 b = τ0.1 47 b) → ∃ τ', lp_X6_keeps_2 n 41 k τ (nI j) = some ((), τ') ∧ τ'.2 = τ0.2 ∧ (∀ a b, (a ≠ 48 ∨ 73 ≤ b) → τ'.1 a b = τ0.1 a b) ∧ ∀ b, b < 73 → τ'.1 48 b = τ0.1 47 b := by
  intro d
  induction d with
  | zero =>
    intro k j τ hj hk e2 eo es
    obtain ⟨k, rfl⟩ : ∃ z, k = z + 1 := ⟨k - 1, by omega⟩
    refine ⟨τ, ?_, e2, fun a b h => eo a b (by omega), fun b hb => es b (by omega)⟩
    rw [lp_X6_keeps_2_s, if_pos (show (73 : Int32) ≤ nI j by rw [show (73 : Int32) = nI 73 from rfl, le_nI (by omega) (by omega)]; omega)]
  | succ d ih =>
    intro k j τ hj hk e2 eo es
    obtain ⟨k, rfl⟩ : ∃ z, k = z + 1 := ⟨k - 1, by omega⟩
    rw [lp_X6_keeps_2_s, if_neg (show ¬ (73 : Int32) ≤ nI j by rw [show (73 : Int32) = nI 73 from rfl, le_nI (by omega) (by omega)]; omega), if_pos (inR_nI (by omega) (by omega)), if_pos (inR_nI (by omega) (by omega))]
    simp only [lm, nI_cl (show j < 100000 by omega), rfm_11, rfm_12, add1_nI]
    refine ih k (j + 1) _ (by omega) (by omega) e2 (fun a b h => ?_) (fun b hb => ?_)
    · rw [wi_o (by omega)]
      exact eo a b (by omega)
    · rw [get_wi]
      by_cases e : b = j
      · rw [if_pos ⟨rfl, e⟩, eo _ _ (by omega), e]
      · rw [if_neg (by omega)]
        exact es b (by omega)
theorem ev_keeps {n : Nat} (hn : 80 < n) (τ : Mem) : ∃ τ', sp_X6_keeps n τ 41 = some ((), τ') ∧ τ'.2 = τ.2 ∧ (∀ a b, (a ≠ 48 ∨ 73 ≤ b) → τ'.1 a b = τ.1 a b) ∧ ∀ b, b < 73 → τ'.1 48 b = τ.1 47 b := by
  unfold sp_X6_keeps
  exact lp_keeps n 73 n 0 τ (by omega) (by omega) rfl (fun _ _ _ => rfl) (fun b hb => by omega)
theorem lp_goesBack (n : Nat) {τ0 : Mem} : ∀ (d k j : Nat) (τ : Mem), j + d = 73 → d < k → τ.2 = τ0.2 → (∀ a b, (a ≠ 47 ∨ j ≤ b) → τ.1 a b = τ0.1 a b) → (∀ b, b < j → τ.1 47 b = τ0.1 48 b) → ∃ τ', lp_X6_goesBack_2 n 41 k τ (nI j) = some ((), τ') ∧ τ'.2 = τ0.2 ∧ (∀ a b, (a ≠ 47 ∨ 73 ≤ b) → τ'.1 a b = τ0.1 a b) ∧ ∀ b, b < 73 → τ'.1 47 b = τ0.1 48 b := by
  intro d
  induction d with
  | zero =>
    intro k j τ hj hk e2 eo es
    obtain ⟨k, rfl⟩ : ∃ z, k = z + 1 := ⟨k - 1, by omega⟩
    refine ⟨τ, ?_, e2, fun a b h => eo a b (by omega), fun b hb => es b (by omega)⟩
    rw [lp_X6_goesBack_2_s, if_pos (show (73 : Int32) ≤ nI j by rw [show (73 : Int32) = nI 73 from rfl, le_nI (by omega) (by omega)]; omega)]
  | succ d ih =>
    intro k j τ hj hk e2 eo es
    obtain ⟨k, rfl⟩ : ∃ z, k = z + 1 := ⟨k - 1, by omega⟩
    rw [lp_X6_goesBack_2_s, if_neg (show ¬ (73 : Int32) ≤ nI j by rw [show (73 : Int32) = nI 73 from rfl, le_nI (by omega) (by omega)]; omega), if_pos (inR_nI (by omega) (by omega)), if_pos (inR_nI (by omega) (by omega))]
    simp only [lm, nI_cl (show j < 100000 by omega), rfm_11, rfm_12, add1_nI]
    refine ih k (j + 1) _ (by omega) (by omega) e2 (fun a b h => ?_) (fun b hb => ?_)
    · rw [wi_o (by omega)]
      exact eo a b (by omega)
    · rw [get_wi]
      by_cases e : b = j
      · rw [if_pos ⟨rfl, e⟩, eo _ _ (by omega), e]
      · rw [if_neg (by omega)]
        exact es b (by omega)
theorem ev_goesBack {n : Nat} (hn : 80 < n) (τ : Mem) : ∃ τ', sp_X6_goesBack n τ 41 = some ((), τ') ∧ τ'.2 = τ.2 ∧ (∀ a b, (a ≠ 47 ∨ 73 ≤ b) → τ'.1 a b = τ.1 a b) ∧ ∀ b, b < 73 → τ'.1 47 b = τ.1 48 b := by
  unfold sp_X6_goesBack
  exact lp_goesBack n 73 n 0 τ (by omega) (by omega) rfl (fun _ _ _ => rfl) (fun b hb => by omega)
/-- only what no one reads has changed of the model -/
def SmM (τ τ' : Mem) : Prop := τ'.2 = τ.2 ∧ ∀ a b, a ≠ 48 → (a ≠ 41 ∨ b ≠ 14) → (a ≠ 47 ∨ b < 73) → τ'.1 a b = τ.1 a b
theorem RR.toM {σ τ τ' : Mem} {m L : Nat} {W : Nat → Nat} {u N Q : Nat} (h : RR σ τ m L W u N Q) (e : ∀ a b, 41 ≤ a → a ≤ 47 → (a ≠ 41 ∨ b ≠ 14) → (a ≠ 47 ∨ b < 73) → τ'.1 a b = τ.1 a b) : RR σ τ' m L W u N Q := by
  obtain ⟨hS, hG, hK, hT, hQ, hP, hB⟩ := h
  exact ⟨hS.to hS.sh (fun _ _ _ _ => rfl) (fun _ _ _ => rfl) (fun a b hab => e _ _ (by omega) (by omega) (by omega) (by omega)), hG.to (fun _ _ _ _ _ => rfl) (fun b hb => e _ _ (by omega) (by omega) (by omega) (by omega)), hK.to (fun _ _ _ => rfl) (fun b hb => e _ _ (by omega) (by omega) (by omega) (by omega)) (e _ _ (by omega) (by omega) (by omega) (by omega)), hT.to (fun _ _ => rfl) rfl (fun b b1 b2 => e _ _ (by omega) (by omega) (by omega) (by omega)) (e _ _ (by omega) (by omega) (by omega) (by omega)), hQ.to rfl (fun _ _ _ _ => rfl) rfl rfl (fun b b1 b2 => e _ _ (by omega) (by omega) (by omega) (by omega)), hP.to hS.lv (fun _ _ => rfl) rfl (e _ _ (by omega) (by omega) (by omega) (by omega)), hB⟩
/-! pending requests -/
def inq (σ : Mem) (m Q : Nat) (x : Int32) : Prop := ∃ p, p < Q ∧ σ.1 (rw_ σ m p) 0 = x
theorem sr_no {g : Nat → Int32} {x : Int32} {Q : Nat} (h : ∀ p, p < Q → g p ≠ x) : sr g x Q 0 = Q := by
  obtain ⟨-, b, -, e⟩ := sr_spec g x Q 0
  rcases Nat.lt_or_ge (sr g x Q 0) Q with c | c
  · exact absurd (e (by omega)) (h _ c)
  · omega
theorem sr_yes {g : Nat → Int32} {x : Int32} {Q : Nat} (h : ∃ p, p < Q ∧ g p = x) : sr g x Q 0 < Q := by
  obtain ⟨p, hp, e⟩ := h
  obtain ⟨-, b, c, -⟩ := sr_spec g x Q 0
  rcases Nat.lt_or_ge (sr g x Q 0) Q with q | q
  · exact q
  · exact absurd e (c p (by omega) (by omega))
theorem place_yes {n : Nat} (hn : 10 < n) {σ τ : Mem} {m L N Q : Nat} {x : Int32} (h : RQ σ τ m L N Q) (hi : inq σ m Q x) : ∃ q, q < Q ∧ sp_X6_place n τ 41 x = some (nI q, τ) ∧ σ.1 (rw_ σ m q) 0 = x := by
  obtain ⟨q1, q2, q3, q4, q5, -⟩ := h
  have e : ∀ p, p < Q → σ.1 (rw_ σ m p) 0 = τ.1 47 (28 + 4 * p) := fun p hp => by
    obtain ⟨⟨r, -, r1, r2⟩, -⟩ := q5 p hp
    rw [r1, r2]
  have hs : sr (fun p => τ.1 47 (28 + 4 * p)) x Q 0 < Q := sr_yes (by
    obtain ⟨p, hp, ep⟩ := hi
    exact ⟨p, hp, (e p hp).symm.trans ep⟩)
  have hs2 := (sr_spec (fun p => τ.1 47 (28 + 4 * p)) x Q 0).2.2.2 (by omega)
  refine ⟨_, hs, ?_, (e _ hs).trans hs2⟩
  rw [ev_placeM hn q4 q1, if_neg (by omega)]
theorem place_no {n : Nat} (hn : 10 < n) {σ τ : Mem} {m L N Q : Nat} {x : Int32} (h : RQ σ τ m L N Q) (hi : ¬ inq σ m Q x) : sp_X6_place n τ 41 x = some (-1, τ) := by
  obtain ⟨q1, q2, q3, q4, q5, -⟩ := h
  rw [ev_placeM hn q4 q1, sr_no (fun p hp => ?_), if_pos rfl]
  intro e
  obtain ⟨⟨r, -, r1, r2⟩, -⟩ := q5 p hp
  exact hi ⟨p, hp, by rw [r1, ← r2]; exact e⟩
theorem holds_yes {n : Nat} (hn : 10 < n) {σ τ : Mem} {m L N Q : Nat} {x : Int32} (hs : ShM σ m) (h : RQ σ τ m L N Q) (hi : inq σ m Q x) : sp_X4_holds n σ (10 * m + 9) x = some (1, σ) := by
  have := sr_yes (g := fun p => σ.1 (rw_ σ m p) 0) hi
  rw [ev_holds hn hs h.2.2.1 h.1, if_neg (by omega)]
theorem holds_no {n : Nat} (hn : 10 < n) {σ τ : Mem} {m L N Q : Nat} {x : Int32} (hs : ShM σ m) (h : RQ σ τ m L N Q) (hi : ¬ inq σ m Q x) : sp_X4_holds n σ (10 * m + 9) x = some (0, σ) := by
  rw [ev_holds hn hs h.2.2.1 h.1, sr_no (fun p hp e => hi ⟨p, hp, e⟩), if_pos rfl]
/-- is the trip for x? -/
def trp (σ : Mem) (m : Nat) (x : Int32) : Prop := σ.1 (10 * m + 8) 0 ≠ 45 ∧ σ.1 (10 * m + 8) 4 ≠ -1 ∧ σ.1 (10 * m + 8) 4 = x
theorem isPending_yes {n : Nat} (hn : 10 < n) {σ τ : Mem} {m L N Q : Nat} {x : Int32} (hs : ShM σ m) (h : RQ σ τ m L N Q) (hi : inq σ m Q x ∨ trp σ m x) : sp_X1_isPending n σ (10 * m + 7) x = some (1, σ) := by
  unfold sp_X1_isPending
  rw [rf_2 hs.1, rf_3 hs.1]
  by_cases c : inq σ m Q x
  · rw [holds_yes hn hs h c]
    rfl
  · obtain ⟨t1, t2, t3⟩ := hi.resolve_left c
    rw [holds_no hn hs h c]
    simp only [Option.bind_some]
    unfold sp_X3_isFor
    rw [if_pos trivial, ev_isOn, if_neg t1]
    simp only [Option.bind_some]
    rw [if_neg (by decide), if_neg t2, if_pos t3]
    rfl
theorem isPending_no {n : Nat} (hn : 10 < n) {σ τ : Mem} {m L N Q : Nat} {x : Int32} (hs : ShM σ m) (h : RQ σ τ m L N Q) (hi : ¬ inq σ m Q x) (ht : ¬ trp σ m x) : sp_X1_isPending n σ (10 * m + 7) x = some (0, σ) := by
  unfold sp_X1_isPending
  rw [rf_2 hs.1, rf_3 hs.1, holds_no hn hs h hi]
  simp only [Option.bind_some]
  unfold sp_X3_isFor
  rw [if_pos trivial, ev_isOn]
  by_cases c1 : σ.1 (10 * m + 8) 0 = 45
  · rw [if_pos c1]
    rfl
  · rw [if_neg c1]
    simp only [Option.bind_some]
    rw [if_neg (by decide)]
    by_cases c2 : σ.1 (10 * m + 8) 4 = -1
    · rw [if_pos c2]
      rfl
    · rw [if_neg c2, if_neg (fun c3 => ht ⟨c1, c2, c3⟩)]
      rfl
theorem nI_m1 {r : Nat} (h : r < 90000) : nI r ≠ -1 := by
  intro e
  have := nI_pos (n := r) (by omega)
  rw [e] at this
  exact this (by decide)
/-- x waits or is on its way, and no trip for x was the last to end -/
theorem RR.notD {σ τ : Mem} {m L : Nat} {W : Nat → Nat} {u N Q : Nat} {r : Nat} (h : RR σ τ m L W u N Q) (hr : r < 90000) (hi : inq σ m Q (nI r) ∨ σ.1 (10 * m + 8) 4 = nI r) : σ.1 (10 * m + 7) 15 ≠ nI r := by
  obtain ⟨-, -, -, -, -, -, -, -, q9, q10, -⟩ := h.2.2.2.2.1
  intro e
  rcases hi with ⟨p, hp, ep⟩ | e2
  · exact (q9 p hp).2 (ep.trans e.symm)
  · exact nI_m1 hr (e.symm.trans (q10 (e.trans e2.symm)))
theorem wait_sim {n n' : Nat} (hn : 20 < n) (hn' : 80 < n') {L : Nat} {W : Nat → Nat} {u N r : Nat} {a1 l2 : Int32} (hr : r < 90000) : ∀ (d k k' j Q : Nat) (σ τ : Mem), j + d = 500 → d < k → d < k' → RR σ τ 1 L W u N Q → (inq σ 1 Q (nI r) ∨ σ.1 18 4 = nI r) →
    ∃ v σ' τ' l3 l4 l5, lp_X1_passToEndOf_2 n 17 a1 k σ (nI r) (nI (j + 1)) = some (v, σ') ∧ lp_X6_waitFor_65 n' 41 a1 k' τ (nI r) l2 (nI j) 0 1 = lp_X6_waitFor_160 n' 41 a1 τ' (nI r) l2 l3 l4 l5 ∧ FrC σ σ' 1 ∧ FrM τ τ' ∧ ShM σ' 1 ∧ (v = -1 ∧ l4 = 0 ∨ (∃ w, w < 1000 ∧ v = nI w) ∧ l4 = 1 ∧ l3 = v) := by
  intro d
  induction d with
  | zero =>
    intro k k' j Q σ τ hj hk hk' h hi
    obtain ⟨k, rfl⟩ : ∃ z, k = z + 1 := ⟨k - 1, by omega⟩
    obtain ⟨k', rfl⟩ : ∃ z, k' = z + 1 := ⟨k' - 1, by omega⟩
    refine ⟨-1, σ, τ, nI j, 0, 1, ?_, ?_, FrC.rfl' _ _, FrM.rfl' _, h.1.sh, Or.inl ⟨rfl, rfl⟩⟩
    · rw [lp_X1_passToEndOf_2_s, if_pos (show (500 : Int32) < nI (j + 1) by rw [show (500 : Int32) = nI 500 from rfl, lt_nI (by omega) (by omega)]; omega)]
    · rw [lp_X6_waitFor_65_s, if_neg (by decide), if_pos (show (500 : Int32) ≤ nI j by rw [show (500 : Int32) = nI 500 from rfl, le_nI (by omega) (by omega)]; omega)]
  | succ d ih =>
    intro k k' j Q σ τ hj hk hk' h hi
    obtain ⟨k, rfl⟩ : ∃ z, k = z + 1 := ⟨k - 1, by omega⟩
    obtain ⟨k', rfl⟩ : ∃ z, k' = z + 1 := ⟨k' - 1, by omega⟩
    have hS := h.1
    have hT := h.2.2.2.1
    have hQ := h.2.2.2.2.1
    have hm1 := nI_m1 hr
    have hD := h.notD hr hi
    have hTon : σ.1 18 4 = nI r → trp σ 1 (nI r) := fun e => ⟨fun c => hm1 (e.symm.trans (hT.2.2.2.1 c).2.1), fun c => hm1 (e.symm.trans c), e⟩
    have hp := isPending_yes (n := n) (by omega) hS.sh hQ (x := nI r) (hi.imp id hTon)
    obtain ⟨σ1, τ1, Q1, a2, a3, a4, a5, a6, a7, a8, -⟩ := minute_sim (n := n) (n' := n') (by omega) (by omega) h
    have hS1 := a4.1
    have hT1 := a4.2.2.2.1
    have hQ1 := a4.2.2.2.2.1
    have nlt : ¬ (500 : Int32) < nI (j + 1) := by rw [show (500 : Int32) = nI 500 from rfl, lt_nI (by omega) (by omega)]; omega
    have nle : ¬ (500 : Int32) ≤ nI j := by rw [show (500 : Int32) = nI 500 from rfl, le_nI (by omega) (by omega)]; omega
    have e67 : τ.1 47 67 = σ.1 18 4 := hT.2.1.symm
    have e67' : τ1.1 47 67 = σ1.1 18 4 := hT1.2.1.symm
    have hcl : lp_X1_passToEndOf_2 n 17 a1 (k + 1) σ (nI r) (nI (j + 1)) = if σ1.1 17 15 = nI r then some (nI (j + 1), σ1) else lp_X1_passToEndOf_2 n 17 a1 k σ1 (nI r) (nI (j + 1 + 1)) := by
      rw [lp_X1_passToEndOf_2_s, if_neg nlt, hp]
      simp only [Option.bind_some]
      rw [if_neg (by decide), show sp_X1_passMinute n σ 17 = some ((), σ1) from a2]
      simp only [Option.bind_some, add1_nI]
    rw [hcl]
    -- still pending behind the minute
    by_cases hi1 : inq σ1 1 Q1 (nI r) ∨ σ1.1 18 4 = nI r
    · have hD1 := a4.notD hr hi1
      obtain ⟨v, σ', τ', l3, l4, l5, b1, b2, b3, b4, b5, b6⟩ := ih k k' (j + 1) Q1 σ1 τ1 (by omega) (by omega) (by omega) a4 hi1
      refine ⟨v, σ', τ', l3, l4, l5, ?_, ?_, a5.trans b3, a6.trans b4, b5, b6⟩
      · rw [if_neg hD1]
        exact b1
      · rw [lp_X6_waitFor_65_s, if_neg (by decide), if_neg nle, if_pos i67]
        simp only [rfm_11, ix67]
        rw [a3]
        simp only [Option.bind_some, add1_nI, rfm_11, ix67]
        by_cases c1 : σ1.1 18 4 = nI r
        · by_cases c : τ.1 47 67 = nI r
          · rw [if_pos c, if_pos i67, e67', if_pos c1]
            exact b2
          · rw [if_neg c, if_pos i67, e67', if_pos c1]
            exact b2
        · obtain ⟨q, hq, eq, -⟩ := place_yes (n := n') (by omega) hQ1 (hi1.resolve_right c1)
          have hq1 := hQ1.1
          by_cases c : τ.1 47 67 = nI r
          · rw [if_pos c, if_pos i67, e67', if_neg c1, eq]
            simp only [Option.bind_some]
            rw [if_neg (nI_m1 (by omega))]
            exact b2
          · rw [if_neg c, if_pos i67, e67', if_neg c1, eq]
            simp only [Option.bind_some]
            rw [if_neg (nI_m1 (by omega))]
            exact b2
    · have hni : ¬ inq σ1 1 Q1 (nI r) := fun c => hi1 (Or.inl c)
      have hnt : ¬ σ1.1 18 4 = nI r := fun c => hi1 (Or.inr c)
      have pn := place_no (n := n') (by omega) hQ1 hni
      obtain ⟨k', rfl⟩ : ∃ z, k' = z + 1 := ⟨k' - 1, by omega⟩
      -- was the last trip that ended for x?
      have key : (σ.1 18 4 = nI r → σ1.1 17 15 = nI r) ∧ (σ.1 18 4 ≠ nI r → (σ1.1 17 15 = nI r ↔ τ1.1 47 72 = nI r)) := by
        constructor
        · intro e
          have hon := hTon e
          obtain ⟨t1, t2⟩ := a7 hon.1
          by_cases c : σ1.1 (10 * 1 + 8) 0 = 45
          · rw [show σ1.1 17 15 = τ1.1 47 72 from (hT1.2.2.2.1 c).2.2, t1, (hT.2.2.2.2 hon.1).2.2.2]
            exact e
          · exact absurd ((t2 c).trans e) hnt
        · intro e
          by_cases c : σ1.1 (10 * 1 + 8) 0 = 45
          · rw [show σ1.1 17 15 = τ1.1 47 72 from (hT1.2.2.2.1 c).2.2]
          · rw [(hT1.2.2.2.2 c).2.2.2]
            refine ⟨fun q => absurd ((a8 c).symm.trans q) hD, fun q => absurd q hnt⟩
      have hend : ∀ v l4, (σ1.1 17 15 = nI r ∧ v = nI (j + 1) ∧ l4 = 1 ∨ σ1.1 17 15 ≠ nI r ∧ v = -1 ∧ l4 = (0 : Int32)) → lp_X6_waitFor_65 n' 41 a1 (k' + 1 + 1) τ (nI r) l2 (nI j) 0 1 = lp_X6_waitFor_65 n' 41 a1 (k' + 1) τ1 (nI r) l2 (nI (j + 1)) l4 0 → ∃ v σ' τ' l3 l4 l5, (if σ1.1 17 15 = nI r then some (nI (j + 1), σ1) else lp_X1_passToEndOf_2 n 17 a1 k σ1 (nI r) (nI (j + 1 + 1))) = some (v, σ') ∧ lp_X6_waitFor_65 n' 41 a1 (k' + 1 + 1) τ (nI r) l2 (nI j) 0 1 = lp_X6_waitFor_160 n' 41 a1 τ' (nI r) l2 l3 l4 l5 ∧ FrC σ σ' 1 ∧ FrM τ τ' ∧ ShM σ' 1 ∧ (v = -1 ∧ l4 = 0 ∨ (∃ w, w < 1000 ∧ v = nI w) ∧ l4 = 1 ∧ l3 = v) := by
        intro v l4 hv hm
        refine ⟨v, σ1, τ1, nI (j + 1), l4, 0, ?_, ?_, a5, a6, hS1.sh, ?_⟩
        · rcases hv with ⟨c, c2, c3⟩ | ⟨c, c2, c3⟩
          · rw [if_pos c, c2]
          · rw [if_neg c, c2]
            obtain ⟨k, rfl⟩ : ∃ z, k = z + 1 := ⟨k - 1, by omega⟩
            rw [lp_X1_passToEndOf_2_s]
            by_cases g : (500 : Int32) < nI (j + 1 + 1)
            · rw [if_pos g]
            · rw [if_neg g, show sp_X1_isPending n σ1 17 (nI r) = some (0, σ1) from isPending_no (m := 1) (by omega) hS1.sh hQ1 hni (fun t => hnt t.2.2)]
              simp only [Option.bind_some]
              rw [if_pos trivial]
        · rw [hm, lp_X6_waitFor_65_s, if_pos rfl]
        · rcases hv with ⟨c, c2, c3⟩ | ⟨c, c2, c3⟩
          · exact Or.inr ⟨⟨j + 1, by omega, c2⟩, c3, c2.symm⟩
          · exact Or.inl ⟨c2, c3⟩
      have hstep : ∀ l4, (σ1.1 17 15 = nI r ∧ l4 = 1 ∨ σ1.1 17 15 ≠ nI r ∧ l4 = (0 : Int32)) → lp_X6_waitFor_65 n' 41 a1 (k' + 1 + 1) τ (nI r) l2 (nI j) 0 1 = lp_X6_waitFor_65 n' 41 a1 (k' + 1) τ1 (nI r) l2 (nI (j + 1)) l4 0 := by
        intro l4 hl
        rw [lp_X6_waitFor_65_s, if_neg (by decide), if_neg nle, if_pos i67]
        simp only [rfm_11, ix67]
        rw [a3]
        simp only [Option.bind_some, add1_nI, rfm_11, ix67]
        by_cases c : τ.1 47 67 = nI r
        · have := key.1 (e67.symm.trans c)
          rw [if_pos c, if_pos i67, e67', if_neg hnt, pn]
          simp only [Option.bind_some]
          rw [if_pos trivial]
          rcases hl with ⟨_, e⟩ | ⟨e, _⟩
          · rw [e]
          · exact absurd this e
        · have := key.2 (fun q => c (e67.trans q))
          rw [if_neg c, if_pos i67, e67', if_neg hnt, pn]
          simp only [Option.bind_some]
          rw [if_pos trivial, if_pos i72]
          simp only [ix72]
          rcases hl with ⟨g, e⟩ | ⟨g, e⟩
          · rw [if_pos (this.mp g), e]
          · rw [if_neg (fun q => g (this.mpr q)), e]
      by_cases c : σ1.1 17 15 = nI r
      · exact hend (nI (j + 1)) 1 (Or.inl ⟨c, rfl, rfl⟩) (hstep 1 (Or.inl ⟨c, rfl⟩))
      · exact hend (-1) 0 (Or.inr ⟨c, rfl, rfl⟩) (hstep 0 (Or.inr ⟨c, rfl⟩))
