/-! PURE. the law, from the new mine to its last sum -/
section LX
variable {σ τ : Mem} {L N g n A : Nat} {O : Int32} {xs : Nat → Int32} {K : Mem → Int32 → Int32 → Int32 → Int32 → Option (Int64 × Mem)} {Z : Option (Int64 × Mem) → Prop} {l4 : Int32} {i q w : Nat} {l8 : Int32} {l9 : Int64}
theorem chF_ok {j : Nat} (hj : j < 6) : chF (nI j) = 100 ∨ chF (nI j) = 117 ∨ chF (nI j) = 111 := by
  have h : j = 0 ∨ j = 1 ∨ j = 2 ∨ j = 3 ∨ j = 4 ∨ j = 5 := by omega
  rcases h with e | e | e | e | e | e <;> subst e
  · exact Or.inl rfl
  · exact Or.inl rfl
  · exact Or.inr (Or.inl rfl)
  · exact Or.inr (Or.inl rfl)
  · exact Or.inr (Or.inr rfl)
  · exact Or.inr (Or.inr rfl)
theorem st132 [Inhabited Bl] (hn : 1010 < n) (hi : i < 58) (HK : KK K Z l4 i) (h : INV σ L N (450 * i) O) (hN : N ≤ i) (hs : l8 = 0 ∨ sp_L_sum n σ 40 = some (l9, σ)) (hq : q < 5000000) {k : Nat} (hk1 : 1 ≤ k) (hk6 : k ≤ 6) {s : Nat} (hs24 : s < 24) (l6 : Int32) : Z (lp_L_law_132 n xs A K σ O (nI N) l4 (nI i) l6 (nI q) l8 l9 (nI L) (nI k) (nI s)) := by
  have yes : ∀ j, j ≤ s → nI j ≤ nI s := fun j hj => (le_nI (by omega) (by omega)).mpr hj
  have no : ∀ j, j < 100 → s < j → ¬ nI j ≤ nI s := fun j hj h2 => by rw [le_nI (by omega) (by omega)]; omega
  unfold lp_L_law_132
  by_cases c1 : 1 ≤ s
  · rw [if_pos (show (1 : Int32) ≤ nI s from yes 1 c1)]
    by_cases c3 : 3 ≤ s
    · rw [if_pos (show (3 : Int32) ≤ nI s from yes 3 c3)]
      by_cases c4 : 4 ≤ s
      · rw [if_pos (show (4 : Int32) ≤ nI s from yes 4 c4)]
        by_cases c5 : 5 ≤ s
        · rw [if_pos (show (5 : Int32) ≤ nI s from yes 5 c5)]
          by_cases c6 : 6 ≤ s
          · rw [if_pos (show (6 : Int32) ≤ nI s from yes 6 c6)]
            by_cases c8 : 8 ≤ s
            · rw [if_pos (show (8 : Int32) ≤ nI s from yes 8 c8)]
              by_cases c10 : 10 ≤ s
              · rw [if_pos (show (10 : Int32) ≤ nI s from yes 10 c10)]
                by_cases c16 : 16 ≤ s
                · rw [if_pos (show (16 : Int32) ≤ nI s from yes 16 c16)]
                  by_cases c17 : 17 ≤ s
                  · rw [if_pos (show (17 : Int32) ≤ nI s from yes 17 c17)]
                    exact lf_pass hn hi HK h hN hs hq
                  · rw [if_neg (show ¬ (17 : Int32) ≤ nI s from no 17 (by omega) (by omega))]
                    refine lf_cancel hn hi HK h hN hs _ ?_
                    by_cases cc : (1 : Int32) < nI N
                    · rw [if_pos cc]
                      intro e
                      rw [e] at cc
                      exact absurd cc (by decide)
                    · rw [if_neg cc]
                      decide
                · rw [if_neg (show ¬ (16 : Int32) ≤ nI s from no 16 (by omega) (by omega)), show nI s - (10 : Int32) = nI (s - 10) from pk_sub (a := s) (b := 10) c10, if_pos (inR_nI (j := s - 10) (n := 6) (by omega) (by omega))]
                  exact lf_request hn hi HK h hN hs hq hk1 hk6 (chF_ok (by omega))
              · rw [if_neg (show ¬ (10 : Int32) ≤ nI s from no 10 (by omega) (by omega))]
                exact lf_blast hn hi HK h hN hs hq hk1 hk6
            · rw [if_neg (show ¬ (8 : Int32) ≤ nI s from no 8 (by omega) (by omega))]
              by_cases cd : ((nI q / (7 : Int32)) - (nI q / (7 : Int32)) / (3 : Int32) * (3 : Int32)) ≤ 0
              · rw [if_pos cd]
                exact lf_door hn hi HK h hN hs _ (Or.inl rfl)
              · rw [if_neg cd]
                exact lf_door hn hi HK h hN hs _ (Or.inr rfl)
          · rw [if_neg (show ¬ (6 : Int32) ≤ nI s from no 6 (by omega) (by omega))]
            exact lf_speed hn hi HK h hN hq
        · rw [if_neg (show ¬ (5 : Int32) ≤ nI s from no 5 (by omega) (by omega))]
          exact lf_limit hn hi HK h hN hq
      · rw [if_neg (show ¬ (4 : Int32) ≤ nI s from no 4 (by omega) (by omega))]
        exact lf_fan hn hi HK h hN hq
    · rw [if_neg (show ¬ (3 : Int32) ≤ nI s from no 3 (by omega) (by omega))]
      exact lf_hire hn hi HK h hN hs hq
  · rw [if_neg (show ¬ (1 : Int32) ≤ nI s from no 1 (by omega) (by omega))]
    exact lf_level hn hi HK h hN hs hq
theorem st83 [Inhabited Bl] (hn : 1010 < n) (hi : i < 58) (HK : KK K Z l4 i) (h : INV σ L N (450 * i) O) (hN : N ≤ i) (hs : l8 = 0 ∨ sp_L_sum n σ 40 = some (l9, σ)) (hw : w < 100000000) : Z (lp_L_law_83 n xs A K σ O (nI N) l4 (nI i) (nI w) (nI (w / 24)) l8 l9) := by
  have h' := h
  obtain ⟨τ, W, u, Q, hR, -, -⟩ := h'
  have hL := h.lv.1
  unfold lp_L_law_83
  rw [x_levelCount n hR, Option.bind_some]
  dsimp only
  obtain ⟨m, m1, m6, em⟩ : ∃ m, 1 ≤ m ∧ m ≤ 6 ∧ (if (1 : Int32) < nI L then nI L else (1 : Int32)) = nI m := by
    by_cases c : 1 < L
    · exact ⟨L, by omega, hL, if_pos (show (1 : Int32) < nI L from (lt_nI (a := 1) (by omega) (by omega)).mpr c)⟩
    · exact ⟨1, by omega, by omega, if_neg (show ¬ (1 : Int32) < nI L from fun e => c ((lt_nI (a := 1) (by omega) (by omega)).mp e))⟩
  have e12 : (1 : Int32) + (nI (w / 24) - nI (w / 24) / nI m * nI m) = nI (1 + w / 24 % m) := by
    rw [md (by omega) (by omega) (by omega), show (1 : Int32) = nI 1 from rfl, add_nI]
  have hmod : w / 24 % m < m := Nat.mod_lt _ (by omega)
  rw [em, e12, if_pos (show ¬ nI m = 0 from fun e => by
    have := (eq_nI (a := m) (b := 0) (by omega) (by omega)).mp e
    omega)]
  by_cases c3 : (3 : Int32) ≤ nI i
  · rw [if_pos c3]
    by_cases c4 : (4 : Int32) ≤ nI i
    · rw [if_pos c4, show nI w - nI w / (24 : Int32) * (24 : Int32) = nI (w % 24) from pk_rem (a := w) (d := 24) (by omega) (by omega) (by omega)]
      exact st132 hn hi HK h hN hs (by omega) (by omega) (by omega) (Nat.mod_lt _ (by omega)) _
    · rw [if_neg c4]
      exact st132 (s := 1) hn hi HK h hN hs (by omega) (by omega) (by omega) (by omega) _
  · rw [if_neg c3]
    exact st132 (s := 0) hn hi HK h hN hs (by omega) (by omega) (by omega) (by omega) _
/-! the end: what is refused changes nothing -/
theorem ckB {a lo hi : Int32} (h : a < lo ∨ ¬ a ≤ hi) (n : Nat) (σ : Mem) : sp_X5_checkRange n σ a lo hi = some (.inr "java/lang/IllegalArgumentException", σ) := by
  unfold sp_X5_checkRange
  by_cases c : a < lo
  · rw [if_pos c]
  · rw [if_neg c, if_neg (h.resolve_left c)]
theorem ckG {a lo hi : Int32} (h : ¬ a < lo) (h2 : a ≤ hi) (n : Nat) (σ : Mem) : sp_X5_checkRange n σ a lo hi = some (.inl (), σ) := by
  unfold sp_X5_checkRange
  rw [if_neg h, if_pos h2]
theorem bl_1 : sp_L_level n σ 40 9 1 1 0 = some (-1001, σ) := by
  unfold sp_L_level sp_X5_addLevel
  rw [ckB (a := 9) (by decide)]
  rfl
theorem bl_2 : sp_L_level n σ 40 2001 1 1 0 = some (-1001, σ) := by
  unfold sp_L_level sp_X5_addLevel
  rw [ckB (a := 2001) (by decide)]
  rfl
theorem bl_3 : sp_L_level n σ 40 2000 0 1 0 = some (-1001, σ) := by
  unfold sp_L_level sp_X5_addLevel
  rw [ckG (a := 2000) (by decide) (by decide), Option.bind_some]
  dsimp only
  rw [ckB (a := 0) (lo := 1) (by decide)]
  rfl
theorem bl_4 : sp_L_level n σ 40 2000 1 21 0 = some (-1001, σ) := by
  unfold sp_L_level sp_X5_addLevel
  rw [ckG (a := 2000) (by decide) (by decide), Option.bind_some]
  dsimp only
  rw [ckG (a := 1) (by decide) (by decide), Option.bind_some]
  dsimp only
  rw [ckB (a := 21) (by decide)]
  rfl
theorem bl_5 : sp_L_level n σ 40 2000 1 1 51 = some (-1001, σ) := by
  unfold sp_L_level sp_X5_addLevel
  rw [ckG (a := 2000) (by decide) (by decide), Option.bind_some]
  dsimp only
  rw [ckG (a := 1) (hi := 500) (by decide) (by decide), Option.bind_some]
  dsimp only
  rw [ckG (a := 1) (by decide) (by decide), Option.bind_some]
  dsimp only
  rw [ckB (a := 51) (by decide)]
  rfl
theorem bl_6 [Inhabited Bl] (h : INV σ L N g O) (hc : ¬ σ.1 7 8 ≤ 0) : sp_L_level n σ 40 2000 1 1 0 = some (-1002, σ) := by
  obtain ⟨dl, d1, d2⟩ := h.dep
  have hL := h.lv.1
  obtain ⟨τ, W, u, Q, hR, -, -⟩ := h
  have e := lev_c0 n hR (da := 2000) (sb := 1) (wc := 1) (dd := 0) (dl := dl) (by omega) (by omega) (by omega) (by omega) (by omega) (by omega) (by omega) d2 (by omega)
  refine lev_ise (X := none) ?_
  refine Eq.trans e ?_
  by_cases c6 : 6 ≤ nI L
  · rw [if_pos c6]
  · rw [if_neg c6, if_neg hc]
theorem bf_1 : sp_L_sets n σ 40 102 1001 = some (-1001, σ) := by
  unfold sp_L_sets sp_X5_setFan
  rw [if_pos rfl, ckB (a := 1001) (by decide)]
  rfl
theorem bf_2 : sp_L_sets n σ 40 102 (-1) = some (-1001, σ) := by
  unfold sp_L_sets sp_X5_setFan
  rw [if_pos rfl, ckB (a := -1) (by decide)]
  rfl
theorem bf_3 : sp_L_sets n σ 40 108 0 = some (-1001, σ) := by
  unfold sp_L_sets sp_X5_setLimit
  rw [if_neg (by decide), if_pos rfl, ckB (a := 0) (by decide)]
  rfl
theorem bf_4 : sp_L_sets n σ 40 108 1001 = some (-1001, σ) := by
  unfold sp_L_sets sp_X5_setLimit
  rw [if_neg (by decide), if_pos rfl, ckB (a := 1001) (by decide)]
  rfl
theorem bf_5 : sp_L_sets n σ 40 115 9 = some (-1001, σ) := by
  unfold sp_L_sets sp_X5_setSpeed
  rw [if_neg (by decide), if_neg (by decide), ckB (a := 9) (by decide)]
  rfl
theorem bf_6 : sp_L_sets n σ 40 115 501 = some (-1001, σ) := by
  unfold sp_L_sets sp_X5_setSpeed
  rw [if_neg (by decide), if_neg (by decide), ckB (a := 501) (by decide)]
  rfl
theorem bd_1 {a b : Int32} (h4 : σ.1 7 4 = nI L) (ha : noL L a) : sp_L_door n σ 40 a b = some (-1001, σ) := by
  unfold sp_L_door sp_X5_setDoor
  rw [ckL_bad n h4 ha]
  rfl
theorem bh_1 : sp_L_hire n σ 40 0 = some (-1001, σ) := by
  unfold sp_L_hire sp_X5_hire
  rw [ckB (a := 0) (by decide)]
  rfl
theorem bh_2 : sp_L_hire n σ 40 100 = some (-1001, σ) := by
  unfold sp_L_hire sp_X5_hire
  rw [ckB (a := 100) (by decide)]
  rfl
theorem bp_1 : sp_L_pass n σ 40 0 = some (-1001, σ) := by
  unfold sp_L_pass sp_X5_pass
  rw [ckB (a := 0) (by decide)]
  rfl
theorem bp_2 : sp_L_pass n σ 40 61 = some (-1001, σ) := by
  unfold sp_L_pass sp_X5_pass
  rw [ckB (a := 61) (by decide)]
  rfl
theorem bb_1 {b : Int32} (h4 : σ.1 7 4 = nI L) : sp_L_blast n σ 40 0 b = some (-1001, σ) := by
  unfold sp_L_blast sp_X5_blast
  rw [ckL_bad n h4 (Or.inl rfl)]
  rfl
theorem bb_2 {b : Int32} (h4 : σ.1 7 4 = nI L) (hL : L ≤ 6) (h1 : 1 ≤ L) (hb : b < 1 ∨ ¬ b ≤ 20) : sp_L_blast n σ 40 1 b = some (-1002, σ) := by
  unfold sp_L_blast sp_X5_blast
  rw [show sp_X5_checkLevel n σ 40 1 = some (.inl (), σ) from ckL_ok (k := 1) n h4 hL (Nat.le_refl 1) h1, Option.bind_some]
  dsimp only
  rw [ckB (a := b) hb]
  rfl
theorem br_1 {a : Int32} (h4 : σ.1 7 4 = nI L) (ha : noL L a) (b : Int32) : sp_L_request n σ 40 111 a b = some (-1001, σ) := by
  unfold sp_L_request sp_X5_hoistOre
  rw [if_neg (by decide), if_neg (by decide), ckL_bad n h4 ha]
  rfl
theorem br_2 {b : Int32} (h4 : σ.1 7 4 = nI L) : sp_L_request n σ 40 100 0 b = some (-1001, σ) := by
  unfold sp_L_request sp_X5_sendDown
  rw [if_pos rfl, ckL_bad n h4 (Or.inl rfl)]
  rfl
theorem br_3 (h4 : σ.1 7 4 = nI L) (hL : L ≤ 6) (h1 : 1 ≤ L) : sp_L_request n σ 40 100 1 13 = some (-1002, σ) := by
  unfold sp_L_request sp_X5_sendDown
  rw [if_pos rfl, show sp_X5_checkLevel n σ 40 1 = some (.inl (), σ) from ckL_ok (k := 1) n h4 hL (Nat.le_refl 1) h1, Option.bind_some]
  dsimp only
  rw [ckB (a := 13) (by decide)]
  rfl
theorem br_4 (h4 : σ.1 7 4 = nI L) (hL : L ≤ 6) (h1 : 1 ≤ L) : sp_L_request n σ 40 117 1 0 = some (-1002, σ) := by
  unfold sp_L_request sp_X5_callUp
  rw [if_neg (by decide), if_pos rfl, show sp_X5_checkLevel n σ 40 1 = some (.inl (), σ) from ckL_ok (k := 1) n h4 hL (Nat.le_refl 1) h1, Option.bind_some]
  dsimp only
  rw [ckB (a := 0) (by decide)]
  rfl
theorem ba_2 {W : Nat → Nat} {u Q : Nat} (hn : 10 < n) (hR : RR σ τ 0 L W u N Q) : sp_L_asked n σ 40 (-1) 2 = some (-1001, σ) := by
  have hQ := hR.2.2.2.2.1
  have c : ¬ inq σ 0 Q (-1) := fun ⟨p, hp, ep⟩ => by
    obtain ⟨⟨r, r1, r2, -⟩, -⟩ := hQ.2.2.2.2.1 p hp
    have := hQ.2.1
    exact nI_m1 (by omega) (r2.symm.trans ep)
  have c2 : ¬ trp σ 0 (-1) := fun e => e.2.1 e.2.2
  unfold sp_L_asked sp_X5_waitFor
  rw [if_neg (by decide), if_neg (by decide), show sp_X1_isPending n σ (rf 40 0) (-1) = some (0, σ) from isPending_no hn hR.1.sh hQ c c2]
  rfl
/-- a sum that stands, in a mine that keeps the invariant -/
def ZZ [Inhabited Bl] (n : Nat) (c : Option (Int64 × Mem)) : Prop := ∃ r σ', c = some (r, σ') ∧ (∃ L N g O, INV σ' L N g O) ∧ sp_L_sum n σ' 40 = some (r, σ')
theorem fin1093 [Inhabited Bl] {l5 : Int64} (hn : 1010 < n) (h : INV σ L N g O) (hg : g ≤ 50000) : lp_L_law_1093 n xs A σ (nI N) l5 (nI L) = some (l5, σ) := by
  obtain ⟨hL, hN, h4, h11⟩ := h.lv
  have hm := asked_made (n := n) (by omega) h
  obtain ⟨τ, W, u, Q, hR, hs, hI⟩ := h
  obtain ⟨r, e1, e2⟩ := x_mean (n := n) (by omega) hR hI hg
  unfold lp_L_law_1093
  rw [add1_nI, br_1 h4 (Or.inr (Or.inr ⟨not_neg (by omega), (lt_nI (by omega) (by omega)).mpr (by omega)⟩)), Option.bind_some]
  dsimp only
  rw [if_pos rfl, hm, Option.bind_some]
  dsimp only
  rw [if_pos rfl, ba_2 (by omega) hR, Option.bind_some]
  dsimp only
  rw [if_pos rfl, asked_1_bad n hR (Or.inl (by decide)), Option.bind_some]
  dsimp only
  rw [if_pos rfl, x_waitingCount n hR, Option.bind_some]
  dsimp only
  rw [asked_1_bad n hR (Or.inr rfl), Option.bind_some]
  dsimp only
  rw [if_pos rfl, e1, Option.bind_some]
  dsimp only
  unfold lp_L_law_1177 lp_L_law_1187
  by_cases c : nI L = 0
  · rw [if_pos (e2.mpr c), if_pos c, if_pos rfl]
  · rw [if_neg (fun q => c (e2.mp q)), if_neg c, if_pos rfl]
theorem fin1074 [Inhabited Bl] {l5 : Int64} (hn : 1010 < n) (h : INV σ L N g O) (hg : g ≤ 50000) : lp_L_law_1074 n xs A σ (nI N) l5 (nI L) = some (l5, σ) := by
  obtain ⟨hL, hN, h4, h11⟩ := h.lv
  have e := fin1093 (xs := xs) (A := A) (l5 := l5) hn h hg
  unfold lp_L_law_1074
  by_cases c : nI L ≤ 0
  · rw [if_pos c]
    exact e
  · have c1 : 1 ≤ L := by
      rcases Nat.eq_zero_or_pos L with e0 | e0
      · rw [e0] at c
        exact absurd (by decide) c
      · exact e0
    rw [if_neg c, br_4 h4 hL c1, Option.bind_some]
    dsimp only
    rw [if_pos rfl]
    exact e
theorem fin1040 [Inhabited Bl] {l5 : Int64} (hn : 1010 < n) (h : INV σ L N g O) (hg : g ≤ 50000) : lp_L_law_1040 n xs A σ (nI N) l5 (nI L) = some (l5, σ) := by
  obtain ⟨hL, hN, h4, h11⟩ := h.lv
  have e := fin1074 (xs := xs) (A := A) (l5 := l5) hn h hg
  unfold lp_L_law_1040
  rw [br_2 h4, Option.bind_some]
  dsimp only
  rw [if_pos rfl]
  by_cases c : nI L ≤ 0
  · rw [if_pos c]
    exact e
  · have c1 : 1 ≤ L := by
      rcases Nat.eq_zero_or_pos L with e0 | e0
      · rw [e0] at c
        exact absurd (by decide) c
      · exact e0
    rw [if_neg c, br_3 h4 hL c1, Option.bind_some]
    dsimp only
    rw [if_pos rfl]
    exact e
theorem fin1022 [Inhabited Bl] {l5 : Int64} (hn : 1010 < n) (h : INV σ L N g O) (hg : g ≤ 50000) : lp_L_law_1022 n xs A σ (nI N) l5 (nI L) = some (l5, σ) := by
  obtain ⟨hL, hN, h4, h11⟩ := h.lv
  have e := fin1040 (xs := xs) (A := A) (l5 := l5) hn h hg
  unfold lp_L_law_1022
  by_cases c : nI L ≤ 0
  · rw [if_pos c]
    exact e
  · have c1 : 1 ≤ L := by
      rcases Nat.eq_zero_or_pos L with e0 | e0
      · rw [e0] at c
        exact absurd (by decide) c
      · exact e0
    rw [if_neg c, bb_2 h4 hL c1 (by decide), Option.bind_some]
    dsimp only
    rw [if_pos rfl]
    exact e
theorem fin917 [Inhabited Bl] {l5 : Int64} (hn : 1010 < n) (h : INV σ L N g O) (hg : g ≤ 50000) : ∀ (d k j : Nat), j + d = 10 → d < k → lp_L_law_917 n xs A k σ (nI N) l5 (nI L) (nI j) = some (l5, σ) := by
  obtain ⟨hL, hN, h4, h11⟩ := h.lv
  intro d
  induction d with
  | zero =>
    intro k j hj hk
    obtain ⟨k, rfl⟩ : ∃ z, k = z + 1 := ⟨k - 1, by omega⟩
    have e := fin1022 (xs := xs) (A := A) (l5 := l5) hn h hg
    rw [lp_L_law_917_s, if_pos (show (10 : Int32) ≤ nI j from (le_nI (a := 10) (by omega) (by omega)).mpr (by omega)), bb_1 h4, Option.bind_some]
    dsimp only
    rw [if_pos rfl]
    by_cases c : nI L ≤ 0
    · rw [if_pos c]
      exact e
    · have c1 : 1 ≤ L := by
        rcases Nat.eq_zero_or_pos L with e0 | e0
        · rw [e0] at c
          exact absurd (by decide) c
        · exact e0
      rw [if_neg c, bb_2 h4 hL c1 (by decide), Option.bind_some]
      dsimp only
      rw [if_pos rfl]
      exact e
  | succ d ih =>
    intro k j hj hk
    obtain ⟨k, rfl⟩ : ∃ z, k = z + 1 := ⟨k - 1, by omega⟩
    have e := ih k (j + 1) (by omega) (by omega)
    obtain ⟨τ, W, u, Q, hR, hs, hI⟩ := h
    have e9 : lp_L_law_987 n xs A (fun σ l3 l5 l7 l8 => lp_L_law_917 n xs A k σ l3 l5 l7 l8) σ (nI N) l5 (nI L) (nI j) = some (l5, σ) := by
      unfold lp_L_law_987
      rw [add1_nI]
      exact e
    rw [lp_L_law_917_s, if_neg (show ¬ (10 : Int32) ≤ nI j from fun e => by have := (le_nI (a := 10) (by omega) (by omega)).mp e; omega), add1_nI, of_bad n hR (Or.inr ⟨not_neg (by omega), (lt_nI (by omega) (by omega)).mpr (by omega)⟩), Option.bind_some]
    dsimp only
    rw [if_pos rfl, of_bad n hR (Or.inl (by decide)), Option.bind_some]
    dsimp only
    rw [if_pos rfl]
    by_cases c0 : nI j = 0
    · rw [if_pos c0]
      exact e9
    · rw [if_neg c0]
      by_cases c7 : nI j = 7
      · rw [if_pos c7]
        exact e9
      · rw [if_neg c7]
        by_cases c8 : nI j = 8
        · rw [if_pos c8]
          exact e9
        · rw [if_neg c8, of_surf n hR c0 c7 c8, Option.bind_some]
          dsimp only
          rw [if_pos rfl]
          exact e9
theorem fin754 [Inhabited Bl] {l5 : Int64} (hn : 1010 < n) (h : INV σ L N g O) (hg : g ≤ 50000) : lp_L_law_754 n xs A σ (nI N) l5 (nI L) = some (l5, σ) := by
  obtain ⟨hL, hN, h4, h11⟩ := h.lv
  have e := fin917 (xs := xs) (A := A) (l5 := l5) hn h hg 10 12 0 (by omega) (by omega)
  unfold lp_L_law_754
  rw [bf_1, Option.bind_some]
  dsimp only
  rw [if_pos rfl, bf_2, Option.bind_some]
  dsimp only
  rw [if_pos rfl, bf_3, Option.bind_some]
  dsimp only
  rw [if_pos rfl, bf_4, Option.bind_some]
  dsimp only
  rw [if_pos rfl, bf_5, Option.bind_some]
  dsimp only
  rw [if_pos rfl, bf_6, Option.bind_some]
  dsimp only
  rw [if_pos rfl, bd_1 h4 (Or.inl rfl), Option.bind_some]
  dsimp only
  rw [if_pos rfl, add1_nI, bd_1 h4 (Or.inr (Or.inr ⟨not_neg (by omega), (lt_nI (by omega) (by omega)).mpr (by omega)⟩)), Option.bind_some]
  dsimp only
  rw [if_pos rfl, bh_1, Option.bind_some]
  dsimp only
  rw [if_pos rfl, bh_2, Option.bind_some]
  dsimp only
  rw [if_pos rfl, bp_1, Option.bind_some]
  dsimp only
  rw [if_pos rfl, bp_2, Option.bind_some]
  dsimp only
  rw [if_pos rfl]
  unfold lp_L_law_914
  exact e
theorem fin628 [Inhabited Bl] (hn : 1010 < n) (h : INV σ L N g O) (hg : g ≤ 50000) : ZZ n (lp_L_law_628 n xs A σ O (nI N)) := by
  obtain ⟨σ1, e1, h1⟩ := x_isSound hn h hg
  have h1' := h1
  obtain ⟨τ, W, u, Q, hR, hs, hI⟩ := h1'
  obtain ⟨r, er⟩ := x_sum (n := n) (by omega) hR
  refine ⟨r, σ1, ?_, ⟨L, N, g, O, h1⟩, er⟩
  have e := fin754 (xs := xs) (A := A) (l5 := r) hn h1 hg
  unfold lp_L_law_628
  rw [e1, Option.bind_some]
  dsimp only
  rw [if_neg (by decide), er, Option.bind_some]
  dsimp only
  rw [x_levelCount n hR, Option.bind_some]
  dsimp only
  rw [bl_1, Option.bind_some]
  dsimp only
  rw [if_pos rfl, bl_2, Option.bind_some]
  dsimp only
  rw [if_pos rfl, bl_3, Option.bind_some]
  dsimp only
  rw [if_pos rfl, bl_4, Option.bind_some]
  dsimp only
  rw [if_pos rfl, bl_5, Option.bind_some]
  dsimp only
  rw [if_pos rfl, x_clock, Option.bind_some]
  dsimp only
  by_cases c : σ1.1 7 8 ≤ 0
  · rw [if_pos c]
    exact e
  · rw [if_neg c, bl_6 h1 c, Option.bind_some]
    dsimp only
    rw [if_pos rfl]
    exact e
theorem law27 [Inhabited Bl] (hn : 1010 < n) {S : Nat} (hS : S < 58) : ∀ (d k i : Nat) (σ : Mem) (L N : Nat) (O : Int32), i + d = S → d < k → INV σ L N (450 * i) O → N ≤ i → ZZ n (lp_L_law_27 n xs A k σ O (nI N) (nI S) (nI i)) := by
  intro d
  induction d with
  | zero =>
    intro k i σ L N O hi hk h hN
    obtain ⟨k, rfl⟩ : ∃ z, k = z + 1 := ⟨k - 1, by omega⟩
    rw [lp_L_law_27_s, if_pos ((le_nI (by omega) (by omega)).mpr (by omega))]
    exact fin628 hn h (by omega)
  | succ d ih =>
    intro k i σ L N O hi hk h hN
    obtain ⟨k, rfl⟩ : ∃ z, k = z + 1 := ⟨k - 1, by omega⟩
    have HK : KK (fun σ l2 l3 l4 l5 => lp_L_law_27 n xs A k σ l2 l3 l4 l5) (ZZ n) (nI S) i := fun σ' L' N' O' h' hN' => ih k (i + 1) σ' L' N' O' (by omega) (by omega) h' hN'
    have h' := h
    obtain ⟨τ, W, u, Q, hR, -, -⟩ := h'
    obtain ⟨w, hw, ew⟩ := some_ok n σ (atv xs A ((1 : Int32) + nI i)) (d := 100000000) (by omega) (by omega)
    rw [lp_L_law_27_s, if_neg (by rw [le_nI (by omega) (by omega)]; omega), if_pos (show ¬ (1 : Int32) + nI i < 0 by rw [show (1 : Int32) = nI 1 from rfl, add_nI]; exact not_neg (by omega)), show sp_L_some n σ (atv xs A ((1 : Int32) + nI i)) 100000000 = some (nI w, σ) from ew, Option.bind_some]
    dsimp only
    rw [show nI w / (24 : Int32) = nI (w / 24) from pk_div (a := w) (d := 24) (by omega) (by omega) (by omega)]
    by_cases c2 : nI i - nI i / (2 : Int32) * (2 : Int32) = 0
    · obtain ⟨r, er⟩ := x_sum (n := n) (by omega) hR
      rw [if_pos c2, er, Option.bind_some]
      dsimp only
      exact st83 hn (by omega) HK h hN (Or.inr er) hw
    · rw [if_neg c2]
      exact st83 hn (by omega) HK h hN (Or.inl rfl) hw
theorem law_pure [Inhabited Bl] (hn : 1010 < n) (h : INV σ 0 0 0 0) : ZZ n (sl_law n xs A σ) := by
  obtain ⟨S, hS, eS⟩ := some_ok n σ (atv xs A 0) (d := 58) (by omega) (by omega)
  unfold sl_law
  rw [if_pos (by decide), show sp_L_some n σ (atv xs A 0) 58 = some (nI S, σ) from eS, Option.bind_some]
  exact law27 hn hS S 60 0 σ 0 0 0 (by omega) (by omega) h (Nat.le_refl 0)
end LX
