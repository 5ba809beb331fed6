/-! PURE. the plain counts, people, the air by paths, the trip's and the queue's ops -/
theorem op_levelCount {n n' B : Nat} {σ τ : Mem} (h : RX B σ τ) : OpN B σ τ (sp_X5_levelCount n σ 40) (sp_X6_levelCount n' τ 41) := by
  obtain ⟨L, W, u, N, Q, hR, h1, hN⟩ := id h
  refine op_num (v := nI L) h (by unfold sp_X5_levelCount; rw [show σ.1 (rf 40 0) 4 = nI L from hR.1.c4]) ?_
  unfold sp_X6_levelCount
  simp only [lm]
  rw [wi_o (by omega), hR.1.t0]
theorem op_gasTotal {n n' B : Nat} {σ τ : Mem} (h : RX B σ τ) : OpN B σ τ (sp_X5_gasTotal n σ 40) (sp_X6_gasTotal n' τ 41) := by
  obtain ⟨L, W, u, N, Q, hR, h1, hN⟩ := id h
  refine op_num (v := τ.1 47 70) h (by unfold sp_X5_gasTotal; rw [show σ.1 (rf 40 0) 9 = τ.1 47 70 from hR.2.2.1.2.1]) ?_
  unfold sp_X6_gasTotal
  simp only [lm, rfm_11, c70]
  rw [if_pos i70, wi_o (by omega)]
theorem op_ventedTotal {n n' B : Nat} {σ τ : Mem} (h : RX B σ τ) : OpN B σ τ (sp_X5_ventedTotal n σ 40) (sp_X6_ventedTotal n' τ 41) := by
  obtain ⟨L, W, u, N, Q, hR, h1, hN⟩ := id h
  refine op_num (v := τ.1 47 71) h (by unfold sp_X5_ventedTotal; rw [show σ.1 (rf 40 0) 10 = τ.1 47 71 from hR.2.2.1.2.2.1]) ?_
  unfold sp_X6_ventedTotal
  simp only [lm, rfm_11, c71]
  rw [if_pos i71, wi_o (by omega)]
theorem op_waitingCount {n n' B : Nat} {σ τ : Mem} (h : RX B σ τ) : OpN B σ τ (sp_X5_waitingCount n σ 40) (sp_X6_waitingCount n' τ 41) := by
  obtain ⟨L, W, u, N, Q, hR, h1, hN⟩ := id h
  refine op_num (v := nI Q) h (by unfold sp_X5_waitingCount; rw [show σ.1 (rf (rf 40 0) 2) 1 = nI Q from hR.2.2.2.2.1.2.2.1]) ?_
  unfold sp_X6_waitingCount
  simp only [lm, rfm_11, c60]
  rw [if_pos i60, wi_o (by omega), hR.2.2.2.2.1.2.2.2.1]
theorem op_clock {n n' B : Nat} {σ τ : Mem} (h : RX B σ τ) : OpN B σ τ (sp_X5_clock n σ 40) (sp_X6_clock n' τ 41) := by
  obtain ⟨L, W, u, N, Q, hR, h1, hN⟩ := id h
  refine op_num (v := τ.1 47 61) h (by unfold sp_X5_clock; rw [show σ.1 (rf 40 0) 8 = τ.1 47 61 from hR.2.2.1.1]) ?_
  unfold sp_X6_clock
  simp only [lm, rfm_11, c61]
  rw [if_pos i61, wi_o (by omega)]
theorem op_cageLevel {n n' B : Nat} {σ τ : Mem} (h : RX B σ τ) : OpN B σ τ (sp_X5_cageLevel n σ 40) (sp_X6_cageLevel n' τ 41) := by
  obtain ⟨L, W, u, N, Q, hR, h1, hN⟩ := id h
  obtain ⟨c, -, c1, c2⟩ := hR.2.2.1.2.2.2.2.2.1
  refine op_num (v := nI c) h (by unfold sp_X5_cageLevel; rw [show σ.1 (rf 40 0) 12 = nI c from c1]) ?_
  unfold sp_X6_cageLevel
  simp only [lm, rfm_11, ix62]
  rw [if_pos i62, wi_o (by omega), c2]
theorem op_doneCount {n n' B : Nat} {σ τ : Mem} (h : RX B σ τ) : OpN B σ τ (sp_X5_doneCount n σ 40) (sp_X6_doneCount n' τ 41) := by
  obtain ⟨L, W, u, N, Q, hR, h1, hN⟩ := id h
  refine op_num (v := τ.1 47 68) h (by unfold sp_X5_doneCount; rw [show σ.1 (rf 40 0) 13 = τ.1 47 68 from hR.2.2.1.2.2.2.2.2.2.1]) ?_
  unfold sp_X6_doneCount
  simp only [lm, rfm_11, ix68]
  rw [if_pos i68, wi_o (by omega)]
theorem op_droppedCount {n n' B : Nat} {σ τ : Mem} (h : RX B σ τ) : OpN B σ τ (sp_X5_droppedCount n σ 40) (sp_X6_droppedCount n' τ 41) := by
  obtain ⟨L, W, u, N, Q, hR, h1, hN⟩ := id h
  refine op_num (v := τ.1 47 69) h (by unfold sp_X5_droppedCount; rw [show σ.1 (rf 40 0) 14 = τ.1 47 69 from hR.2.2.1.2.2.2.2.2.2.2]) ?_
  unfold sp_X6_droppedCount
  simp only [lm, rfm_11, ix69]
  rw [if_pos i69, wi_o (by omega)]
theorem ch_kd5 {c : Int32} (h : c = 45 ∨ kd4 c) : (c.toUInt32 % 65536).toInt32 = c := by
  rcases h with h | h | h | h | h <;> subst h <;> decide
theorem op_tripKind {n n' B : Nat} {σ τ : Mem} (h : RX B σ τ) : OpN B σ τ (sp_X5_tripKind n σ 40) (sp_X6_tripKind n' τ 41) := by
  obtain ⟨L, W, u, N, Q, hR, h1, hN⟩ := id h
  have hT := hR.2.2.2.1
  have hk : σ.1 8 0 = 45 ∨ kd4 (σ.1 8 0) := hT.2.2.1
  have e : τ.1 47 63 = σ.1 8 0 := hT.1.symm
  refine op_num (v := σ.1 8 0) h ?_ ?_
  · unfold sp_X5_tripKind
    rw [show rf (rf 40 0) 3 = 8 from rfl, if_pos (kd_ch hk)]
  · unfold sp_X6_tripKind
    simp only [lm, rfm_11, ix63]
    rw [if_pos i63, wi_o (by omega), e, ch_kd5 hk, if_pos (kd_ch hk)]
/-- all people, of the class -/
theorem lp_allPeople (n : Nat) {σ τ : Mem} {L : Nat} {W : Nat → Nat} {u : Nat} (h : RS σ τ 0 L W u) {x : Int32} : ∀ (d k j : Nat), j + d = L → d < k → lp_X1_allPeople_26 n 7 k σ (acc x (fun i => σ.1 (10 * 0 + i) 8) j) (nI (j + 1)) = some (acc x (fun i => σ.1 (10 * 0 + i) 8) L, σ) := by
  intro d
  have hL := h.lv
  have h4 : σ.1 7 4 = nI L := h.c4
  induction d with
  | zero =>
    intro k j hj hk
    obtain ⟨k, rfl⟩ : ∃ z, k = z + 1 := ⟨k - 1, by omega⟩
    rw [lp_X1_allPeople_26_s, h4, if_pos ((lt_nI (by omega) (by omega)).mpr (by omega)), show j = L by omega]
  | succ d ih =>
    intro k j hj hk
    obtain ⟨k, rfl⟩ : ∃ z, k = z + 1 := ⟨k - 1, by omega⟩
    rw [lp_X1_allPeople_26_s, h4, if_neg (by rw [lt_nI (by omega) (by omega)]; omega), show sp_X1_place n σ 7 (nI (j + 1)) = some (j + 1, σ) from pl_0 n h.sh (by omega)]
    simp only [Option.bind_some]
    rw [if_pos (ok_0 (by omega)), add1_nI]
    have := ih k (j + 1) (by omega) (by omega)
    rw [acc, show 10 * 0 + (j + 1) = j + 1 by omega] at this
    exact this
theorem ev_allPeople {n : Nat} (hn : 10 < n) {σ τ : Mem} {L : Nat} {W : Nat → Nat} {u N Q : Nat} (h : RR σ τ 0 L W u N Q) : sp_X1_allPeople n σ 7 = some (τ.1 41 10, σ) := by
  have hS := h.1
  have hL := hS.lv
  have h4 : σ.1 7 4 = nI L := hS.c4
  have hp := h.2.2.2.2.2.1.1
  obtain ⟨k, rfl⟩ : ∃ z, n = z + 1 := ⟨n - 1, by omega⟩
  have key : ∀ x : Int32, lp_X1_allPeople_26 (k + 1) 7 (k + 1) σ x 0 = some (acc (x + σ.1 (10 * 0) 8) (fun i => σ.1 (10 * 0 + i) 8) L, σ) := fun x => by
    rw [lp_X1_allPeople_26_s, h4, if_neg (not_neg (by omega)), show sp_X1_place (k + 1) σ 7 0 = some (0, σ) from pl_0 (k + 1) (k := 0) hS.sh (by omega)]
    simp only [Option.bind_some]
    rw [if_pos (ok_0 (by omega))]
    exact lp_allPeople (k + 1) hS L k 0 (by omega) (by omega)
  unfold sp_X1_allPeople
  unfold onT at hp
  rw [show rf 7 3 = 10 * 0 + 8 from rfl]
  by_cases c : σ.1 (10 * 0 + 8) 0 = 111
  · rw [if_pos c] at hp
    rw [if_pos c, key, hp]
  · rw [if_neg c] at hp
    rw [if_neg c, key, hp]
theorem op_peopleTotal {n n' B : Nat} (hn : 10 < n) {σ τ : Mem} (h : RX B σ τ) : OpN B σ τ (sp_X5_peopleTotal n σ 40) (sp_X6_peopleTotal n' τ 41) := by
  obtain ⟨L, W, u, N, Q, hR, h1, hN⟩ := id h
  refine op_num (v := τ.1 41 10) h ?_ ?_
  · unfold sp_X5_peopleTotal
    rw [show rf 40 0 = 7 from rfl, ev_allPeople hn hR]
    rfl
  · unfold sp_X6_peopleTotal
    simp only [lm]
    rw [wi_o (by omega)]
theorem op_hire {n n' B : Nat} (hn : 10 < n) {σ τ : Mem} (a : Int32) (h : RX B σ τ) : OpG B σ τ (spg_L_hire n σ 40 a 49) (sp_X6_hire n' τ 41 a) := by
  obtain ⟨L, W, u, N, Q, hR, h1, hN⟩ := id h
  have hS := hR.1
  have hL := hS.lv
  have h7 : inR (7 : Int32) 73 := by decide
  have c7 : (7 : Int32).toNatClampNeg = 7 := by decide
  rcases rng a 1 99 with ⟨-, -, c1, c2⟩ | ⟨c1, c2⟩
  · by_cases c : τ.1 41 10 + a ≤ 200
    · have g := (hR.2.1 0 (by omega)).2.1
      have o2 : ∀ a' b', (a' ≠ 41 ∨ (b' ≠ 14 ∧ b' ≠ 10)) → (a' ≠ 47 ∨ b' ≠ 7) → (wi (wi (wi τ 41 14 0) 41 10 (τ.1 41 10 + a)) 47 7 (τ.1 47 7 + a)).1 a' b' = τ.1 a' b' := fun a' b' q1 q2 => by rw [wi_o (by omega), wi_o (by omega), wi_o (by omega)]
      refine op_put (B := B) (v := σ.1 0 8 + a) (σ1 := wi σ 0 8 (σ.1 0 8 + a)) (τ1 := wi (wi (wi τ 41 14 0) 41 10 (τ.1 41 10 + a)) 47 7 (τ.1 47 7 + a)) (Nat.le_refl _) ?_ ?_ ?_ ⟨L, W, u, N, Q, ?_, h1.to rfl, hN⟩ ⟨fun a b h1 h2 => wi_o (by omega), fun _ _ => rfl⟩ ⟨fun a b h1 => o2 _ _ (by omega) (by omega), rfl⟩
      · unfold spg_L_hire sp_X5_hire
        rw [c1]
        simp only [Option.bind_some]
        rw [show rf 40 0 = 7 from rfl, ev_allPeople hn hR]
        simp only [Option.bind_some]
        rw [if_pos c, show rf 7 0 = 0 from rfl]
        simp only [lm, Option.bind_some]
        rw [wi_eq rfl rfl]
        rfl
      · unfold sp_X6_hire lp_X6_hire_32
        rw [c2]
        simp only [Option.bind_some, lm, rfm_11, c7]
        rw [if_neg (by decide), if_pos c, wi_eq rfl rfl, if_pos (by decide), if_pos h7, if_pos h7, if_pos h7, wi_eq rfl rfl, wi_o (by omega), wi_o (by omega), wi_o (by omega)]
        rw [show σ.1 0 8 = τ.1 47 7 from g]
      · rw [wi_o (by omega), wi_o (by omega), wi_eq rfl rfl]
      · obtain ⟨hS, hG, hK, hT, hQ, hP, hB⟩ := hR
        refine ⟨hS.to (hS.sh.to rfl) (fun k b k1 b1 => wi_o (by omega)) (fun b b1 b2 => wi_o (by omega)) (fun a b hab => ?_), ?_, hK.to (fun b b1 b2 => wi_o (by omega)) (fun b hb => o2 _ _ (by omega) (by omega)) (o2 _ _ (by omega) (by omega)), hT.to (fun b hb => wi_o (by omega)) (wi_o (by omega)) (fun b b1 b2 => o2 _ _ (by omega) (by omega)) (o2 _ _ (by omega) (by omega)), hQ.to (wi_o (by omega)) (fun p b hp hb => ?_) (wi_o (by omega)) (wi_o (by omega)) (fun b b1 b2 => o2 _ _ (by omega) (by omega)), ?_, hB.to hL (fun k k1 => wi_o (by omega)) (wi_o (by omega)) (wi_o (by omega))⟩
        · by_cases e : a = 41 ∧ b < 9
          · exact o2 _ _ (by omega) (by omega)
          · exact o2 _ _ (by omega) (by omega)
        · intro k hk
          obtain ⟨g1, g2, g3, g4⟩ := hG k hk
          rw [wi_o (σ := σ) (by omega), wi_o (σ := σ) (b := 9) (by omega), wi_o (σ := σ) (b := 10) (by omega), o2 47 k (by omega) (by omega), o2 47 (14 + k) (by omega) (by omega), o2 47 (21 + k) (by omega) (by omega)]
          refine ⟨g1, ?_, g3, g4⟩
          by_cases e : k = 0
          · subst e
            rw [wi_eq rfl rfl, wi_eq rfl rfl, show σ.1 0 8 = τ.1 47 7 from g]
          · rw [wi_o (by omega), o2 _ _ (by omega) (by omega)]
            exact g2
        · exact wi_o (Or.inl (by have := hS.sh.2.2.1 p hp; show σ.2 (38 + 0) p ≠ _; omega))
        · refine ⟨?_, fun k k1 k2 => by rw [wi_o (by omega)]; exact hP.2 k k1 k2⟩
          rw [wi_o (a := 41) (by omega), wi_eq (a := 41) rfl rfl, wi_eq rfl rfl, onT_cong (σ := σ) (m := 0) (wi_o (by omega)) (wi_o (by omega)), ← Int32.add_assoc, acc_x, ← hP.1]
          exact congrArg (· + a) (acc_cong (fun i i1 i2 => wi_o (by omega)))
    · refine op_bad (t := 2) (r := 0) h (by decide) ?_ ?_
      · unfold spg_L_hire sp_X5_hire
        rw [c1]
        simp only [Option.bind_some]
        rw [show rf 40 0 = 7 from rfl, ev_allPeople hn hR]
        simp only [Option.bind_some]
        rw [if_neg c]
        simp
      · unfold sp_X6_hire lp_X6_hire_32
        rw [c2]
        simp only [Option.bind_some, lm]
        rw [if_neg (by decide), if_neg c, wi_eq rfl rfl, if_neg (by decide)]
  · refine op_bad (t := 1) (r := 0) h (by decide) ?_ ?_
    · unfold spg_L_hire sp_X5_hire
      rw [c1]
      simp
    · unfold sp_X6_hire lp_X6_hire_32
      rw [c2]
      simp only [Option.bind_some, lm]
      rw [if_pos trivial, wi_eq rfl rfl, if_neg (by decide)]
theorem lp_endC (n : Nat) {σ τ : Mem} {L : Nat} {W : Nat → Nat} {u : Nat} (h : RS σ τ 0 L W u) : ∀ (d k j : Nat) (x : Int32), j + d = L → d < k → ∃ y, lp_X5_endangered_4 n 40 k σ x (nI (j + 1)) = some (y, σ) ∧ ∀ (n' k' : Nat) (τ' : Mem), d < k' → RS σ τ' 0 L W u → RG σ τ' 0 → lp_X6_endangered_9 n' 41 k' τ' x (nI (j + 1)) = some (y, τ') := by
  intro d
  have hL := h.lv
  have h4 : σ.1 7 4 = nI L := h.c4
  induction d with
  | zero =>
    intro k j x hj hk
    obtain ⟨k, rfl⟩ : ∃ z, k = z + 1 := ⟨k - 1, by omega⟩
    refine ⟨x, ?_, fun n' k' τ' hk' hS' hG' => ?_⟩
    · rw [lp_X5_endangered_4_s, show σ.1 (rf 40 0) 4 = nI L from h4, if_pos ((lt_nI (by omega) (by omega)).mpr (by omega))]
    · obtain ⟨k', rfl⟩ : ∃ z, k' = z + 1 := ⟨k' - 1, by omega⟩
      rw [lp_X6_endangered_9_s, hS'.t0, if_pos ((lt_nI (by omega) (by omega)).mpr (by omega))]
  | succ d ih =>
    intro k j x hj hk
    obtain ⟨k, rfl⟩ : ∃ z, k = z + 1 := ⟨k - 1, by omega⟩
    have ha := h.alarm n (k := j + 1) (by omega) (by omega)
    rw [Nat.mul_zero, Nat.zero_add, Nat.zero_add] at ha
    by_cases c : alC σ 0 (j + 1) = 0
    · obtain ⟨y, y1, y2⟩ := ih k (j + 1) x (by omega) (by omega)
      refine ⟨y, ?_, fun n' k' τ' hk' hS' hG' => ?_⟩
      · rw [lp_X5_endangered_4_s, show σ.1 (rf 40 0) 4 = nI L from h4, if_neg (by rw [lt_nI (by omega) (by omega)]; omega), pl_0 n h.sh (by omega)]
        simp only [Option.bind_some]
        rw [if_pos (ok_0 (by omega)), show rf 40 0 = 7 from rfl, ha]
        simp only [Option.bind_some, add1_nI]
        rw [if_pos c]
        exact y1
      · obtain ⟨k', rfl⟩ : ∃ z, k' = z + 1 := ⟨k' - 1, by omega⟩
        rw [lp_X6_endangered_9_s, hS'.t0, if_neg (by rw [lt_nI (by omega) (by omega)]; omega), hS'.alarmM hG' n' (by omega) (by omega)]
        simp only [Option.bind_some, add1_nI]
        rw [if_pos c, Int32.add_zero]
        exact y2 n' k' τ' (by omega) hS' hG'
    · obtain ⟨y, y1, y2⟩ := ih k (j + 1) (x + σ.1 (j + 1) 8) (by omega) (by omega)
      refine ⟨y, ?_, fun n' k' τ' hk' hS' hG' => ?_⟩
      · rw [lp_X5_endangered_4_s, show σ.1 (rf 40 0) 4 = nI L from h4, if_neg (by rw [lt_nI (by omega) (by omega)]; omega), pl_0 n h.sh (by omega)]
        simp only [Option.bind_some]
        rw [if_pos (ok_0 (by omega)), show rf 40 0 = 7 from rfl, ha]
        simp only [Option.bind_some, add1_nI]
        rw [if_neg c]
        exact y1
      · obtain ⟨k', rfl⟩ : ∃ z, k' = z + 1 := ⟨k' - 1, by omega⟩
        have g := (hG' (j + 1) (by omega)).2.1
        rw [Nat.mul_zero, Nat.zero_add] at g
        rw [lp_X6_endangered_9_s, hS'.t0, if_neg (by rw [lt_nI (by omega) (by omega)]; omega), hS'.alarmM hG' n' (by omega) (by omega)]
        simp only [Option.bind_some, add1_nI, ix7]
        rw [if_neg c, if_pos (inR_nI (by omega) (by omega))]
        simp only [nI_cl (show 7 + (j + 1) < 100000 by omega), rfm_11]
        rw [← g]
        exact y2 n' k' τ' (by omega) hS' hG'
theorem op_endangered {n n' B : Nat} (hn : 10 < n) (hn' : 10 < n') {σ τ : Mem} (h : RX B σ τ) : OpN B σ τ (sp_X5_endangered n σ 40) (sp_X6_endangered n' τ 41) := by
  obtain ⟨L, W, u, N, Q, hR, h1, hN⟩ := id h
  have hS := hR.1
  have hL := hS.lv
  obtain ⟨y, y1, y2⟩ := lp_endC n hS L n 0 0 (by omega) (by omega)
  refine op_num (v := y) h y1 ?_
  unfold sp_X6_endangered
  simp only [lm]
  exact y2 n' n' _ (by omega) (RX.to14 (B := B) hS 0) (hR.2.1.to14 0)
