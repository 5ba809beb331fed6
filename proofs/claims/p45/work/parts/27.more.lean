/-! PURE. airByPaths, isConsistent, the queue's and the trip's ops -/
theorem RX.fol {B : Nat} {σ σ' τ : Mem} {L : Nat} {W : Nat → Nat} {u : Nat} (h : RX B σ τ) (hf : FA σ σ' 0 L W u) : RX B σ' τ := h.to (Nat.le_refl _) (fun a b h1 h2 _ _ => hf.2.1 a b (by omega)) (fun a _ => by rw [hf.1]) (fun _ _ _ _ _ _ => rfl)
theorem FA.fc {σ σ' : Mem} {L : Nat} {W : Nat → Nat} {u : Nat} (hf : FA σ σ' 0 L W u) : FC σ σ' := ⟨fun a b h1 h2 => hf.2.1 a b (by omega), fun a _ => by rw [hf.1]⟩
theorem op_airByPaths {n n' B : Nat} (hn : 1010 < n) (hn' : 10 < n') {σ τ : Mem} (a : Int32) (h : RX B σ τ) : OpG B σ τ (spg_L_airByPaths n σ 40 a 49) (sp_X6_airByPaths n' τ 41 a) := by
  obtain ⟨L, W, u, N, Q, hR, h1, hN⟩ := id h
  have hS := hR.1
  have hL := hS.lv
  rcases lvl_or1 L hL a with ⟨k, hk1, hk, rfl⟩ | hb
  · have hS' := RX.to14 (B := B) hS 0
    obtain ⟨-, -, -, s4, -, s6, s7, -, s9, -⟩ := hS'
    obtain ⟨-, -, -, -, r5, -, -, r8, -⟩ := id hS
    obtain ⟨σ', f0, f1⟩ := ev_followAir hn hS.sh hS.c4 hL r5 s7 r8
    have f6 := f1.2.2 k hk1 hk
    rw [Nat.mul_zero, Nat.zero_add] at f6
    refine op_put (B := B) (v := nI (airN W L u k)) (σ1 := σ') (τ1 := wi τ 41 14 0) (Nat.le_refl _) ?_ ?_ (wi_eq rfl rfl) ((h.fol f1).thr 0) f1.fc (FM.thr _ _)
    · unfold spg_L_airByPaths sp_X5_airByPaths
      rw [ckL_ok n hS.c4 hL hk1 hk]
      simp only [Option.bind_some]
      rw [show sp_X1_followAir n σ (rf 40 0) = some ((), σ') from f0]
      simp only [Option.bind_some]
      rw [pl_0 n (hS.sh.to f1.1) (by omega)]
      simp only [Option.bind_some]
      rw [if_pos (ok_0 (by omega)), f6]
      rfl
    · unfold sp_X6_airByPaths sp_X6_airOf
      rw [lacks_ok n' hS.t0 hL hk1 hk]
      simp only [Option.bind_some]
      rw [if_pos trivial, ev_air hn' s4 hL s6 s7 s9 hk1 hk]
      rfl
  · refine op_bad (t := 1) (r := 0) h (by decide) ?_ ?_
    · unfold spg_L_airByPaths sp_X5_airByPaths
      rw [ckL_bad n hS.c4 hb]
      simp
    · unfold sp_X6_airByPaths sp_X6_airOf
      rw [lacks_bad n' hS.t0 hb]
      simp
theorem lp_consist (n : Nat) {σ : Mem} {L : Nat} (hs : ShM σ 0) (hL : L ≤ 6) (h4 : σ.1 7 4 = nI L) (ha : ∀ k, 1 ≤ k → k ≤ L → σ.1 k 5 = σ.1 k 6) {x : Int32} (hx : acc x (fun i => σ.1 (10 * 0 + i) 7) L = σ.1 7 9) : ∀ (d k j : Nat), j + d = L → d < k → lp_X5_isConsistent_17 n 40 k σ (acc x (fun i => σ.1 (10 * 0 + i) 7) j) (nI (j + 1)) = some (1, σ) := by
  intro d
  induction d with
  | zero =>
    intro k j hj hk
    obtain ⟨k, rfl⟩ : ∃ z, k = z + 1 := ⟨k - 1, by omega⟩
    rw [lp_X5_isConsistent_17_s, show σ.1 (rf 40 0) 4 = nI L from h4, if_pos ((lt_nI (by omega) (by omega)).mpr (by omega)), show j = L by omega, hx, show σ.1 (rf 40 0) 9 = σ.1 7 9 from rfl, if_pos rfl]
  | succ d ih =>
    intro k j hj hk
    obtain ⟨k, rfl⟩ : ∃ z, k = z + 1 := ⟨k - 1, by omega⟩
    rw [lp_X5_isConsistent_17_s, show σ.1 (rf 40 0) 4 = nI L from h4, if_neg (by rw [lt_nI (by omega) (by omega)]; omega), pl_0 n hs (by omega)]
    simp only [Option.bind_some]
    rw [if_pos (ok_0 (by omega)), if_pos (ha _ (by omega) (by omega)), add1_nI]
    have := ih k (j + 1) (by omega) (by omega)
    rw [acc, show 10 * 0 + (j + 1) = j + 1 by omega] at this
    exact this
theorem op_isConsistent {n n' B : Nat} (hn : 1010 < n) {σ τ : Mem} (h : RX B σ τ) : OpN B σ τ (sp_X5_isConsistent n σ 40) (sp_X6_isConsistent n' τ 41) := by
  obtain ⟨L, W, u, N, Q, hR, h1, hN⟩ := id h
  have hS := hR.1
  have hL := hS.lv
  obtain ⟨-, -, r3, -, r5, -, r7, r8, -⟩ := id hS
  obtain ⟨σ', f0, f1⟩ := ev_followAir hn hS.sh hS.c4 hL r5 r7 r8
  refine ⟨1, σ', wi τ 41 14 0, ?_, rfl, wi_eq rfl rfl, (h.fol f1).thr 0, f1.fc, FM.thr _ _⟩
  have hB := hR.2.2.2.2.2.2.1
  unfold sp_X5_isConsistent
  rw [show sp_X1_followAir n σ (rf 40 0) = some ((), σ') from f0]
  simp only [Option.bind_some]
  refine lp_consist n (L := L) (hS.sh.to f1.1) hL (by rw [f1.2.1 _ _ (by omega)]; exact r3) (fun k k1 k2 => ?_) ?_ L n 0 (by omega) (by omega)
  · have e6 := f1.2.2 k k1 k2
    have e5 := (hS.row k1 k2).2.2.2.2
    rw [Nat.mul_zero, Nat.zero_add] at e6 e5
    rw [e6, f1.2.1 _ _ (by omega), e5]
  · rw [show rf 40 0 = 7 from rfl, f1.2.1 7 10 (by omega), f1.2.1 7 9 (by omega)]
    exact (acc_cong (fun i i1 i2 => f1.2.1 _ _ (by omega))).trans hB
theorem op_cancel {n n' B : Nat} (hn : 10 < n) (hn' : 40 < n') {σ τ : Mem} (a : Int32) (h : RX B σ τ) : OpG B σ τ (spg_L_cancel n σ 40 a 49) (sp_X6_cancel n' τ 41 a) := by
  obtain ⟨L, W, u, N, Q, hR, h1, hN⟩ := id h
  have hS := hR.1
  have hQ := hR.2.2.2.2.1
  by_cases c : inq σ 0 Q a
  · obtain ⟨q, hq, e1, e2⟩ := place_yes (n := n') (by omega) hQ c
    have hQ8 := hQ.1
    have hR0 : RR σ (wi τ 41 14 0) 0 L W u N Q := hR.toM (fun a b _ _ h3 _ => wi_o (by omega))
    obtain ⟨σ', τ', f1, f2, f3, f4, f5, f6, f7⟩ := remove_sim hn hn' hR0 hq
    rw [e2] at f1
    obtain ⟨-, -, g3, g4, -⟩ := f3.2.2.2.2.1
    refine op_put (B := B) (v := nI (Q - 1)) (σ1 := σ') (τ1 := τ') (Nat.le_refl _) ?_ ?_ ?_ ⟨L, W, u, N, Q - 1, f3, ?_, hN⟩ (f4.fc (by omega)) ((FM.thr _ _).trans f5.fm)
    · unfold spg_L_cancel sp_X5_cancel
      rw [show sp_X4_holds n σ (rf (rf 40 0) 2) a = some (1, σ) from holds_yes hn hS.sh hQ c]
      simp only [Option.bind_some]
      rw [if_neg (by decide), show sp_X4_remove n σ (rf (rf 40 0) 2) a = some ((), σ') from f1]
      simp only [Option.bind_some]
      rw [show σ'.1 (rf (rf 40 0) 2) 1 = nI (Q - 1) from g3]
      rfl
    · unfold sp_X6_cancel
      rw [e1]
      simp only [Option.bind_some, lm]
      rw [if_neg (nI_m1 (by omega)), wi_eq rfl rfl, if_pos (by decide), f2]
      simp only [Option.bind_some, rfm_11, c60]
      rw [if_pos i60, g4]
    · rw [f5.1 _ _ (by omega), wi_eq rfl rfl]
    · unfold ShM at h1 ⊢
      rw [f4.2 _ (by omega), f4.2 _ (by omega)]
      exact h1
  · refine op_bad (t := 1) (r := 0) h (by decide) ?_ ?_
    · unfold spg_L_cancel sp_X5_cancel
      rw [show sp_X4_holds n σ (rf (rf 40 0) 2) a = some (0, σ) from holds_no hn hS.sh hQ c]
      simp
    · unfold sp_X6_cancel
      rw [place_no (n := n') (by omega) hQ c]
      simp only [Option.bind_some, lm]
      rw [if_pos trivial, wi_eq rfl rfl, if_neg (by decide)]
theorem op_waitingAt {n n' B : Nat} {σ τ : Mem} (a : Int32) (h : RX B σ τ) : OpG B σ τ (spg_L_waitingAt n σ 40 a 49) (sp_X6_waitingAt n' τ 41 a) := by
  obtain ⟨L, W, u, N, Q, hR, h1, hN⟩ := id h
  have hS := hR.1
  obtain ⟨q1, q2, q3, q4, q5, -⟩ := hR.2.2.2.2.1
  have q3' : σ.1 (rf (rf 40 0) 2) 1 = nI Q := q3
  by_cases c : ∃ p, p < Q ∧ a = nI p
  · obtain ⟨p, hp, rfl⟩ := c
    obtain ⟨⟨r, r1, r2, r3⟩, -⟩ := q5 p hp
    refine op_get (v := nI r) h ?_ ?_
    · unfold spg_L_waitingAt sp_X5_waitingAt
      rw [if_neg (not_neg (by omega)), q3', if_pos ((lt_nI (by omega) (by omega)).mpr hp), show sp_X4_numberAt n σ (rf (rf 40 0) 2) (nI p) = some (σ.1 (rw_ σ 0 p) 0, σ) from ev_numberAt n hS.sh (by omega), r2]
      rfl
    · unfold sp_X6_waitingAt sp_X6_in
      rw [if_pos i60]
      simp only [rfm_11, c60, q4, n1]
      rw [pk_sub (by omega), if_neg (not_neg (by omega)), if_neg (by rw [lt_nI (by omega) (by omega)]; omega)]
      simp only [Option.bind_some, lm, ix4]
      rw [if_neg (by decide), wi_eq rfl rfl, if_pos (by decide), if_pos (inR_nI (by omega) (by omega))]
      simp only [nI_cl (show 28 + 4 * p < 100000 by omega)]
      rw [wi_o (by omega), r3]
  · have hcl : sp_X5_waitingAt n σ 40 a = some (.inr "java/lang/IndexOutOfBoundsException", σ) := by
      unfold sp_X5_waitingAt
      by_cases c0 : a < 0
      · rw [if_pos c0]
      · rw [if_neg c0, q3', if_neg]
        intro c1
        obtain ⟨j, j1, j2⟩ := nI_of2 (nI_toInt (show Q < 2 ^ 31 by omega)) c0 (Int32.le_of_lt c1)
        subst j2
        rw [lt_nI (by omega) (by omega)] at c1
        exact c ⟨j, c1, rfl⟩
    have hmd : sp_X6_in n' τ a 0 (τ.1 47 60 - 1) = some (0, τ) := by
      unfold sp_X6_in
      by_cases c0 : a < 0
      · rw [if_pos c0]
      · rw [if_neg c0, q4, if_pos]
        by_cases hz : Q = 0
        · subst hz
          exact Int32.lt_of_lt_of_le (show nI 0 - 1 < 0 by decide) (Int32.not_lt.mp c0)
        · rw [n1, pk_sub (by omega)]
          by_cases c1 : a ≤ nI (Q - 1)
          · obtain ⟨j, j1, j2⟩ := nI_of2 (nI_toInt (show Q - 1 < 2 ^ 31 by omega)) c0 c1
            exact absurd ⟨j, by omega, j2⟩ c
          · exact Int32.not_le.mp c1
    refine op_bad (t := 1) (r := 0) h (by decide) ?_ ?_
    · unfold spg_L_waitingAt
      rw [hcl]
      simp
    · unfold sp_X6_waitingAt
      rw [if_pos i60]
      simp only [rfm_11, c60]
      rw [hmd]
      simp only [Option.bind_some, lm]
      rw [if_pos trivial, wi_eq rfl rfl, if_neg (by decide)]
theorem noTrip_on (n : Nat) {τ : Mem} (h : τ.1 47 63 ≠ 45) : sp_X6_noTrip n τ 41 = some (0, wi τ 41 14 0) := by
  unfold sp_X6_noTrip
  rw [if_pos i63]
  simp only [rfm_11, ix63, lm]
  rw [if_neg h, wi_eq rfl rfl, if_pos (by decide)]
theorem noTrip_off (n : Nat) {τ : Mem} (h : τ.1 47 63 = 45) : sp_X6_noTrip n τ 41 = some (1, wi τ 41 14 1) := by
  unfold sp_X6_noTrip
  rw [if_pos i63]
  simp only [rfm_11, ix63, lm]
  rw [if_pos h, wi_eq rfl rfl, if_neg (by decide)]
theorem ckT_on (n : Nat) {σ : Mem} (h : σ.1 8 0 ≠ 45) : sp_X5_checkTrip n σ 40 = some (.inl (), σ) := by
  unfold sp_X5_checkTrip
  rw [show rf (rf 40 0) 3 = 8 from rfl, ev_isOn, if_neg h]
  rfl
theorem ckT_off (n : Nat) {σ : Mem} (h : σ.1 8 0 = 45) : sp_X5_checkTrip n σ 40 = some (.inr "java/util/NoSuchElementException", σ) := by
  unfold sp_X5_checkTrip
  rw [show rf (rf 40 0) 3 = 8 from rfl, ev_isOn, if_pos h]
  rfl
theorem op_tripLevel {n n' B : Nat} {σ τ : Mem} (h : RX B σ τ) : OpG B σ τ (spg_L_tripLevel n σ 40 49) (sp_X6_tripLevel n' τ 41) := by
  obtain ⟨L, W, u, N, Q, hR, h1, hN⟩ := id h
  have hT := hR.2.2.2.1
  by_cases c : σ.1 8 0 = 45
  · refine op_bad (t := 1) (r := 0) h (by decide) ?_ ?_
    · unfold spg_L_tripLevel sp_X5_tripLevel
      rw [ckT_off n c]
      simp
    · unfold sp_X6_tripLevel
      rw [noTrip_off n' (hT.1.symm.trans c)]
      simp
  · obtain ⟨⟨k, -, -, k1, k2⟩, -⟩ := hT.2.2.2.2 c
    refine op_get (v := nI k) h ?_ ?_
    · unfold spg_L_tripLevel sp_X5_tripLevel
      rw [ckT_on n c]
      simp only [Option.bind_some]
      rw [show σ.1 (rf (rf 40 0) 3) 1 = nI k from k1]
      rfl
    · unfold sp_X6_tripLevel
      rw [noTrip_on n' (fun e => c (hT.1.trans e))]
      simp only [Option.bind_some, rfm_11, ix64]
      rw [if_pos trivial, if_pos i64, wi_o (by omega), k2]
theorem op_tripLoad {n n' B : Nat} {σ τ : Mem} (h : RX B σ τ) : OpG B σ τ (spg_L_tripLoad n σ 40 49) (sp_X6_tripLoad n' τ 41) := by
  obtain ⟨L, W, u, N, Q, hR, h1, hN⟩ := id h
  have hT := hR.2.2.2.1
  by_cases c : σ.1 8 0 = 45
  · refine op_bad (t := 1) (r := 0) h (by decide) ?_ ?_
    · unfold spg_L_tripLoad sp_X5_tripLoad
      rw [ckT_off n c]
      simp
    · unfold sp_X6_tripLoad
      rw [noTrip_off n' (hT.1.symm.trans c)]
      simp
  · obtain ⟨-, ⟨y, -, y1, y2⟩, -⟩ := hT.2.2.2.2 c
    have k1 : σ.1 8 2 = τ.1 47 65 := (show σ.1 8 2 = nI y from y1).trans y2.symm
    refine op_get (v := τ.1 47 65) h ?_ ?_
    · unfold spg_L_tripLoad sp_X5_tripLoad
      rw [ckT_on n c]
      simp only [Option.bind_some]
      rw [show σ.1 (rf (rf 40 0) 3) 2 = τ.1 47 65 from k1]
      rfl
    · unfold sp_X6_tripLoad
      rw [noTrip_on n' (fun e => c (hT.1.trans e))]
      simp only [Option.bind_some, rfm_11, ix65]
      rw [if_pos trivial, if_pos i65, wi_o (by omega)]
theorem op_tripRest {n n' B : Nat} {σ τ : Mem} (h : RX B σ τ) : OpG B σ τ (spg_L_tripRest n σ 40 49) (sp_X6_tripRest n' τ 41) := by
  obtain ⟨L, W, u, N, Q, hR, h1, hN⟩ := id h
  have hT := hR.2.2.2.1
  by_cases c : σ.1 8 0 = 45
  · refine op_bad (t := 1) (r := 0) h (by decide) ?_ ?_
    · unfold spg_L_tripRest sp_X5_tripRest
      rw [ckT_off n c]
      simp
    · unfold sp_X6_tripRest
      rw [noTrip_off n' (hT.1.symm.trans c)]
      simp
  · obtain ⟨-, -, ⟨k, -, -, k1, k2⟩, -⟩ := hT.2.2.2.2 c
    refine op_get (v := nI k) h ?_ ?_
    · unfold spg_L_tripRest sp_X5_tripRest
      rw [ckT_on n c]
      simp only [Option.bind_some]
      rw [show σ.1 (rf (rf 40 0) 3) 3 = nI k from k1]
      rfl
    · unfold sp_X6_tripRest
      rw [noTrip_on n' (fun e => c (hT.1.trans e))]
      simp only [Option.bind_some, rfm_11, ix66]
      rw [if_pos trivial, if_pos i66, wi_o (by omega), k2]
/-! a request is made -/
theorem request_sim {n n' B : Nat} {σ τ : Mem} {k : Nat} {c x y : Int32} (hB : B < 80000) (h : RX B σ τ) (hc : c = 100 ∨ c = 117 ∨ c = 111) (hx : c = 111 → x = 20) (hx2 : c ≠ 111 → x = y) (hx3 : ∃ x', x' ≤ 20 ∧ x = nI x') (hk : ∀ L, σ.1 7 4 = nI L → L ≤ 6 → 1 ≤ k ∧ k ≤ L) :
    (∃ Q, Q = 8 ∧ σ.1 9 1 = nI Q ∧ τ.1 47 60 = nI Q ∧ sp_X5_request n σ 40 c (nI k) x = some (.inr "java/lang/IllegalStateException", σ)) ∨
    ∃ Q r σ' τ', Q < 8 ∧ τ.1 47 60 = nI Q ∧ sp_X5_request n σ 40 c (nI k) x = some (.inl r, σ') ∧ sp_X6_waits n' (wi τ 41 14 0) 41 c (nI k) y = some (r, τ') ∧ τ'.1 41 14 = 0 ∧ RX (B + 1) σ' τ' ∧ FC σ σ' ∧ FM τ τ' := by
  obtain ⟨L, W, u, N, Q, hR, h1, hN⟩ := id h
  obtain ⟨hS, hG, hK, hT, hQ, hP, hB2⟩ := id hR
  have hL := hS.lv
  obtain ⟨q1, q2, q3, q4, q5, q6, q7, q8, q9, q10, q11⟩ := hQ
  obtain ⟨k1, k2⟩ := hk L hS.c4 hL
  have q3' : σ.1 (rf (rf 40 0) 2) 1 = nI Q := q3
  have q3'' : σ.1 9 1 = nI Q := q3
  by_cases c8 : Q = 8
  · refine Or.inl ⟨Q, c8, q3, q4, ?_⟩
    unfold sp_X5_request
    rw [q3', if_neg (show ¬ nI Q < (8 : Int32) by rw [n8, lt_nI (by omega) (by omega)]; omega)]
  · have hq8 : Q < 8 := by omega
    have hr := hS.sh.2.2.1 Q hq8
    have hn11 : σ.1 (rf 40 0) 11 = nI N := hK.2.2.2.1
    have hch : 0 ≤ c ∧ c ≤ 65535 := by rcases hc with e | e | e <;> subst e <;> decide
    have o2 : ∀ a b, (a ≠ 41 ∨ (b ≠ 14 ∧ b ≠ 9)) → (a ≠ 47 ∨ (b ≠ 60 ∧ (b < 28 + 4 * Q ∨ 31 + 4 * Q < b))) → (wi (wi (wi (wi (wi (wi (wi τ 41 14 0) 47 (28 + 4 * Q) (nI N)) 47 (29 + 4 * Q) c) 47 (30 + 4 * Q) (nI k)) 47 (31 + 4 * Q) y) 47 60 (nI (Q + 1))) 41 9 (nI (N + 1))).1 a b = τ.1 a b := fun a b g1 g2 => by
      rw [wi_o (by omega), wi_o (by omega), wi_o (by omega), wi_o (by omega), wi_o (by omega), wi_o (by omega), wi_o (by omega)]
    refine Or.inr ⟨Q, nI N, wi (wi (wi (wi (wi (wi σ (rw_ σ 0 Q) 0 (nI N)) (rw_ σ 0 Q) 1 c) (rw_ σ 0 Q) 2 (nI k)) (rw_ σ 0 Q) 3 x) 9 1 (nI (Q + 1))) 7 11 (nI (N + 1)), wi (wi (wi (wi (wi (wi (wi τ 41 14 0) 47 (28 + 4 * Q) (nI N)) 47 (29 + 4 * Q) c) 47 (30 + 4 * Q) (nI k)) 47 (31 + 4 * Q) y) 47 60 (nI (Q + 1))) 41 9 (nI (N + 1)), hq8, q4, ?_, ?_, ?_, ?_, ?_, ?_⟩
    · have hne7 : rw_ σ 0 Q ≠ 7 := rw_ne (j := 7) hS.sh hq8 (by omega)
      have hne9 : rw_ σ 0 Q ≠ 9 := rw_ne (j := 9) hS.sh hq8 (by omega)
      unfold sp_X5_request sp_X4_add sp_X2_set
      rw [q3', if_pos (show nI Q < (8 : Int32) by rw [n8, lt_nI (by omega) (by omega)]; omega), if_neg (not_neg (by omega)), if_neg (show ¬ (8 : Int32) ≤ nI Q by rw [n8, le_nI (by omega) (by omega)]; omega)]
      simp only [nI_cl (show Q < 100000 by omega)]
      rw [if_pos ⟨inR_nI (by omega) (by omega), ok_rq hS.m2 hr.1 hr.2⟩]
      simp only [lm]
      rw [if_pos hch]
      simp only [Option.bind_some]
      rw [show σ.2 (rf (rf (rf 40 0) 2) 0) Q = rw_ σ 0 Q from rfl, show rf (rf 40 0) 2 = 9 from rfl, show rf 40 0 = 7 from rfl, show σ.1 7 11 = nI N from hn11]
      rw [wi_o (a := 9) (Or.inl hne9.symm), wi_o (a := 9) (Or.inl hne9.symm), wi_o (a := 9) (Or.inl hne9.symm), wi_o (a := 9) (Or.inl hne9.symm), q3'', add1_nI]
      rw [wi_o (a := 7) (b := 11) (by omega), wi_o (a := 7) (Or.inl hne7.symm), wi_o (a := 7) (Or.inl hne7.symm), wi_o (a := 7) (Or.inl hne7.symm), wi_o (a := 7) (Or.inl hne7.symm), show σ.1 7 11 = nI N from hn11, add1_nI]
    · unfold sp_X6_waits
      simp only [lm, rfm_11, c60]
      rw [wi_o (a := 47) (b := 60) (by omega), q4, ix4_1, ix4_2, ix4_3, ix4, if_pos i60, if_pos (inR_nI (by omega) (by omega)), if_pos (inR_nI (by omega) (by omega)), if_pos (inR_nI (by omega) (by omega)), if_pos (inR_nI (by omega) (by omega)), if_pos i60, if_pos i60]
      simp only [nI_cl (show 28 + 4 * Q < 100000 by omega), nI_cl (show 29 + 4 * Q < 100000 by omega), nI_cl (show 30 + 4 * Q < 100000 by omega), nI_cl (show 31 + 4 * Q < 100000 by omega)]
      rw [wi_eq rfl rfl, wi_o (a := 41) (b := 9) (by omega), wi_o (a := 41) (b := 9) (by omega), wi_o (a := 41) (b := 9) (by omega), wi_o (a := 41) (b := 9) (by omega), wi_o (a := 41) (b := 9) (by omega), wi_o (a := 41) (b := 9) (by omega), hK.2.2.2.2.1]
      rw [wi_o (a := 47) (b := 60) (by omega), wi_o (a := 47) (b := 60) (by omega), wi_o (a := 47) (b := 60) (by omega), wi_o (a := 47) (b := 60) (by omega), wi_o (a := 47) (b := 60) (by omega), q4, add1_nI, add1_nI, nI_pred]
    · rw [wi_o (by omega), wi_o (by omega), wi_o (by omega), wi_o (by omega), wi_o (by omega), wi_o (by omega), wi_eq rfl rfl]
    · generalize hσ' : wi (wi (wi (wi (wi (wi σ (rw_ σ 0 Q) 0 (nI N)) (rw_ σ 0 Q) 1 c) (rw_ σ 0 Q) 2 (nI k)) (rw_ σ 0 Q) 3 x) 9 1 (nI (Q + 1))) 7 11 (nI (N + 1)) = σ'
      have o1 : ∀ a b, a ≠ rw_ σ 0 Q → (a ≠ 9 ∨ b ≠ 1) → (a ≠ 7 ∨ b ≠ 11) → σ'.1 a b = σ.1 a b := fun a b g1 g2 g3 => by
        rw [← hσ', wi_o (by omega), wi_o (by omega), wi_o (by omega), wi_o (by omega), wi_o (by omega), wi_o (by omega)]
      have e2 : σ'.2 = σ.2 := by rw [← hσ']; rfl
      have hne7 : rw_ σ 0 Q ≠ 7 := rw_ne (j := 7) hS.sh hq8 (by omega)
      have hne9 : rw_ σ 0 Q ≠ 9 := rw_ne (j := 9) hS.sh hq8 (by omega)
      have f0 : σ'.1 (rw_ σ 0 Q) 0 = nI N := by rw [← hσ', wi_o (by omega), wi_o (by omega), wi_o (by omega), wi_o (by omega), wi_o (by omega), wi_eq rfl rfl]
      have f1 : σ'.1 (rw_ σ 0 Q) 1 = c := by rw [← hσ', wi_o (by omega), wi_o (by omega), wi_o (by omega), wi_o (by omega), wi_eq rfl rfl]
      have f2 : σ'.1 (rw_ σ 0 Q) 2 = nI k := by rw [← hσ', wi_o (by omega), wi_o (by omega), wi_o (by omega), wi_eq rfl rfl]
      have f3 : σ'.1 (rw_ σ 0 Q) 3 = x := by rw [← hσ', wi_o (by omega), wi_o (by omega), wi_eq rfl rfl]
      have f9 : σ'.1 9 1 = nI (Q + 1) := by rw [← hσ', wi_o (by omega), wi_eq rfl rfl]
      have f7 : σ'.1 7 11 = nI (N + 1) := by rw [← hσ', wi_eq rfl rfl]
      have erw : ∀ p, rw_ σ' 0 p = rw_ σ 0 p := fun p => by unfold rw_; rw [e2]
      have er : ∀ p b, p < 8 → p ≠ Q → σ'.1 (rw_ σ' 0 p) b = σ.1 (rw_ σ 0 p) b := fun p b hp hpQ => by
        have h7 : rw_ σ 0 p ≠ 7 := rw_ne (j := 7) hS.sh hp (by omega)
        have h9 : rw_ σ 0 p ≠ 9 := rw_ne (j := 9) hS.sh hp (by omega)
        rw [erw, o1 _ _ (fun e => hpQ (hS.sh.2.2.2 p Q hp hq8 e)) (Or.inl h9) (Or.inl h7)]
      have hlow : ∀ j, j ≤ 9 → j ≠ rw_ σ 0 Q := fun j hj => (rw_ne (j := j) hS.sh hq8 hj |> fun e => by rw [Nat.mul_zero, Nat.zero_add] at e; exact e.symm)
      have t8 : ∀ b, σ'.1 (10 * 0 + 8) b = σ.1 (10 * 0 + 8) b := fun b => o1 _ _ (hlow 8 (by omega)) (by omega) (by omega)
      have t15 : σ'.1 (10 * 0 + 7) 15 = σ.1 (10 * 0 + 7) 15 := o1 _ _ (hlow 7 (by omega)) (by omega) (by omega)
      refine ⟨L, W, u, N + 1, Q + 1, ⟨hS.to (hS.sh.to e2) (fun k b k1 b1 => o1 _ _ (hlow _ (by omega)) (by omega) (by omega)) (fun b b1 b2 => o1 _ _ (hlow _ (by omega)) (by omega) (by omega)) (fun a b hab => o2 _ _ (by omega) (by omega)), hG.to (fun k b k1 b1 b2 => o1 _ _ (hlow _ (by omega)) (by omega) (by omega)) (fun b hb => o2 _ _ (by omega) (by omega)), ?_, hT.to (fun b hb => t8 b) t15 (fun b b1 b2 => o2 _ _ (by omega) (by omega)) (o2 _ _ (by omega) (by omega)), ?_, hP.to hL (fun k k1 => o1 _ _ (hlow _ (by omega)) (by omega) (by omega)) (onT_cong (t8 _) (t8 _)) (o2 _ _ (by omega) (by omega)), hB2.to hL (fun k k1 => o1 _ _ (hlow _ (by omega)) (by omega) (by omega)) (o1 _ _ (hlow _ (by omega)) (by omega) (by omega)) (o1 _ _ (hlow _ (by omega)) (by omega) (by omega))⟩, h1.to e2, by omega⟩
      · obtain ⟨w1, w2, w3, w4, w5, w6, w7, w8⟩ := hK
        have oc : ∀ b, b ≠ 11 → σ'.1 (10 * 0 + 7) b = σ.1 (10 * 0 + 7) b := fun b hb => o1 _ _ (hlow 7 (by omega)) (by omega) (by omega)
        refine ⟨?_, ?_, ?_, f7, wi_eq rfl rfl, ?_, ?_, ?_⟩
        · rw [oc _ (by omega), o2 _ _ (by omega) (by omega)]; exact w1
        · rw [oc _ (by omega), o2 _ _ (by omega) (by omega)]; exact w2
        · rw [oc _ (by omega), o2 _ _ (by omega) (by omega)]; exact w3
        · rw [oc _ (by omega), o2 _ _ (by omega) (by omega)]; exact w6
        · rw [oc _ (by omega), o2 _ _ (by omega) (by omega)]; exact w7
        · rw [oc _ (by omega), o2 _ _ (by omega) (by omega)]; exact w8
      · have nN : ∀ r, r < N → nI r ≠ nI N := fun r hr e => by rw [eq_nI (by omega) (by omega)] at e; omega
        have nO1 : ∀ z, nO N z → nO (N + 1) z := fun z hz => hz.imp id (fun ⟨r, r1, r2⟩ => ⟨r, by omega, r2⟩)
        have nON : ∀ z, nO N z → nI N ≠ z := fun z hz e => by
          rcases hz with e2 | ⟨r, r1, r2⟩
          · exact nI_m1 q2 (e.trans e2)
          · exact nN r r1 (r2.symm.trans e.symm)
        refine ⟨by omega, by omega, f9, ?_, fun p hp => ?_, fun p q hp hq hpq => ?_, by rw [t8]; exact nO1 _ q7, by rw [t15]; exact nO1 _ q8, fun p hp => ?_, by rw [t15, t8]; exact q10, fun p hp => ?_⟩
        · rw [wi_o (by omega), wi_eq rfl rfl]
        · by_cases e : p = Q
          · subst e
            rw [erw, f0, f1, f2, f3]
            refine ⟨⟨N, by omega, rfl, ?_⟩, ?_, ?_, ⟨k, k1, k2, rfl, ?_⟩, hx, fun hc1 => ?_, hx3⟩
            · rw [wi_o (by omega), wi_o (by omega), wi_o (by omega), wi_o (by omega), wi_o (by omega), wi_eq rfl rfl]
            · rw [wi_o (by omega), wi_o (by omega), wi_o (by omega), wi_o (by omega), wi_eq rfl rfl]
            · rcases hc with e | e | e
              · exact Or.inl e
              · exact Or.inr (Or.inl e)
              · exact Or.inr (Or.inr e)
            · rw [wi_o (by omega), wi_o (by omega), wi_o (by omega), wi_eq rfl rfl]
            · rw [wi_o (by omega), wi_o (by omega), wi_eq rfl rfl]
              exact hx2 hc1
          · obtain ⟨⟨r, r1, r2⟩, w⟩ := q5 p (by omega)
            rw [er p 0 (by omega) e, er p 1 (by omega) e, er p 2 (by omega) e, er p 3 (by omega) e, o2 47 (28 + 4 * p) (by omega) (by omega), o2 47 (29 + 4 * p) (by omega) (by omega), o2 47 (30 + 4 * p) (by omega) (by omega), o2 47 (31 + 4 * p) (by omega) (by omega)]
            exact ⟨⟨r, by omega, r2⟩, w⟩
        · by_cases e : p = Q
          · subst e
            obtain ⟨⟨r, r1, r2, -⟩, -⟩ := q5 q (by omega)
            rw [erw p, f0, er q 0 (by omega) (by omega), r2]
            exact (nN r r1).symm
          · by_cases e' : q = Q
            · subst e'
              obtain ⟨⟨r, r1, r2, -⟩, -⟩ := q5 p (by omega)
              rw [erw q, f0, er p 0 (by omega) e, r2]
              exact nN r r1
            · rw [er p 0 (by omega) e, er q 0 (by omega) e']
              exact q6 p q (by omega) (by omega) hpq
        · by_cases e : p = Q
          · subst e
            rw [erw, f0, t8, t15]
            exact ⟨nON _ q7, nON _ q8⟩
          · rw [er p 0 (by omega) e, t8, t15]
            exact q9 p (by omega)
        · by_cases e : p = Q
          · subst e
            rw [erw, f1]
            exact hch
          · rw [er p 1 hp e]
            exact q11 p hp
    · have hrq : rw_ σ 0 Q < 36 := by show σ.2 (38 + 0) Q < 36; omega
      refine ⟨fun a b g1 g2 => ?_, fun _ _ => rfl⟩
      rw [wi_o (by omega), wi_o (by omega), wi_o (by omega), wi_o (by omega), wi_o (by omega), wi_o (by omega)]
    · exact ⟨fun a b g1 => o2 _ _ (by omega) (by omega), rfl⟩
