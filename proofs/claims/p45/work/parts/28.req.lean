/-! PURE. requests; a blast -/
theorem t4_L {σ : Mem} {L L' : Nat} (h : σ.1 7 4 = nI L) (hL : L ≤ 6) (h' : σ.1 7 4 = nI L') (hL' : L' ≤ 6) : L' = L := (eq_nI (by omega) (by omega)).mp (h'.symm.trans h)
theorem op_callUp {n n' B : Nat} {σ τ : Mem} (hB : B < 80000) (a b : Int32) (h : RX B σ τ) : OpG (B + 1) σ τ (spg_L_callUp n σ 40 a b 49) (sp_X6_callUp n' τ 41 a b) := by
  obtain ⟨L, W, u, N, Q, hR, h1, hN⟩ := id h
  have hS := hR.1
  have hL := hS.lv
  have h4 : σ.1 7 4 = nI L := hS.c4
  have hup : RX (B + 1) σ τ := ⟨L, W, u, N, Q, hR, h1, by omega⟩
  rcases lvl_or1 L hL a with ⟨k, hk1, hk, rfl⟩ | hbad
  · rcases rng b 1 12 with ⟨gb1, gb2, c1, c2⟩ | ⟨c1, c2⟩
    · rcases request_sim (n := n) (n' := n') (k := k) (c := 117) (x := b) (y := b) hB h (Or.inr (Or.inl rfl)) (fun e => absurd e (by decide)) (fun _ => rfl) (by obtain ⟨j, j1, j2, j3⟩ := rng_nI (lo := 1) (hi := 12) gb1 gb2 (by omega) (by omega); exact ⟨j, by omega, j3⟩) (fun L' e1 e2 => by rw [t4_L h4 hL e1 e2]; exact ⟨hk1, hk⟩) with ⟨Q', rfl, g1, g2, g3⟩ | ⟨Q', r, σ', τ', g0, g1, g2, g3, g4, g5, g6, g7⟩
      · refine op_bad (t := 3) (r := 0) hup (by decide) ?_ ?_
        · unfold spg_L_callUp sp_X5_callUp
          rw [ckL_ok n h4 hL hk1 hk]
          simp only [Option.bind_some]
          rw [c1]
          simp only [Option.bind_some]
          rw [g3]
          simp
        · unfold sp_X6_callUp lp_X6_callUp_44
          rw [isL_ok n' hS.t0 hL hk1 hk]
          simp only [Option.bind_some]
          rw [if_neg (by decide), c2]
          simp only [Option.bind_some, rfm_11, c60, lm]
          rw [if_neg (by decide), if_pos i60, g2, if_pos (show nI 8 = (8 : Int32) from rfl), wi_eq rfl rfl, if_neg (by decide)]
      · refine op_put (v := r) (Nat.le_refl _) ?_ ?_ g4 g5 g6 g7
        · unfold spg_L_callUp sp_X5_callUp
          rw [ckL_ok n h4 hL hk1 hk]
          simp only [Option.bind_some]
          rw [c1]
          simp only [Option.bind_some]
          rw [g2]
          rfl
        · unfold sp_X6_callUp lp_X6_callUp_44
          rw [isL_ok n' hS.t0 hL hk1 hk]
          simp only [Option.bind_some]
          rw [if_neg (by decide), c2]
          simp only [Option.bind_some, rfm_11, c60, lm]
          rw [if_neg (by decide), if_pos i60, g1, if_neg (show ¬ nI Q' = (8 : Int32) by rw [n8, eq_nI (by omega) (by omega)]; omega), wi_eq rfl rfl, if_pos (by decide), g3]
          rfl
    · refine op_bad (t := 2) (r := 0) hup (by decide) ?_ ?_
      · unfold spg_L_callUp sp_X5_callUp
        rw [ckL_ok n h4 hL hk1 hk]
        simp only [Option.bind_some]
        rw [c1]
        simp
      · unfold sp_X6_callUp lp_X6_callUp_44
        rw [isL_ok n' hS.t0 hL hk1 hk]
        simp only [Option.bind_some]
        rw [if_neg (by decide), c2]
        simp only [Option.bind_some, lm]
        rw [if_pos trivial, wi_eq rfl rfl, if_neg (by decide)]
  · refine op_bad (t := 1) (r := 0) hup (by decide) ?_ ?_
    · unfold spg_L_callUp sp_X5_callUp
      rw [ckL_bad n h4 hbad]
      simp
    · unfold sp_X6_callUp lp_X6_callUp_44
      rw [isL_bad n' hS.t0 hbad]
      simp only [Option.bind_some, lm]
      rw [if_pos trivial, wi_eq rfl rfl, if_neg (by decide)]
theorem op_hoistOre {n n' B : Nat} {σ τ : Mem} (hB : B < 80000) (a : Int32) (h : RX B σ τ) : OpG (B + 1) σ τ (spg_L_hoistOre n σ 40 a 49) (sp_X6_hoistOre n' τ 41 a) := by
  obtain ⟨L, W, u, N, Q, hR, h1, hN⟩ := id h
  have hS := hR.1
  have hL := hS.lv
  have h4 : σ.1 7 4 = nI L := hS.c4
  have hup : RX (B + 1) σ τ := ⟨L, W, u, N, Q, hR, h1, by omega⟩
  rcases lvl_or1 L hL a with ⟨k, hk1, hk, rfl⟩ | hbad
  · rcases request_sim (n := n) (n' := n') (k := k) (c := 111) (x := 20) (y := 0) hB h (Or.inr (Or.inr rfl)) (fun _ => rfl) (fun e => absurd rfl e) ⟨20, by omega, rfl⟩ (fun L' e1 e2 => by rw [t4_L h4 hL e1 e2]; exact ⟨hk1, hk⟩) with ⟨Q', rfl, g1, g2, g3⟩ | ⟨Q', r, σ', τ', g0, g1, g2, g3, g4, g5, g6, g7⟩
    · refine op_bad (t := 2) (r := 0) hup (by decide) ?_ ?_
      · unfold spg_L_hoistOre sp_X5_hoistOre
        rw [ckL_ok n h4 hL hk1 hk]
        simp only [Option.bind_some]
        rw [g3]
        simp
      · unfold sp_X6_hoistOre
        rw [isL_ok n' hS.t0 hL hk1 hk]
        simp only [Option.bind_some, rfm_11, c60, lm]
        rw [if_neg (by decide), if_pos i60, g2, if_pos (show nI 8 = (8 : Int32) from rfl), wi_eq rfl rfl, if_neg (by decide)]
    · refine op_put (v := r) (Nat.le_refl _) ?_ ?_ g4 g5 g6 g7
      · unfold spg_L_hoistOre sp_X5_hoistOre
        rw [ckL_ok n h4 hL hk1 hk]
        simp only [Option.bind_some]
        rw [g2]
        rfl
      · unfold sp_X6_hoistOre
        rw [isL_ok n' hS.t0 hL hk1 hk]
        simp only [Option.bind_some, rfm_11, c60, lm]
        rw [if_neg (by decide), if_pos i60, g1, if_neg (show ¬ nI Q' = (8 : Int32) by rw [n8, eq_nI (by omega) (by omega)]; omega), wi_eq rfl rfl, if_pos (by decide), g3]
        rfl
  · refine op_bad (t := 1) (r := 0) hup (by decide) ?_ ?_
    · unfold spg_L_hoistOre sp_X5_hoistOre
      rw [ckL_bad n h4 hbad]
      simp
    · unfold sp_X6_hoistOre
      rw [isL_bad n' hS.t0 hbad]
      simp only [Option.bind_some, lm]
      rw [if_pos trivial, wi_eq rfl rfl, if_neg (by decide)]
theorem op_sendDown {n n' B : Nat} {σ τ : Mem} (hB : B < 80000) (a b : Int32) (h : RX B σ τ) : OpG (B + 1) σ τ (spg_L_sendDown n σ 40 a b 49) (sp_X6_sendDown n' τ 41 a b) := by
  obtain ⟨L, W, u, N, Q, hR, h1, hN⟩ := id h
  have hS := hR.1
  have hL := hS.lv
  have h4 : σ.1 7 4 = nI L := hS.c4
  have hup : RX (B + 1) σ τ := ⟨L, W, u, N, Q, hR, h1, by omega⟩
  rcases lvl_or1 L hL a with ⟨k, hk1, hk, rfl⟩ | hbad
  · rcases rng b 1 12 with ⟨gb1, gb2, c1, c2⟩ | ⟨c1, c2⟩
    · have ha := hS.alarm n hk1 hk
      rw [Nat.mul_zero, Nat.zero_add, Nat.zero_add] at ha
      have hd := ev_isShut n σ 0 k
      rw [Nat.mul_zero, Nat.zero_add, Nat.zero_add] at hd
      have haM := hS.alarmM hR.2.1 n' hk1 hk
      have hdM := ev_closedM n' (k := k) hR.2.1 hR.2.2.1 (by omega)
      by_cases ca : alC σ 0 k = 0
      · by_cases cd : cdC σ 0 k = 0
        · rcases request_sim (n := n) (n' := n') (k := k) (c := 100) (x := b) (y := b) hB h (Or.inl rfl) (fun e => absurd e (by decide)) (fun _ => rfl) (by obtain ⟨j, j1, j2, j3⟩ := rng_nI (lo := 1) (hi := 12) gb1 gb2 (by omega) (by omega); exact ⟨j, by omega, j3⟩) (fun L' e1 e2 => by rw [t4_L h4 hL e1 e2]; exact ⟨hk1, hk⟩) with ⟨Q', rfl, g1, g2, g3⟩ | ⟨Q', r, σ', τ', g0, g1, g2, g3, g4, g5, g6, g7⟩
          · refine op_bad (t := 4) (r := 0) hup (by decide) ?_ ?_
            · unfold spg_L_sendDown sp_X5_sendDown
              rw [ckL_ok n h4 hL hk1 hk]
              simp only [Option.bind_some]
              rw [c1]
              simp only [Option.bind_some]
              rw [pl_0 n hS.sh (by omega)]
              simp only [Option.bind_some]
              rw [if_pos (ok_0 (by omega)), show rf 40 0 = 7 from rfl, ha]
              simp only [Option.bind_some]
              rw [if_pos ca, hd]
              simp only [Option.bind_some]
              rw [if_pos cd, g3]
              simp
            · unfold sp_X6_sendDown lp_X6_sendDown_64
              rw [isL_ok n' hS.t0 hL hk1 hk]
              simp only [Option.bind_some]
              rw [if_neg (by decide), c2]
              simp only [Option.bind_some]
              rw [if_neg (by decide), haM]
              simp only [Option.bind_some]
              rw [if_pos ca, hdM]
              simp only [Option.bind_some, rfm_11, c60, lm]
              rw [if_pos cd, if_pos i60, g2, if_pos (show nI 8 = (8 : Int32) from rfl), wi_eq rfl rfl, if_neg (by decide)]
          · refine op_put (v := r) (Nat.le_refl _) ?_ ?_ g4 g5 g6 g7
            · unfold spg_L_sendDown sp_X5_sendDown
              rw [ckL_ok n h4 hL hk1 hk]
              simp only [Option.bind_some]
              rw [c1]
              simp only [Option.bind_some]
              rw [pl_0 n hS.sh (by omega)]
              simp only [Option.bind_some]
              rw [if_pos (ok_0 (by omega)), show rf 40 0 = 7 from rfl, ha]
              simp only [Option.bind_some]
              rw [if_pos ca, hd]
              simp only [Option.bind_some]
              rw [if_pos cd, g2]
              rfl
            · unfold sp_X6_sendDown lp_X6_sendDown_64
              rw [isL_ok n' hS.t0 hL hk1 hk]
              simp only [Option.bind_some]
              rw [if_neg (by decide), c2]
              simp only [Option.bind_some]
              rw [if_neg (by decide), haM]
              simp only [Option.bind_some]
              rw [if_pos ca, hdM]
              simp only [Option.bind_some, rfm_11, c60, lm]
              rw [if_pos cd, if_pos i60, g1, if_neg (show ¬ nI Q' = (8 : Int32) by rw [n8, eq_nI (by omega) (by omega)]; omega), wi_eq rfl rfl, if_pos (by decide), g3]
              rfl
        · refine op_bad (t := 3) (r := 0) hup (by decide) ?_ ?_
          · unfold spg_L_sendDown sp_X5_sendDown
            rw [ckL_ok n h4 hL hk1 hk]
            simp only [Option.bind_some]
            rw [c1]
            simp only [Option.bind_some]
            rw [pl_0 n hS.sh (by omega)]
            simp only [Option.bind_some]
            rw [if_pos (ok_0 (by omega)), show rf 40 0 = 7 from rfl, ha]
            simp only [Option.bind_some]
            rw [if_pos ca, hd]
            simp only [Option.bind_some]
            rw [if_neg cd]
            simp
          · unfold sp_X6_sendDown lp_X6_sendDown_64
            rw [isL_ok n' hS.t0 hL hk1 hk]
            simp only [Option.bind_some]
            rw [if_neg (by decide), c2]
            simp only [Option.bind_some]
            rw [if_neg (by decide), haM]
            simp only [Option.bind_some]
            rw [if_pos ca, hdM]
            simp only [Option.bind_some, lm]
            rw [if_neg cd, wi_eq rfl rfl, if_neg (by decide)]
      · refine op_bad (t := 3) (r := 0) hup (by decide) ?_ ?_
        · unfold spg_L_sendDown sp_X5_sendDown
          rw [ckL_ok n h4 hL hk1 hk]
          simp only [Option.bind_some]
          rw [c1]
          simp only [Option.bind_some]
          rw [pl_0 n hS.sh (by omega)]
          simp only [Option.bind_some]
          rw [if_pos (ok_0 (by omega)), show rf 40 0 = 7 from rfl, ha]
          simp only [Option.bind_some]
          rw [if_neg ca]
          simp
        · unfold sp_X6_sendDown lp_X6_sendDown_64
          rw [isL_ok n' hS.t0 hL hk1 hk]
          simp only [Option.bind_some]
          rw [if_neg (by decide), c2]
          simp only [Option.bind_some]
          rw [if_neg (by decide), haM]
          simp only [Option.bind_some, lm]
          rw [if_neg ca, wi_eq rfl rfl, if_neg (by decide)]
    · refine op_bad (t := 2) (r := 0) hup (by decide) ?_ ?_
      · unfold spg_L_sendDown sp_X5_sendDown
        rw [ckL_ok n h4 hL hk1 hk]
        simp only [Option.bind_some]
        rw [c1]
        simp
      · unfold sp_X6_sendDown lp_X6_sendDown_64
        rw [isL_ok n' hS.t0 hL hk1 hk]
        simp only [Option.bind_some]
        rw [if_neg (by decide), c2]
        simp only [Option.bind_some, lm]
        rw [if_pos trivial, wi_eq rfl rfl, if_neg (by decide)]
  · refine op_bad (t := 1) (r := 0) hup (by decide) ?_ ?_
    · unfold spg_L_sendDown sp_X5_sendDown
      rw [ckL_bad n h4 hbad]
      simp
    · unfold sp_X6_sendDown lp_X6_sendDown_64
      rw [isL_bad n' hS.t0 hbad]
      simp only [Option.bind_some, lm]
      rw [if_pos trivial, wi_eq rfl rfl, if_neg (by decide)]
