/-! PURE. a minute of both systems -/
theorem acc_mix {v : Int32} {t g c : Nat → Int32} : ∀ j, acc (acc v t j) (fun i => g i + c i - t i) j = acc (acc v g j) c j
  | 0 => rfl
  | j + 1 => by
    have ih := acc_mix (v := v) (t := t) (g := g) (c := c) j
    show acc (acc v t j + t (j + 1)) (fun i => g i + c i - t i) j + (g (j + 1) + c (j + 1) - t (j + 1)) = acc (acc v g j + g (j + 1)) c j + c (j + 1)
    rw [acc_x, acc_x, ih, Int32.sub_eq_add_neg, Int32.add_comm (g (j + 1) + c (j + 1)), Int32.add_assoc, ← Int32.add_assoc (t (j + 1)), Int32.add_right_neg, Int32.zero_add, Int32.add_assoc]
theorem gas_R {σ τ σ1 τ1 : Mem} {m L : Nat} {W : Nat → Nat} {u N Q : Nat} (h : RR σ τ m L W u N Q) (hc : PGc σ σ1 m L) (hm : PGm τ τ1 L W u) : RR σ1 τ1 m L W u N Q := by
  obtain ⟨hS, hG, hK, hT, hQ, hP, hB⟩ := h
  have hL := hS.lv
  have hm2 := hS.m2
  obtain ⟨c1, c2, c3, c4, c5⟩ := hc
  obtain ⟨m1, m2, m3, m4, m5⟩ := hm
  have es : ∀ i, 1 ≤ i → i ≤ L → σ.1 (10 * m + i) 3 = τ.1 45 i ∧ σ.1 (10 * m + i) 5 = nI (airN W L u i) ∧ σ.1 (10 * m + i) 1 = τ.1 43 i ∧ σ.1 (10 * m + i) 7 = τ.1 47 i := fun i i1 i2 => ⟨(hS.row i1 i2).2.1, (hS.row i1 i2).2.2.2.2, hS.siz i1 i2, (hG i (by omega)).1⟩
  refine ⟨hS.to (hS.sh.to c1) (fun k b k1 b1 => c5 _ _ (by omega) (by omega)) (fun b b1 b2 => c5 _ _ (by omega) (by omega)) (fun a b hab => m5 _ _ (by omega)), ?_, ?_, hT.to (fun b hb => c5 _ _ (by omega) (by omega)) (c5 _ _ (by omega) (by omega)) (fun b b1 b2 => m5 _ _ (by omega)) (m5 _ _ (by omega)), hQ.to (c5 _ _ (by omega) (by omega)) (fun p b hp hb => ?_) (c5 _ _ (by omega) (by omega)) (c5 _ _ (by omega) (by omega)) (fun b b1 b2 => m5 _ _ (by omega)), hP.to hL (fun k k1 => c5 _ _ (by omega) (by omega)) (onT_cong (c5 _ _ (by omega) (by omega)) (c5 _ _ (by omega) (by omega))) (m5 _ _ (by omega)), ?_⟩
  · intro k hk
    obtain ⟨g1, g2, g3, g4⟩ := hG k hk
    rw [c5 _ 8 (by omega) (by omega), c5 _ 9 (by omega) (by omega), c5 _ 10 (by omega) (by omega), m5 47 (7 + k) (by omega), m5 47 (14 + k) (by omega), m5 47 (21 + k) (by omega)]
    refine ⟨?_, g2, g3, g4⟩
    by_cases c : 1 ≤ k ∧ k ≤ L
    · obtain ⟨e1, e2, e3, e4⟩ := es k c.1 c.2
      rw [c2 k c.1 c.2, m2 k c.1 c.2, e1, e2, e3, e4]
    · rw [c5 _ 7 (by omega) (by omega), m5 47 k (by omega)]
      exact g1
  · obtain ⟨k1, k2, k3, k4, k5, k6, k7, k8⟩ := hK
    refine ⟨?_, ?_, ?_, ?_, ?_, ?_, ?_, ?_⟩
    · rw [c5 _ _ (by omega) (by omega), m5 _ _ (by omega)]; exact k1
    · rw [c3, m3, k2]
      exact acc_cong (fun i i1 i2 => (es i i1 i2).1)
    · rw [c4, m4, k3]
      exact acc_cong (fun i i1 i2 => by
        obtain ⟨e1, e2, e3, e4⟩ := es i i1 i2
        rw [e1, e2, e3, e4])
    · rw [c5 _ _ (by omega) (by omega)]; exact k4
    · rw [m5 _ _ (by omega)]; exact k5
    · rw [c5 _ _ (by omega) (by omega), m5 _ _ (by omega)]; exact k6
    · rw [c5 _ _ (by omega) (by omega), m5 _ _ (by omega)]; exact k7
    · rw [c5 _ _ (by omega) (by omega), m5 _ _ (by omega)]; exact k8
  · show σ1.1 (σ1.2 (38 + m) p) b = _
    have h1 := rw_ne hS.sh hp (show 7 ≤ 9 by omega)
    have h2 := hS.sh.2.2.1 p hp
    rw [c1]
    exact c5 _ _ (by omega) (by omega)
  · refine ⟨?_, fun k k1 k2 => by rw [c5 _ _ (by omega) (by omega)]; exact hB.2 k k1 k2⟩
    rw [c3, c4, ← hB.1]
    exact (acc_cong (g := fun i => σ.1 (10 * m + i) 7 + σ.1 (10 * m + i) 3 - tkG (σ.1 (10 * m + i) 7 + σ.1 (10 * m + i) 3) (σ.1 (10 * m + i) 5) (σ.1 (10 * m + i) 1)) (fun i i1 i2 => c2 i i1 i2)).trans (acc_mix L)
theorem lp_minGas (n : Nat) {σ τ : Mem} {m L : Nat} {W : Nat → Nat} {u : Nat} (h : RS σ τ m L W u) : ∀ (d k j : Nat) (σ1 : Mem), j + d = L → d < k → PGc σ σ1 m j → ∃ σ2, lp_X1_passMinute_2 n (10 * m + 7) k σ1 (nI (j + 1)) = lp_X1_passMinute_2 n (10 * m + 7) (k - d) σ2 (nI (L + 1)) ∧ PGc σ σ2 m L := by
  intro d
  have hL := h.lv
  induction d with
  | zero =>
    intro k j σ1 hj hk hP
    refine ⟨σ1, ?_, by rw [show L = j by omega]; exact hP⟩
    rw [show j = L by omega]
    rfl
  | succ d ih =>
    intro k j σ1 hj hk hP
    obtain ⟨k, rfl⟩ : ∃ z, k = z + 1 := ⟨k - 1, by omega⟩
    obtain ⟨z, z1, z2, z3, -⟩ := (h.row (k := j + 1) (by omega) (by omega)).1
    obtain ⟨σ2, e1, e2⟩ := PGc_step n (m := m) (show j + 1 ≤ 6 by omega) z1 z2 z3 hP
    obtain ⟨σ3, e3, e4⟩ := ih k (j + 1) σ2 (by omega) (by omega) e2
    refine ⟨σ3, ?_, e4⟩
    rw [lp_X1_passMinute_2_s, hP.2.2.2.2 _ 4 (by omega) (by omega), h.c4, if_neg (by rw [lt_nI (by omega) (by omega)]; omega), ev_place n (h.sh.to hP.1) (by omega)]
    simp only [Option.bind_some]
    rw [if_pos (ok_lv h.m2 (by omega)), e1]
    simp only [Option.bind_some, add1_nI]
    rw [e3, show k + 1 - (d + 1) = k - d by omega]
theorem ev_isOn (n : Nat) (σ : Mem) (o : Nat) : sp_X3_isOn n σ o = some (if σ.1 o 0 = 45 then 0 else 1, σ) := by
  unfold sp_X3_isOn
  split <;> rfl
theorem half_sim (n n' : Nat) {l1 : Int32} {σ τ : Mem} {m L : Nat} {W : Nat → Nat} {u N Q : Nat} (h : RR σ τ m L W u N Q) :
    ∃ σ' τ', lp_X1_passMinute_56 n (10 * m + 7) σ l1 = some ((), σ') ∧ lp_X6_minute_44 n' 41 τ (if σ.1 (10 * m + 8) 0 = 45 then 0 else 1) = some ((), τ') ∧ RR σ' τ' m L W u N Q ∧ FrC σ σ' m ∧ FrM τ τ' ∧ τ'.1 47 72 = τ.1 47 72 ∧ (σ'.1 (10 * m + 8) 0 ≠ 45 → σ'.1 (10 * m + 7) 15 = σ.1 (10 * m + 7) 15 ∧ σ'.1 (10 * m + 8) 4 = σ.1 (10 * m + 8) 4) ∧ XH σ σ' m L := by
  have hS := h.1
  have hL := hS.lv
  have hm2 := hS.m2
  have hT := h.2.2.2.1
  unfold lp_X1_passMinute_56 lp_X6_minute_44 lp_X1_passMinute_93 lp_X6_minute_74
  rw [rf_3 hm2, ev_isOn]
  simp only [Option.bind_some, lm, rfm_11, ix66, c61]
  by_cases c : σ.1 (10 * m + 8) 0 = 45
  · rw [if_pos c, if_pos rfl, if_pos rfl, if_pos i61, if_pos i61]
    exact ⟨_, _, rfl, rfl, tick_R h, ⟨fun a b h1 h2 => wi_o (by omega), fun _ _ => rfl⟩, ⟨fun a b h1 => wi_o (by omega), rfl⟩, wi_o (by omega), fun _ => ⟨wi_o (by omega), wi_o (by omega)⟩, XH.fr (fun k b hk hb => wi_o (by omega)) (wi_o (by omega)) (wi_o (by omega)) (wi_eq rfl rfl)⟩
  · obtain ⟨⟨k, k1, k2, k3, k4⟩, hl, ⟨z, z1, z2, z3, z4⟩, hb⟩ := hT.2.2.2.2 c
    have hc : kd4 (σ.1 (10 * m + 8) 0) := hT.2.2.1.resolve_left c
    obtain ⟨z, rfl⟩ : ∃ y, z = y + 1 := ⟨z - 1, by omega⟩
    rw [if_neg c, if_neg (show ¬ (1 : Int32) = 0 by decide), if_neg (show ¬ (1 : Int32) = 0 by decide), if_pos i66, if_pos i66, z3, z4, nI_pred, wi_eq rfl rfl, wi_eq rfl rfl, if_pos i66]
    by_cases hz : z = 0
    · subst hz
      rw [if_neg (by decide), if_pos (show nI 0 = 0 from rfl)]
      obtain ⟨σ', e0, e2, g1, g2, g3, g4, g5, g6, g7, g8⟩ := ev_endTrip n (σ := wi σ (10 * m + 8) 3 (nI 0)) (m := m) (k := k) (c := σ.1 (10 * m + 8) 0) (y := (wi σ (10 * m + 8) 3 (nI 0)).1 (10 * m + 8) 2) (q := (wi σ (10 * m + 8) 3 (nI 0)).1 (10 * m + 8) 4) (hS.sh.to rfl) hc (by omega) (wi_o (by omega)) (by rw [wi_o (by omega)]; exact k3) rfl rfl
      have f0 := ev_ends n' (τ := wi τ 47 66 (nI 0)) (k := k) (c := σ.1 (10 * m + 8) 0) (by omega) (by rw [wi_o (by omega)]; exact hT.1.symm) (by rw [wi_o (by omega)]; exact k4)
      rw [e0, f0]
      simp only [Option.bind_some]
      rw [if_pos i61, if_pos i61]
      have hR := end_R (σ1 := wi σ (10 * m + 8) 3 (nI 0)) (τ1 := wi τ 47 66 (nI 0)) h hc k1 k2 rfl (fun a b hab => wi_o hab) (fun a b hab => wi_o hab) e2 g1 g2 g3 g4 g5 g6 g7 g8 rfl
      have ht := to_le (σ.1 (10 * m + 8) 0) k
      have hsm : slM (σ.1 (10 * m + 8) 0) = 7 ∨ slM (σ.1 (10 * m + 8) 0) = 14 := by unfold slM; split <;> simp
      refine ⟨_, _, rfl, rfl, tick_R hR, ⟨fun a b h1 h2 => ?_, fun a ha => ?_⟩, ⟨fun a b h1 => ?_, rfl⟩, ?_, fun hon => absurd ?_ hon, ?_⟩
      · rw [wi_o (by omega), g8 _ _ (by omega) (by omega) (by omega), wi_o (by omega)]
      · rw [get_wi2, e2]
        rfl
      · unfold enM
        rw [wi_o (by omega), wi_o (by omega), wi_o (by omega), wi_o (by omega), wi_o (by omega), wi_o (by omega), wi_o (by omega)]
      · unfold enM
        rw [wi_o (by omega), wi_o (by omega), wi_o (by omega), wi_o (by omega), wi_o (by omega), wi_o (by omega), wi_o (by omega)]
      · rw [wi_o (by omega)]
        exact g5
      · obtain ⟨y9, y1, y2, -⟩ := hl
        exact XH.fin (y := σ.1 (10 * m + 8) 2) hL y2 y1 rfl rfl (show to_ (σ.1 (10 * m + 8) 0) k ≤ L by omega) (fun a b q1 q2 q3 => by rw [wi_o (by omega), g8 a b (by omega) q2 q3, wi_o (by omega)]) (by
          have hsl := slC_le (σ.1 (10 * m + 8) 0)
          rw [wi_o (by omega), g2, wi_o (by omega), wi_o (by omega)]) (by rw [wi_o (by omega)]; exact g5) (by rw [wi_eq rfl rfl, g8 _ _ (by omega) (by omega) (by omega), wi_o (by omega)])
    · rw [if_pos (show (0 : Int32) < nI z by rw [n0, lt_nI (by omega) (by omega)]; omega), if_neg (by rw [eq0_nI (by omega)]; exact hz), if_pos i61, if_pos i61]
      refine ⟨_, _, rfl, rfl, tick_R (rest_R h c (by omega) (by omega)), ⟨fun a b h1 h2 => ?_, fun _ _ => rfl⟩, ⟨fun a b h1 => ?_, rfl⟩, ?_, fun _ => ⟨?_, ?_⟩, XH.fr (fun k b hk hb => by rw [wi_o (by omega), wi_o (by omega)]) (by rw [wi_o (by omega), wi_o (by omega)]) (by rw [wi_o (by omega), wi_o (by omega)]) (by rw [wi_eq rfl rfl, wi_o (by omega)])⟩
      · rw [wi_o (by omega), wi_o (by omega)]
      · rw [wi_o (by omega), wi_o (by omega)]
      · rw [wi_o (by omega), wi_o (by omega)]
      · rw [wi_o (by omega), wi_o (by omega)]
      · rw [wi_o (by omega), wi_o (by omega)]
theorem minute_sim {n n' : Nat} (hn : 20 < n) (hn' : 40 < n') {σ τ : Mem} {m L : Nat} {W : Nat → Nat} {u N Q : Nat} (h : RR σ τ m L W u N Q) :
    ∃ σ' τ' Q', sp_X1_passMinute n σ (10 * m + 7) = some ((), σ') ∧ sp_X6_minute n' τ 41 = some ((), τ') ∧ RR σ' τ' m L W u N Q' ∧ FrC σ σ' m ∧ FrM τ τ' ∧ (σ.1 (10 * m + 8) 0 ≠ 45 → τ'.1 47 72 = τ.1 47 72 ∧ (σ'.1 (10 * m + 8) 0 ≠ 45 → σ'.1 (10 * m + 8) 4 = σ.1 (10 * m + 8) 4)) ∧ (σ'.1 (10 * m + 8) 0 ≠ 45 → σ'.1 (10 * m + 7) 15 = σ.1 (10 * m + 7) 15) ∧ ∃ σ1 σ2, PGc σ σ1 m L ∧ XC σ1 σ2 m L ∧ XH σ2 σ' m L := by
  have hS := h.1
  have hL := hS.lv
  have hm2 := hS.m2
  obtain ⟨-, -, -, -, -, s6, s7, -, s9, -⟩ := id hS
  obtain ⟨σ1, e1, e2⟩ := lp_minGas n hS L n 0 σ (by omega) (by omega) (PGc_0 σ m)
  obtain ⟨τ1, f1, f2⟩ := ev_gases (n := n') (by omega) hS.t0 hL s6 s7 s9 (fun k k1 k2 => by
    obtain ⟨z, z1, z2, z3, z4⟩ := (hS.row k1 k2).1
    exact ⟨z, z1, z2, z4⟩)
  have hR := gas_R h e2 f2
  have fc1 : FrC σ σ1 m := ⟨fun a b h1 h2 => e2.2.2.2.2 _ _ (by omega) (by omega), fun _ _ => by rw [e2.1]⟩
  have fm1 : FrM τ τ1 := ⟨fun a b h1 => f2.2.2.2.2 _ _ (by omega), f2.1⟩
  have k0 : σ1.1 (10 * m + 8) 0 = σ.1 (10 * m + 8) 0 := e2.2.2.2.2 _ _ (by omega) (by omega)
  have k4 : σ1.1 (10 * m + 8) 4 = σ.1 (10 * m + 8) 4 := e2.2.2.2.2 _ _ (by omega) (by omega)
  have k15 : σ1.1 (10 * m + 7) 15 = σ.1 (10 * m + 7) 15 := e2.2.2.2.2 _ _ (by omega) (by omega)
  have k72 : τ1.1 47 72 = τ.1 47 72 := f2.2.2.2.2 _ _ (by omega)
  unfold sp_X1_passMinute sp_X6_minute
  have e1' : lp_X1_passMinute_2 n (10 * m + 7) n σ 1 = lp_X1_passMinute_2 n (10 * m + 7) (n - L) σ1 (nI (L + 1)) := e1
  rw [f1, e1']
  obtain ⟨kk, hkk⟩ : ∃ z, n - L = z + 1 := ⟨n - L - 1, by omega⟩
  rw [hkk, lp_X1_passMinute_2_s, hR.1.c4, if_pos ((lt_nI (by omega) (by omega)).mpr (by omega)), rf_3 hm2, ev_isOn]
  simp only [Option.bind_some, rfm_11, ix63]
  rw [if_pos i63, ← hR.2.2.2.1.1, ← k0]
  by_cases c : σ1.1 (10 * m + 8) 0 = 45
  · rw [if_pos c, if_pos rfl, if_pos c]
    obtain ⟨r, σ2, τ2, a1, a2, a3, a4, a5, a6, a7, a8⟩ := flight_sim (n := n) (n' := n') (by omega) (by omega) hR c
    rw [a1, a2]
    simp only [Option.bind_some]
    rcases a6 with ⟨r0, rs, rt⟩ | ⟨r1, rs⟩
    · subst r0
      subst rs
      subst rt
      rw [if_pos rfl, if_pos rfl]
      unfold sp_X1_startRequest sp_X6_takes
      obtain ⟨r, σ3, τ3, Q3, b1, b2, b3, b4, b5, b6, b7, b8⟩ := take_sim (n := n) (n' := n') (a1 := 0) (a1' := 0) (by omega) (by omega) (Or.inl rfl) Q _ _ 0 0 n n' a3 c (by omega) (fun p0 hp => by omega) (by have := a3.2.2.2.2.1.1; omega) (by omega) (by have := a3.2.2.2.2.1.1; omega)
      have b1' : lp_X1_startRequest_2 n (10 * m + 7) 0 n σ2 0 0 = some (r, σ3) := b1
      have b2' : lp_X6_takes_2 n' 41 0 n' τ2 0 0 = some (r, τ3) := b2
      rw [b1', b2']
      simp only [Option.bind_some]
      rcases b6 with ⟨r0, c2⟩ | ⟨r1, c2⟩
      · subst r0
        rw [if_pos rfl, if_pos rfl]
        obtain ⟨r, σ4, τ4, Q4, d1, d2, d3, d4, d5, d6, d7, d8⟩ := take_sim (n := n) (n' := n') (a1 := nI 1) (a1' := nI 1) (b := 1) (by omega) (by omega) (Or.inr rfl) Q3 _ _ 0 0 n n' b3 c2 (by omega) (fun p0 hp => by omega) (by have := b3.2.2.2.2.1.1; omega) (by omega) (by have := b3.2.2.2.2.1.1; omega)
        have d1' : lp_X1_startRequest_2 n (10 * m + 7) 1 n σ3 1 0 = some (r, σ4) := d1
        have d2' : lp_X6_takes_2 n' 41 1 n' τ3 1 0 = some (r, τ4) := d2
        rw [d1', d2']
        simp only [Option.bind_some]
        obtain ⟨σ5, τ5, w1, w2, w3, w4, w5, w6, w7, w8⟩ := half_sim n n' (l1 := nI (L + 1)) d3
        rw [w1]
        refine ⟨σ5, τ5, Q4, rfl, ?_, w3, ((fc1.trans b4).trans d4).trans w4, ((fm1.trans b5).trans d5).trans w5, fun hon => absurd c hon, fun hon => by rw [(w7 hon).1, d7, b7, k15], _, _, e2, b8.trans d8, w8⟩
        rcases d6 with ⟨r0, c3⟩ | ⟨r1, c3⟩
        · subst r0
          rw [if_pos c3] at w2
          rw [if_pos rfl]
          exact w2
        · subst r1
          rw [if_neg c3] at w2
          rw [if_neg (by decide)]
          exact w2
      · subst r1
        rw [if_neg (by decide), if_neg (by decide)]
        obtain ⟨σ5, τ5, w1, w2, w3, w4, w5, w6, w7, w8⟩ := half_sim n n' (l1 := nI (L + 1)) b3
        rw [if_neg c2] at w2
        rw [w1]
        exact ⟨σ5, τ5, Q3, rfl, w2, w3, (fc1.trans b4).trans w4, (fm1.trans b5).trans w5, fun hon => absurd c hon, fun hon => by rw [(w7 hon).1, b7, k15], _, _, e2, b8, w8⟩
    · subst r1
      rw [if_neg (by decide), if_neg (by decide)]
      obtain ⟨σ5, τ5, w1, w2, w3, w4, w5, w6, w7, w8⟩ := half_sim n n' (l1 := nI (L + 1)) a3
      rw [if_neg (by rw [rs]; decide)] at w2
      rw [w1]
      exact ⟨σ5, τ5, Q, rfl, w2, w3, (fc1.trans a4).trans w4, (fm1.trans a5).trans w5, fun hon => absurd c hon, fun hon => by rw [(w7 hon).1, a7, k15], _, _, e2, a8, w8⟩
  · rw [if_neg c, if_neg (by decide), if_neg c]
    obtain ⟨σ5, τ5, w1, w2, w3, w4, w5, w6, w7, w8⟩ := half_sim n n' (l1 := nI (L + 1)) hR
    rw [if_neg c] at w2
    rw [w1]
    exact ⟨σ5, τ5, Q, rfl, w2, w3, fc1.trans w4, fm1.trans w5, fun _ => ⟨by rw [w6, k72], fun hon => by rw [(w7 hon).2, k4]⟩, fun hon => by rw [(w7 hon).1, k15], _, _, e2, XC.rfl' _ _ _, w8⟩
