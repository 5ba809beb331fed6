/-! PURE. pass, waitFor, minutesToAlarm -/
theorem RR.to0 {σ σ' τ : Mem} {L : Nat} {W : Nat → Nat} {u N Q : Nat} (h : RR σ τ 0 L W u N Q) (e : ∀ a b, a < 10 ∨ (20 ≤ a ∧ a ≤ 27) → σ'.1 a b = σ.1 a b) (e2 : ∀ a, a ≠ 39 → σ'.2 a = σ.2 a) : RR σ' τ 0 L W u N Q := by
  obtain ⟨hS, hG, hK, hT, hQ, hP, hB⟩ := h
  have hL := hS.lv
  have hs : ShM σ' 0 := by
    have hm := hS.sh
    unfold ShM at hm ⊢
    rw [e2 _ (by omega), e2 _ (by omega)]
    exact hm
  have er : ∀ p b, p < 8 → σ'.1 (rw_ σ' 0 p) b = σ.1 (rw_ σ 0 p) b := fun p b hp => by
    have hh := hS.sh.2.2.1 p hp
    show σ'.1 (σ'.2 (38 + 0) p) b = _
    rw [e2 _ (by omega)]
    exact e _ _ (by omega)
  exact ⟨hS.to hs (fun k b k1 b1 => e _ _ (by omega)) (fun b b1 b2 => e _ _ (by omega)) (fun _ _ _ => rfl), hG.to (fun k b k1 b1 b2 => e _ _ (by omega)) (fun _ _ => rfl), hK.to (fun b b1 b2 => e _ _ (by omega)) (fun _ _ => rfl) rfl, hT.to (fun b b1 => e _ _ (by omega)) (e _ _ (by omega)) (fun _ _ _ => rfl) rfl, hQ.to (e _ _ (by omega)) (fun p b hp hb => er p b hp) (e _ _ (by omega)) (e _ _ (by omega)) (fun _ _ _ => rfl), hP.to hL (fun k k1 => e _ _ (by omega)) (onT_cong (e _ _ (by omega)) (e _ _ (by omega))) rfl, hB.to hL (fun k k1 => e _ _ (by omega)) (e _ _ (by omega)) (e _ _ (by omega))⟩
theorem RX.trial {B : Nat} {σ σ' τ τ' : Mem} (h : RX B σ τ) (hf : FrC σ σ' 1) (hs : ShM σ' 1) (e3 : ∀ a b, 41 ≤ a → a ≤ 47 → (a ≠ 41 ∨ b ≠ 14) → (a ≠ 47 ∨ b < 73) → τ'.1 a b = τ.1 a b) : RX B σ' τ' := by
  obtain ⟨L, W, u, N, Q, hR, h1, hN⟩ := h
  exact ⟨L, W, u, N, Q, (hR.to0 (fun a b hab => hf.1 a b (by omega) (by omega)) (fun a ha => hf.2 a (by omega))).toM e3, hs, hN⟩
theorem pass_sim {n n' : Nat} (hn : 20 < n) (hn' : 40 < n') {L : Nat} {W : Nat → Nat} {u N M : Nat} {a1 : Int32} (hM : M ≤ 60) : ∀ (d k k' i Q : Nat) (σ τ : Mem), i + d = M → d < k → d < k' → τ.1 41 14 = 0 → RR σ τ 0 L W u N Q →
    ∃ σ' τ' Q', lp_X5_pass_34 n 40 a1 k σ (nI M) (nI i) = some (.inl (τ'.1 47 61), σ') ∧ lp_X6_pass_40 n' 41 a1 k' τ (nI M) (nI i) = some (τ'.1 47 61, τ') ∧ RR σ' τ' 0 L W u N Q' ∧ FrC σ σ' 0 ∧ FrM τ τ' := by
  intro d
  induction d with
  | zero =>
    intro k k' i Q σ τ hi hk hk' ht h
    obtain ⟨k, rfl⟩ : ∃ z, k = z + 1 := ⟨k - 1, by omega⟩
    obtain ⟨k', rfl⟩ : ∃ z, k' = z + 1 := ⟨k' - 1, by omega⟩
    refine ⟨σ, τ, Q, ?_, ?_, h, FrC.rfl' _ _, FrM.rfl' _⟩
    · rw [lp_X5_pass_34_s, if_pos ((le_nI (by omega) (by omega)).mpr (by omega)), show σ.1 (rf 40 0) 8 = τ.1 47 61 from h.2.2.1.1]
    · rw [lp_X6_pass_40_s, if_pos ((le_nI (by omega) (by omega)).mpr (by omega)), ht, if_pos (by decide), if_pos i61]
      simp only [rfm_11, c61]
  | succ d ih =>
    intro k k' i Q σ τ hi hk hk' ht h
    obtain ⟨k, rfl⟩ : ∃ z, k = z + 1 := ⟨k - 1, by omega⟩
    obtain ⟨k', rfl⟩ : ∃ z, k' = z + 1 := ⟨k' - 1, by omega⟩
    obtain ⟨σ1, τ1, Q1, a2, a3, a4, a5, a6, -⟩ := minute_sim (n := n) (n' := n') (by omega) (by omega) h
    obtain ⟨σ', τ', Q', b1, b2, b3, b4, b5⟩ := ih k k' (i + 1) Q1 σ1 τ1 (by omega) (by omega) (by omega) (by rw [a6.1 _ _ (by omega)]; exact ht) a4
    refine ⟨σ', τ', Q', ?_, ?_, b3, a5.trans b4, a6.trans b5⟩
    · rw [lp_X5_pass_34_s, if_neg (by rw [le_nI (by omega) (by omega)]; omega), show sp_X1_passMinute n σ (rf 40 0) = some ((), σ1) from a2]
      simp only [Option.bind_some, add1_nI]
      exact b1
    · rw [lp_X6_pass_40_s, if_neg (by rw [le_nI (by omega) (by omega)]; omega), if_pos ht, a3]
      simp only [Option.bind_some, add1_nI]
      exact b2
theorem pass_bad (n k : Nat) {τ : Mem} {a t : Int32} (ht : t = 1 ∨ t = 2) (h : τ.1 41 14 = t) : lp_X6_pass_40 n 41 a (k + 1) τ a 0 = some (0, τ) := by
  have h1 : ¬ t ≤ 0 := by rcases ht with e | e <;> subst e <;> decide
  have h2 : ¬ t = 0 := by rcases ht with e | e <;> subst e <;> decide
  rw [lp_X6_pass_40_s, h]
  by_cases c : a ≤ 0
  · rw [if_pos c, if_neg h1]
  · rw [if_neg c, if_neg h2, if_neg h1]
theorem op_pass {n n' B : Nat} (hn : 70 < n) (hn' : 70 < n') {σ τ : Mem} (a : Int32) (h : RX B σ τ) : OpG B σ τ (spg_L_pass n σ 40 a 49) (sp_X6_pass n' τ 41 a) := by
  obtain ⟨L, W, u, N, Q, hR, h1, hN⟩ := id h
  have hS := hR.1
  obtain ⟨k', rfl⟩ : ∃ z, n' = z + 1 := ⟨n' - 1, by omega⟩
  rcases rng a 1 60 with ⟨g1, g2, c1, c2⟩ | ⟨c1, c2⟩
  · obtain ⟨M, m1, m2, rfl⟩ := rng_nI (lo := 1) (hi := 60) g1 g2 (by omega) (by omega)
    have e8 : σ.1 (rf 40 0) 8 = τ.1 47 61 := hR.2.2.1.1
    by_cases c : τ.1 47 61 + nI M ≤ 5000
    · obtain ⟨σ', τ', Q', b1, b2, b3, b4, b5⟩ := pass_sim (n := n) (n' := k' + 1) (a1 := nI M) (M := M) (by omega) (by omega) m2 M n (k' + 1) 0 Q σ (wi τ 41 14 0) (by omega) (by omega) (by omega) (wi_eq rfl rfl) (hR.toM (fun a b _ _ h3 _ => wi_o (by omega)))
      refine op_put (B := B) (v := τ'.1 47 61) (Nat.le_refl _) ?_ ?_ ?_ ⟨L, W, u, N, Q', b3, ?_, hN⟩ (b4.fc (by omega)) ((FM.thr _ _).trans b5.fm)
      · unfold spg_L_pass sp_X5_pass
        rw [c1]
        simp only [Option.bind_some]
        rw [e8, if_pos c, show lp_X5_pass_34 n 40 (nI M) n σ (nI M) 0 = some (.inl (τ'.1 47 61), σ') from b1]
        rfl
      · unfold sp_X6_pass
        rw [c2]
        simp only [Option.bind_some, rfm_11, c61, lm]
        rw [if_neg (by decide), if_pos i61, if_pos c]
        exact b2
      · rw [b5.1 _ _ (by omega), wi_eq rfl rfl]
      · unfold ShM at h1 ⊢
        rw [b4.2 _ (by omega), b4.2 _ (by omega)]
        exact h1
    · refine op_bad (t := 2) (r := 0) h (by decide) ?_ ?_
      · unfold spg_L_pass sp_X5_pass
        rw [c1]
        simp only [Option.bind_some]
        rw [e8, if_neg c]
        simp
      · unfold sp_X6_pass
        rw [c2]
        simp only [Option.bind_some, rfm_11, c61, lm]
        rw [if_neg (by decide), if_pos i61, if_neg c]
        exact pass_bad _ _ (Or.inr rfl) (wi_eq rfl rfl)
  · refine op_bad (t := 1) (r := 0) h (by decide) ?_ ?_
    · unfold spg_L_pass sp_X5_pass
      rw [c1]
      simp
    · unfold sp_X6_pass
      rw [c2]
      simp only [Option.bind_some, lm]
      rw [if_pos trivial]
      exact pass_bad _ _ (Or.inl rfl) (wi_eq rfl rfl)
/-- behind keeps, changes of 47, goesBack: as before -/
theorem back_M {n : Nat} (hn : 80 < n) {τ τ1 τ2 : Mem} (k2 : τ1.2 = τ.2) (k3 : ∀ a b, (a ≠ 48 ∨ 73 ≤ b) → τ1.1 a b = τ.1 a b) (k4 : ∀ b, b < 73 → τ1.1 48 b = τ.1 47 b) (hf : FrM τ1 τ2) :
    ∃ τ', sp_X6_goesBack n τ2 41 = some ((), τ') ∧ τ'.2 = τ.2 ∧ (∀ a b, a < 41 ∨ 48 < a → τ'.1 a b = τ.1 a b) ∧ ∀ a b, 41 ≤ a → a ≤ 47 → (a ≠ 47 ∨ b < 73) → τ'.1 a b = τ.1 a b := by
  obtain ⟨τ', b1, b2, b3, b4⟩ := ev_goesBack hn τ2
  refine ⟨τ', b1, b2.trans (hf.2.trans k2), fun a b h => ?_, fun a b h1 h2 h3 => ?_⟩
  · rw [b3 _ _ (by omega), hf.1 _ _ (by omega), k3 _ _ (by omega)]
  · by_cases e : a = 47
    · subst e
      rw [b4 _ (by omega), hf.1 _ _ (by omega), k4 _ (by omega)]
    · rw [b3 _ _ (by omega), hf.1 _ _ e, k3 _ _ (by omega)]
theorem op_waitFor {n n' B : Nat} (hn : 510 < n) (hn' : 510 < n') {σ τ : Mem} (a : Int32) (h : RX B σ τ) : OpG B σ τ (spg_L_waitFor n σ 40 a 49) (sp_X6_waitFor n' τ 41 a) := by
  obtain ⟨L, W, u, N, Q, hR, h1, hN⟩ := id h
  have hS := hR.1
  have hT := hR.2.2.2.1
  have hQ := hR.2.2.2.2.1
  have e63 : τ.1 47 63 = σ.1 8 0 := hT.1.symm
  have e67 : τ.1 47 67 = σ.1 8 4 := hT.2.1.symm
  -- the model's first look: on whose side does it go on
  have hm : sp_X6_waitFor n' τ 41 a = lp_X6_waitFor_33 n' 41 a τ a (if σ.1 8 0 ≠ 45 ∧ a ≠ -1 ∧ σ.1 8 4 = a then 1 else 0) := by
    unfold sp_X6_waitFor
    rw [if_pos i63]
    simp only [rfm_11, ix63, ix67]
    rw [e63, e67, if_pos i67]
    by_cases c1 : σ.1 8 0 = 45
    · rw [if_pos c1, if_neg (fun q => q.1 c1)]
    · rw [if_neg c1]
      by_cases c2 : a = -1
      · rw [if_pos c2, if_neg (fun q => q.2.1 c2)]
      · rw [if_neg c2]
        by_cases c3 : σ.1 8 4 = a
        · rw [if_pos c3, if_pos ⟨c1, c2, c3⟩]
        · rw [if_neg c3, if_neg (fun q => c3 q.2.2)]
  by_cases hp : inq σ 0 Q a ∨ trp σ 0 a
  · -- pending
    have hr : ∃ r, r < 90000 ∧ a = nI r := by
      have hN9 := hQ.2.1
      rcases hp with ⟨p, hp, ep⟩ | ⟨t1, t2, t3⟩
      · obtain ⟨⟨r, r1, r2, -⟩, -⟩ := hQ.2.2.2.2.1 p hp
        exact ⟨r, by omega, ep.symm.trans r2⟩
      · rcases hQ.2.2.2.2.2.2.1 with e | ⟨r, r1, r2⟩
        · exact absurd e t2
        · exact ⟨r, by omega, t3.symm.trans r2⟩
    obtain ⟨r, hr9, rfl⟩ := hr
    obtain ⟨σ1, c0, c1, c2, c3⟩ := copy_sim (n := n) (by omega) hR h1
    obtain ⟨τ1, k1, k2, k3, k4⟩ := ev_keeps (n := n') (by omega) τ
    have hR1 : RR σ1 τ1 1 L W u N Q := c1.toM (fun a b _ _ _ _ => k3 _ _ (by omega))
    -- still pending in the copy
    have hp1 : inq σ1 1 Q (nI r) ∨ σ1.1 18 4 = nI r := by
      have q0 := hQ.2.2.2.2.1
      have q1 := c1.2.2.2.2.1.2.2.2.2.1
      rcases hp with ⟨p, hp, ep⟩ | ⟨t1, t2, t3⟩
      · obtain ⟨⟨x, -, x1, x2⟩, -⟩ := q0 p hp
        obtain ⟨⟨y, -, y1, y2⟩, -⟩ := q1 p hp
        exact Or.inl ⟨p, hp, by rw [y1, ← y2, x2, ← x1]; exact ep⟩
      · exact Or.inr (c1.2.2.2.1.2.1.trans (hT.2.1.symm.trans t3))
    -- the model goes to its loop
    obtain ⟨l2, hm2⟩ : ∃ l2, sp_X6_waitFor n' τ 41 (nI r) = lp_X6_waitFor_65 n' 41 (nI r) n' τ1 (nI r) l2 (nI 0) 0 1 := by
      rw [hm]
      by_cases ct : σ.1 8 0 ≠ 45 ∧ nI r ≠ -1 ∧ σ.1 8 4 = nI r
      · refine ⟨1, ?_⟩
        rw [if_pos ct]
        unfold lp_X6_waitFor_33
        rw [if_neg (by decide), k1]
        rfl
      · refine ⟨0, ?_⟩
        have hi : inq σ 0 Q (nI r) := hp.resolve_right (fun t => ct ⟨t.1, fun e => t.2.1 (t.2.2.trans e), t.2.2⟩)
        obtain ⟨q, hq, e1, -⟩ := place_yes (n := n') (by omega) hQ hi
        have hQ8 := hQ.1
        rw [if_neg ct]
        unfold lp_X6_waitFor_33
        rw [if_pos rfl, e1]
        simp only [Option.bind_some]
        rw [if_neg (nI_m1 (by omega)), k1]
        rfl
    obtain ⟨v, σ', τ2, l3, l4, l5, b1, b2, b3, b4, b5, b6⟩ := wait_sim (n := n) (n' := n') (a1 := nI r) (l2 := l2) (by omega) (by omega) hr9 500 n n' 0 Q σ1 τ1 (by omega) (by omega) (by omega) hR1 hp1
    obtain ⟨τ3, g1, g2, g3, g4⟩ := back_M (n := n') (by omega) k2 k3 k4 b4
    have hcl : sp_X5_waitFor n σ 40 (nI r) = if v = -1 then some (.inr "java/lang/UnsupportedOperationException", σ') else some (.inl v, σ') := by
      unfold sp_X5_waitFor
      rw [show sp_X1_isPending n σ (rf 40 0) (nI r) = some (1, σ) from isPending_yes (by omega) hS.sh hQ hp]
      simp only [Option.bind_some]
      rw [if_neg (by decide), show sp_X1_copyFrom n σ (rf 40 1) (rf 40 0) = some ((), σ1) from c0]
      simp only [Option.bind_some]
      rw [show sp_X1_passToEndOf n σ1 (rf 40 1) (nI r) = some (v, σ') from b1]
      rfl
    have hfc : FrC σ σ' 1 := c2.trans b3
    have hRX : ∀ t, RX B σ' (wi τ3 41 14 t) := fun t => h.trial hfc b5 (fun a b h1 h2 h3 h4 => by rw [wi_o (by omega), g4 _ _ h1 h2 h4])
    have hFM : ∀ t, FM τ (wi τ3 41 14 t) := fun t => ⟨fun a b h1 => by rw [wi_o (by omega), g3 _ _ h1], g2⟩
    rcases b6 with ⟨b7, b8⟩ | ⟨⟨w, w1, w2⟩, b8, b9⟩
    · refine ⟨2, σ', 0, wi τ3 41 14 2, ?_, ?_, wi_eq rfl rfl, fun e => absurd e (by decide), hRX 2, hfc.fc (by omega), hFM 2⟩
      · unfold spg_L_waitFor
        rw [hcl, if_pos b7]
        simp
      · rw [hm2, b2]
        unfold lp_X6_waitFor_160 lp_X6_waitFor_175
        rw [g1]
        simp only [Option.bind_some, lm]
        rw [if_pos b8, if_pos b8]
    · refine ⟨0, wi σ' 49 0 v, v, wi τ3 41 14 0, ?_, ?_, wi_eq rfl rfl, fun _ => wi_eq rfl rfl, ?_, (hfc.fc (by omega)).trans (FC.out _ _ _), hFM 0⟩
      · unfold spg_L_waitFor
        rw [hcl, if_neg (by rw [w2]; exact nI_m1 (by omega))]
        rfl
      · rw [hm2, b2]
        unfold lp_X6_waitFor_160 lp_X6_waitFor_175
        rw [g1]
        simp only [Option.bind_some, lm]
        rw [b8, if_neg (by decide), if_neg (by decide), b9]
      · exact (hRX 0).to (Nat.le_refl _) (fun a b h1 _ _ _ => wi_o (by omega)) (fun _ _ => rfl) (fun _ _ _ _ _ _ => rfl)
  · have hi : ¬ inq σ 0 Q a := fun q => hp (Or.inl q)
    have ht : ¬ trp σ 0 a := fun q => hp (Or.inr q)
    refine op_bad (t := 1) (r := 0) h (by decide) ?_ ?_
    · unfold spg_L_waitFor sp_X5_waitFor
      rw [show sp_X1_isPending n σ (rf 40 0) a = some (0, σ) from isPending_no (by omega) hS.sh hQ hi ht]
      simp
    · rw [hm, if_neg (fun q => ht ⟨q.1, fun e => q.2.1 (q.2.2.symm.trans e), q.2.2⟩)]
      unfold lp_X6_waitFor_33
      rw [if_pos rfl, place_no (n := n') (by omega) hQ hi]
      simp only [Option.bind_some]
      rw [if_pos trivial]
      rfl
theorem RS.alarmM1 {σ τ : Mem} {m L : Nat} {W : Nat → Nat} {u : Nat} (h : RS σ τ m L W u) (n : Nat) {k : Nat} (hg : σ.1 (10 * m + k) 7 = τ.1 47 k) (h1 : 1 ≤ k) (h2 : k ≤ L) : sp_X6_alarms n τ 41 (nI k) = some (alC σ m k, τ) := by
  obtain ⟨z, z1, z2, z3, z4⟩ := (h.row h1 h2).1
  have hL := h.lv
  have hsh : sp_X6_share n τ 41 (nI k) = some (shC σ m k, τ) := by
    unfold sp_X6_share
    simp only [ix_0 (show k < 73 by omega)]
    rw [if_pos (inR_nI (by omega) (by omega)), if_pos (inR_nI (by omega) (by omega))]
    simp only [nI_cl (show k < 100000 by omega), rfm_2, rfm_11]
    rw [if_pos (by rw [z4, n0, eq_nI (by omega) (by omega)]; omega)]
    unfold shC
    rw [hg, z3, z4]
  unfold sp_X6_alarms
  rw [hsh]
  simp only [Option.bind_some]
  unfold alC
  rw [h.lim]
  split <;> rfl
theorem alarm_sim {n n' : Nat} (hn : 20 < n) (hn' : 80 < n') {L : Nat} {W : Nat → Nat} {u c : Nat} {a1 : Int32} (hc1 : 1 ≤ c) (hc2 : c ≤ L) : ∀ (d k k' j : Nat) (σ τ : Mem), j + d = 500 → d + 1 < k → d < k' → RS σ τ 1 L W u → σ.1 (10 * 1 + c) 7 = τ.1 47 c →
    ∃ v σ' τ', lp_X1_passToAlarm_2 n 17 (10 + c) k σ (nI j) = some (v, σ') ∧ FrC σ σ' 1 ∧ FrM τ τ' ∧ ShM σ' 1 ∧
      (v = -1 ∧ lp_X6_minutesToAlarm_16 n' 41 a1 k' τ (nI c) (nI j) = ((sp_X6_goesBack n' τ' 41).bind fun q => ((sp_X6_raises n' q.2 41 2).bind fun r => some (r.1, r.2))) ∨ (∃ w, w < 1000 ∧ v = nI w) ∧ lp_X6_minutesToAlarm_16 n' 41 a1 k' τ (nI c) (nI j) = ((sp_X6_goesBack n' τ' 41).bind fun q => some (v, q.2))) := by
  intro d
  induction d with
  | zero =>
    intro k k' j σ τ hj hk hk' h hg
    obtain ⟨k, rfl⟩ : ∃ z, k = z + 1 + 1 := ⟨k - 2, by omega⟩
    obtain ⟨k', rfl⟩ : ∃ z, k' = z + 1 := ⟨k' - 1, by omega⟩
    have hL := h.lv
    have ha : sp_X1_hasAlarm n σ 17 (10 + c) = some (alC σ 1 c, σ) := h.alarm n hc1 hc2
    have nlt : ¬ (500 : Int32) < nI j := by rw [show (500 : Int32) = nI 500 from rfl, lt_nI (by omega) (by omega)]; omega
    have le : (500 : Int32) ≤ nI j := by rw [show (500 : Int32) = nI 500 from rfl, le_nI (by omega) (by omega)]; omega
    by_cases ca : alC σ 1 c = 0
    · obtain ⟨z, z1, z2, z3, -⟩ := (h.row hc1 hc2).1
      obtain ⟨σ', e0, e1, -, -, -, e5⟩ := ev_moveGas n (σ := σ) (m := 1) (k := c) (by omega) z1 z2 z3
      refine ⟨-1, σ', τ, ?_, ⟨fun a b h1 h2 => e5 _ _ (by omega) (by omega), fun a _ => by rw [e1]⟩, FrM.rfl' _, h.sh.to e1, Or.inl ⟨rfl, ?_⟩⟩
      · rw [lp_X1_passToAlarm_2_s, if_neg nlt, ha]
        simp only [Option.bind_some]
        rw [if_pos ca, show sp_X1_moveGas n σ 17 (10 + c) = some ((), σ') from e0]
        simp only [Option.bind_some, add1_nI]
        rw [lp_X1_passToAlarm_2_s, if_pos (show (500 : Int32) < nI (j + 1) by rw [show (500 : Int32) = nI 500 from rfl, lt_nI (by omega) (by omega)]; omega)]
      · rw [lp_X6_minutesToAlarm_16_s, if_pos le, h.alarmM1 n' hg hc1 hc2]
        simp only [Option.bind_some]
        simp only [if_pos ca]
    · refine ⟨nI j, σ, τ, ?_, FrC.rfl' _ _, FrM.rfl' _, h.sh, Or.inr ⟨⟨j, by omega, rfl⟩, ?_⟩⟩
      · rw [lp_X1_passToAlarm_2_s, if_neg nlt, ha]
        simp only [Option.bind_some]
        rw [if_neg ca]
      · rw [lp_X6_minutesToAlarm_16_s, if_pos le, h.alarmM1 n' hg hc1 hc2]
        simp only [Option.bind_some]
        simp only [if_neg ca]
  | succ d ih =>
    intro k k' j σ τ hj hk hk' h hg
    obtain ⟨k, rfl⟩ : ∃ z, k = z + 1 := ⟨k - 1, by omega⟩
    obtain ⟨k', rfl⟩ : ∃ z, k' = z + 1 := ⟨k' - 1, by omega⟩
    have hL := h.lv
    have ha : sp_X1_hasAlarm n σ 17 (10 + c) = some (alC σ 1 c, σ) := h.alarm n hc1 hc2
    have nlt : ¬ (500 : Int32) < nI j := by rw [show (500 : Int32) = nI 500 from rfl, lt_nI (by omega) (by omega)]; omega
    have nle : ¬ (500 : Int32) ≤ nI j := by rw [show (500 : Int32) = nI 500 from rfl, le_nI (by omega) (by omega)]; omega
    by_cases ca : alC σ 1 c = 0
    · obtain ⟨-, -, -, s4, -, s6, s7, -, s9, -⟩ := id h
      obtain ⟨z, z1, z2, z3, -⟩ := (h.row hc1 hc2).1
      obtain ⟨σ1, e0, e1, e2, -, -, e5⟩ := ev_moveGas n (σ := σ) (m := 1) (k := c) (by omega) z1 z2 z3
      obtain ⟨τ1, f1, m1, m2, -, -, m5⟩ := ev_gases (n := n') (by omega) s4 hL s6 s7 s9 (fun k k1 k2 => by
        obtain ⟨z, z1, z2, z3, z4⟩ := (h.row k1 k2).1
        exact ⟨z, z1, z2, z4⟩)
      have hS1 : RS σ1 τ1 1 L W u := h.to (h.sh.to e1) (fun k b k1 b1 => e5 _ _ (by omega) (by omega)) (fun b b1 b2 => e5 _ _ (by omega) (by omega)) (fun a b hab => m5 _ _ (by omega))
      have hg1 : σ1.1 (10 * 1 + c) 7 = τ1.1 47 c := by
        rw [e2, m2 c hc1 hc2, hg, (h.row hc1 hc2).2.1, (h.row hc1 hc2).2.2.2.2, h.siz hc1 hc2]
        rfl
      obtain ⟨v, σ', τ', b1, b2, b3, b4, b5⟩ := ih k k' (j + 1) σ1 τ1 (by omega) (by omega) (by omega) hS1 hg1
      have hml : lp_X6_minutesToAlarm_16 n' 41 a1 (k' + 1) τ (nI c) (nI j) = lp_X6_minutesToAlarm_16 n' 41 a1 k' τ1 (nI c) (nI (j + 1)) := by
        rw [lp_X6_minutesToAlarm_16_s, if_neg nle, h.alarmM1 n' hg hc1 hc2]
        simp only [Option.bind_some]
        rw [if_pos ca, f1]
        simp only [Option.bind_some, add1_nI]
      refine ⟨v, σ', τ', ?_, FrC.trans ⟨fun a b h1 h2 => e5 _ _ (by omega) (by omega), fun a _ => by rw [e1]⟩ b2, FrM.trans ⟨fun a b h1 => m5 _ _ (by omega), m1⟩ b3, b4, by rw [hml]; exact b5⟩
      rw [lp_X1_passToAlarm_2_s, if_neg nlt, ha]
      simp only [Option.bind_some]
      rw [if_pos ca, show sp_X1_moveGas n σ 17 (10 + c) = some ((), σ1) from e0]
      simp only [Option.bind_some, add1_nI]
      exact b1
    · refine ⟨nI j, σ, τ, ?_, FrC.rfl' _ _, FrM.rfl' _, h.sh, Or.inr ⟨⟨j, by omega, rfl⟩, ?_⟩⟩
      · rw [lp_X1_passToAlarm_2_s, if_neg nlt, ha]
        simp only [Option.bind_some]
        rw [if_neg ca]
      · rw [lp_X6_minutesToAlarm_16_s, if_neg nle, h.alarmM1 n' hg hc1 hc2]
        simp only [Option.bind_some]
        rw [if_neg ca, h.alarmM1 n' hg hc1 hc2]
        simp only [Option.bind_some]
        simp only [if_neg ca]
theorem op_minutesToAlarm {n n' B : Nat} (hn : 510 < n) (hn' : 510 < n') {σ τ : Mem} (a : Int32) (h : RX B σ τ) : OpG B σ τ (spg_L_minutesToAlarm n σ 40 a 49) (sp_X6_minutesToAlarm n' τ 41 a) := by
  obtain ⟨L, W, u, N, Q, hR, h1, hN⟩ := id h
  have hS := hR.1
  have hL := hS.lv
  have h4 : σ.1 7 4 = nI L := hS.c4
  rcases lvl_or1 L hL a with ⟨k, hk1, hk, rfl⟩ | hb
  · obtain ⟨σ1, c0, c1, c2, c3⟩ := copy_sim (n := n) (by omega) hR h1
    obtain ⟨τ1, k1, k2, k3, k4⟩ := ev_keeps (n := n') (by omega) (wi τ 41 14 0)
    have hR1 : RR σ1 τ1 1 L W u N Q := c1.toM (fun a b h1 h2 h3 _ => by rw [k3 _ _ (by omega), wi_o (by omega)])
    obtain ⟨v, σ', τ2, b1, b2, b3, b4, b5⟩ := alarm_sim (n := n) (n' := n') (a1 := nI k) (by omega) (by omega) hk1 hk 500 n n' 0 σ1 τ1 (by omega) (by omega) (by omega) hR1.1 (hR1.2.1 k (by omega)).1
    obtain ⟨τ3, g1, g2, g3, g4⟩ := back_M (n := n') (by omega) k2 k3 k4 b3
    have hcl : sp_X5_minutesToAlarm n σ 40 (nI k) = if v = -1 then some (.inr "java/util/NoSuchElementException", σ') else some (.inl v, σ') := by
      unfold sp_X5_minutesToAlarm
      rw [ckL_ok n h4 hL hk1 hk]
      simp only [Option.bind_some]
      rw [show sp_X1_copyFrom n σ (rf 40 1) (rf 40 0) = some ((), σ1) from c0]
      simp only [Option.bind_some]
      rw [show sp_X1_place n σ1 (rf 40 1) (nI k) = some (10 + k, σ1) from ev_place (m := 1) n hR1.1.sh (by omega)]
      simp only [Option.bind_some]
      rw [if_pos (ok_lv (m := 1) (by omega) (by omega)), show sp_X1_passToAlarm n σ1 (rf 40 1) (10 + k) = some (v, σ') from b1]
      rfl
    have hfc : FrC σ σ' 1 := c2.trans b2
    have hm : sp_X6_minutesToAlarm n' τ 41 (nI k) = lp_X6_minutesToAlarm_16 n' 41 (nI k) n' τ1 (nI k) (nI 0) := by
      unfold sp_X6_minutesToAlarm
      rw [lacks_ok n' hS.t0 hL hk1 hk]
      simp only [Option.bind_some]
      rw [if_pos trivial, k1]
      rfl
    have hFM : FM τ τ3 := ⟨fun a b h1 => by rw [g3 _ _ h1, wi_o (by omega)], g2⟩
    have hRX : RX B σ' τ3 := h.trial hfc b4 (fun a b h1 h2 h3 h4 => by rw [g4 _ _ h1 h2 h4, wi_o (by omega)])
    rcases b5 with ⟨b6, b7⟩ | ⟨⟨w, w1, w2⟩, b7⟩
    · refine ⟨2, σ', 0, wi τ3 41 14 2, ?_, ?_, wi_eq rfl rfl, fun e => absurd e (by decide), hRX.thr 2, hfc.fc (by omega), hFM.trans (FM.thr _ _)⟩
      · unfold spg_L_minutesToAlarm
        rw [hcl, if_pos b6]
        simp
      · rw [hm, b7, g1]
        rfl
    · refine ⟨0, wi σ' 49 0 v, v, τ3, ?_, ?_, ?_, fun _ => wi_eq rfl rfl, ?_, (hfc.fc (by omega)).trans (FC.out _ _ _), hFM⟩
      · unfold spg_L_minutesToAlarm
        rw [hcl, if_neg (by rw [w2]; exact nI_m1 (by omega))]
        rfl
      · rw [hm, b7, g1]
        rfl
      · rw [g4 _ _ (by omega) (by omega) (by omega), wi_eq rfl rfl]
      · exact hRX.to (Nat.le_refl _) (fun a b h1 _ _ _ => wi_o (by omega)) (fun _ _ => rfl) (fun _ _ _ _ _ _ => rfl)
  · refine op_bad (t := 1) (r := 0) h (by decide) ?_ ?_
    · unfold spg_L_minutesToAlarm sp_X5_minutesToAlarm
      rw [ckL_bad n h4 hb]
      simp
    · unfold sp_X6_minutesToAlarm
      rw [lacks_bad n' hS.t0 hb]
      simp
