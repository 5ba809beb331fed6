/-! PURE. the search for a request with a load, of both systems -/
theorem drop_R {σ τ : Mem} {m L : Nat} {W : Nat → Nat} {u N Q : Nat} (h : RR σ τ m L W u N Q) : RR (wi σ (10 * m + 7) 14 (σ.1 (10 * m + 7) 14 + 1)) (wi τ 47 69 (τ.1 47 69 + 1)) m L W u N Q := by
  obtain ⟨hS, hG, hK, hT, hQ, hP, hB⟩ := h
  have hL := hS.lv
  have hm2 := hS.m2
  refine ⟨hS.to (hS.sh.to rfl) (fun k b k1 b1 => wi_o (by omega)) (fun b b1 b2 => wi_o (by omega)) (fun a b hab => wi_o (by omega)), hG.to (fun k b k1 b1 b2 => wi_o (by omega)) (fun b hb => wi_o (by omega)), ?_, hT.to (fun b hb => wi_o (by omega)) (wi_o (by omega)) (fun b b1 b2 => wi_o (by omega)) (wi_o (by omega)), hQ.to (wi_o (by omega)) (fun p b hp hb => ?_) (wi_o (by omega)) (wi_o (by omega)) (fun b b1 b2 => wi_o (by omega)), hP.to hL (fun k k1 => wi_o (by omega)) (onT_cong (wi_o (by omega)) (wi_o (by omega))) (wi_o (by omega)), hB.to hL (fun k k1 => wi_o (by omega)) (wi_o (by omega)) (wi_o (by omega))⟩
  · obtain ⟨k1, k2, k3, k4, k5, k6, k7, k8⟩ := hK
    refine ⟨?_, ?_, ?_, ?_, ?_, ?_, ?_, ?_⟩
    · rw [wi_o (by omega), wi_o (by omega)]; exact k1
    · rw [wi_o (by omega), wi_o (by omega)]; exact k2
    · rw [wi_o (by omega), wi_o (by omega)]; exact k3
    · rw [wi_o (by omega)]; exact k4
    · rw [wi_o (by omega)]; exact k5
    · rw [wi_o (by omega), wi_o (by omega)]; exact k6
    · rw [wi_o (by omega), wi_o (by omega)]; exact k7
    · rw [wi_eq rfl rfl, wi_eq rfl rfl, k8]
  · have hh := hS.sh.2.2.1 p hp
    exact wi_o (Or.inl (by show σ.2 (38 + m) p ≠ _; omega))
theorem rw_ne {σ : Mem} {m p j : Nat} (h : ShM σ m) (hp : p < 8) (hj : j ≤ 9) : rw_ σ m p ≠ 10 * m + j := by
  have h1 := h.1
  have h2 := h.2.2.1 p hp
  unfold rw_
  omega
theorem ch_kd {c : Int32} (h : c = 100 ∨ c = 117 ∨ c = 111) : (c.toUInt32 % 65536).toInt32 = c := by
  rcases h with h | h | h <;> subst h <;> decide
theorem ix4_1 {p : Nat} : (28 : Int32) + (4 : Int32) * nI p + 1 = nI (29 + 4 * p) := by rw [ix4, n1, add_nI, show 28 + 4 * p + 1 = 29 + 4 * p by omega]
theorem ix4_2 {p : Nat} : (28 : Int32) + (4 : Int32) * nI p + 2 = nI (30 + 4 * p) := by rw [ix4, show (2 : Int32) = nI 2 from rfl, add_nI, show 28 + 4 * p + 2 = 30 + 4 * p by omega]
theorem ix4_3 {p : Nat} : (28 : Int32) + (4 : Int32) * nI p + 3 = nI (31 + 4 * p) := by rw [ix4, show (3 : Int32) = nI 3 from rfl, add_nI, show 28 + 4 * p + 3 = 31 + 4 * p by omega]
theorem lp_skip (n : Nat) {σ τ : Mem} {m L N Q : Nat} {b a1 : Int32} (hb : b = 0 ∨ b = 1) (h : RQ σ τ m L N Q) : ∀ (d k p : Nat), p + d ≤ Q → d < k → (∀ p0, p ≤ p0 → p0 < p + d → mtC σ m p0 ≠ b) → lp_X6_takes_2 n 41 a1 k τ b (nI p) = lp_X6_takes_2 n 41 a1 (k - d) τ b (nI (p + d)) := by
  intro d
  obtain ⟨q1, q2, q3, q4, q5, -⟩ := h
  induction d with
  | zero => intro k p hp hk hn; rfl
  | succ d ih =>
    intro k p hp hk hn
    obtain ⟨k, rfl⟩ : ∃ z, k = z + 1 := ⟨k - 1, by omega⟩
    have hm := hn p (Nat.le_refl _) (by omega)
    obtain ⟨-, ek, -⟩ := q5 p (by omega)
    have ih' := ih k (p + 1) (by omega) (by omega) (fun p0 h1 h2 => hn p0 (by omega) (by omega))
    rw [show k - d = k + 1 - (d + 1) by omega, show p + 1 + d = p + (d + 1) by omega] at ih'
    rw [lp_X6_takes_2_s, if_pos i60]
    simp only [rfm_11, c60, q4, ix4_1]
    rw [if_neg (by rw [le_nI (by omega) (by omega)]; omega), if_pos (inR_nI (by omega) (by omega))]
    simp only [nI_cl (show 29 + 4 * p < 100000 by omega)]
    rw [← ek, add1_nI]
    unfold mtC at hm
    by_cases c : σ.1 (rw_ σ m p) 1 = 111
    · rw [if_pos c] at hm
      rw [if_pos c, if_neg hm]
      exact ih'
    · rw [if_neg c] at hm
      rw [if_neg c, if_neg hm]
      exact ih'
theorem take_step (n : Nat) {τ τ1 : Mem} {b a1 : Int32} {Q q k kk : Nat} {c x num ld : Int32} (hq : q < Q) (hQ : Q ≤ 8) (q4 : τ.1 47 60 = nI Q) (hc : c = 100 ∨ c = 117 ∨ c = 111) (hb : c = 111 ∧ b = 1 ∨ c ≠ 111 ∧ b = 0) (e0 : τ.1 47 (28 + 4 * q) = num) (e1 : τ.1 47 (29 + 4 * q) = c) (e2 : τ.1 47 (30 + 4 * q) = nI kk) (e3 : τ.1 47 (31 + 4 * q) = x) (hl : sp_X6_loadOf n τ 41 c (nI kk) x = some (ld, τ)) (hg : sp_X6_goes n τ 41 (nI q) = some ((), τ1)) :
    lp_X6_takes_2 n 41 a1 (k + 1) τ b (nI q) = if ld ≤ 0 then lp_X6_takes_2 n 41 a1 k (wi τ1 47 69 (τ1.1 47 69 + 1)) b (nI q) else ((sp_X6_begins n τ1 41 c (nI kk) ld num).bind fun r => some (1, r.2)) := by
  rw [lp_X6_takes_2_s, if_pos i60]
  simp only [rfm_11, c60, q4, ix4_1, ix4_2, ix4_3]
  simp only [ix4]
  rw [if_neg (by rw [le_nI (by omega) (by omega)]; omega), if_pos (inR_nI (by omega) (by omega))]
  simp only [nI_cl (show 28 + 4 * q < 100000 by omega), nI_cl (show 29 + 4 * q < 100000 by omega), nI_cl (show 30 + 4 * q < 100000 by omega), nI_cl (show 31 + 4 * q < 100000 by omega)]
  rw [e0, e1, e2, e3, ch_kd hc]
  rcases hb with ⟨h1, h2⟩ | ⟨h1, h2⟩
  · rw [if_pos h1, if_pos h2.symm, if_pos (inR_nI (by omega) (by omega)), if_pos (inR_nI (by omega) (by omega)), if_pos (inR_nI (by omega) (by omega)), if_pos (inR_nI (by omega) (by omega)), hl]
    simp only [Option.bind_some]
    rw [hg]
    simp only [Option.bind_some]
    rw [if_pos i69, if_pos i69]
    simp only [lm, ix69]
  · rw [if_neg h1, if_pos h2.symm, if_pos (inR_nI (by omega) (by omega)), if_pos (inR_nI (by omega) (by omega)), if_pos (inR_nI (by omega) (by omega)), if_pos (inR_nI (by omega) (by omega)), hl]
    simp only [Option.bind_some]
    rw [hg]
    simp only [Option.bind_some]
    rw [if_pos i69, if_pos i69]
    simp only [lm, ix69]
theorem ldC_cong {σ σ' : Mem} {m k : Nat} {c x : Int32} (hk : k < 7) (h : ∀ a b, (a ≠ 10 * m + 9 ∨ b ≠ 1) → σ'.1 a b = σ.1 a b) : ldC σ' m k c x = ldC σ m k c x := by
  unfold ldC alC cdC shC
  rw [h _ _ (by omega), h _ _ (by omega), h _ _ (by omega), h _ _ (by omega), h _ _ (by omega), h _ _ (by omega), h _ _ (by omega), h _ _ (by omega)]
theorem ld_bd {σ : Mem} {m k x : Nat} {c : Int32} (hx : x ≤ 20) (h : ¬ ldC σ m k c (nI x) ≤ 0) : ∃ y', y' ≤ 20 ∧ ldC σ m k c (nI x) = nI y' := by
  unfold ldC at h ⊢
  have key : ∀ v : Int32, ¬ (if nI x < v then nI x else v) ≤ 0 → ∃ y', y' ≤ 20 ∧ (if nI x < v then nI x else v) = nI y' := fun v hv => by
    refine min_nI hx (fun c => hv ?_)
    by_cases c2 : nI x < v
    · exact absurd (Int32.lt_trans c2 c) (nI_pos (by omega))
    · rw [if_neg c2]
      exact Int32.le_of_lt c
  by_cases c1 : c = 111
  · rw [if_pos c1] at h ⊢
    exact key _ h
  rw [if_neg c1] at h ⊢
  by_cases c2 : c = 117
  · rw [if_pos c2] at h ⊢
    exact key _ h
  rw [if_neg c2] at h ⊢
  by_cases c3 : alC σ m k = 0
  · rw [if_pos c3] at h ⊢
    by_cases c4 : cdC σ m k = 0
    · rw [if_pos c4] at h ⊢
      exact key _ h
    · rw [if_neg c4] at h
      exact absurd (by decide) h
  · rw [if_neg c3] at h
    exact absurd (by decide) h
theorem ld_le {σ : Mem} {m k : Nat} {c x : Int32} (e : c = 100) (h : ¬ ldC σ m k c x ≤ 0) : ldC σ m k c x ≤ σ.1 (10 * m) 8 := by
  unfold ldC at h ⊢
  subst e
  rw [if_neg (by decide), if_neg (by decide)] at h ⊢
  by_cases c1 : alC σ m k = 0
  · rw [if_pos c1] at h ⊢
    by_cases c2 : cdC σ m k = 0
    · rw [if_pos c2] at h ⊢
      by_cases c3 : x < σ.1 (10 * m) 8
      · rw [if_pos c3]; exact Int32.le_of_lt c3
      · rw [if_neg c3]; exact Int32.le_refl _
    · rw [if_neg c2] at h
      exact absurd (by decide) h
  · rw [if_neg c1] at h
    exact absurd (by decide) h
theorem take_sim {n n' : Nat} (hn : 10 < n) (hn' : 40 < n') {m L : Nat} {W : Nat → Nat} {u N : Nat} {b a1 a1' : Int32} (hb : b = 0 ∨ b = 1) : ∀ (Q : Nat) (σ τ : Mem) (i p k k' : Nat), RR σ τ m L W u N Q → σ.1 (10 * m + 8) 0 = 45 → p ≤ Q → (∀ p0, p0 < p → mtC σ m p0 ≠ b) → i + Q ≤ 8 → 8 < k + i → Q < k' + p →
    ∃ r σ' τ' Q', lp_X1_startRequest_2 n (10 * m + 7) a1 k σ b (nI i) = some (r, σ') ∧ lp_X6_takes_2 n' 41 a1' k' τ b (nI p) = some (r, τ') ∧ RR σ' τ' m L W u N Q' ∧ FrC σ σ' m ∧ FrM τ τ' ∧ (r = 0 ∧ σ'.1 (10 * m + 8) 0 = 45 ∨ r = 1 ∧ σ'.1 (10 * m + 8) 0 ≠ 45) ∧ σ'.1 (10 * m + 7) 15 = σ.1 (10 * m + 7) 15 ∧ XC σ σ' m L := by
  intro Q
  induction Q with
  | zero =>
    intro σ τ i p k k' h hoff hp hmt hi hk hk'
    obtain ⟨q1, q2, q3, q4, -⟩ := h.2.2.2.2.1
    obtain ⟨k, rfl⟩ : ∃ z, k = z + 1 := ⟨k - 1, by omega⟩
    obtain ⟨k', rfl⟩ : ∃ z, k' = z + 1 := ⟨k' - 1, by omega⟩
    refine ⟨0, σ, τ, 0, ?_, ?_, h, FrC.rfl' _ _, FrM.rfl' _, Or.inl ⟨rfl, hoff⟩, rfl, XC.rfl' _ _ _⟩
    · rw [lp_X1_startRequest_2_s]
      by_cases c : 8 ≤ nI i
      · rw [if_pos c]
      · rw [if_neg c, rf_2 h.1.m2, ev_oldest hn hb h.1.sh q3 (by omega), sr, if_pos rfl]
        rfl
    · rw [lp_X6_takes_2_s, if_pos i60]
      simp only [rfm_11, c60, q4]
      rw [if_pos ((le_nI (by omega) (by omega)).mpr (by omega))]
  | succ Q ih =>
    intro σ τ i p k k' h hoff hp hmt hi hk hk'
    have hQ := h.2.2.2.2.1
    have hS := h.1
    have hL := hS.lv
    obtain ⟨q1, q2, q3, q4, q5, q6, q7, q8, q9, -⟩ := id hQ
    obtain ⟨k, rfl⟩ : ∃ z, k = z + 1 := ⟨k - 1, by omega⟩
    obtain ⟨-, s1, s2, s3⟩ := sr_spec (mtC σ m) b (Q + 1) 0
    have hq : ∃ q, sr (mtC σ m) b (Q + 1) 0 = q := ⟨_, rfl⟩
    obtain ⟨q, hq⟩ := hq
    rw [hq] at s1 s2 s3
    have hpq : p ≤ q := by
      rcases Nat.lt_or_ge q p with c | c
      · exact absurd (s3 (by omega)) (hmt q c)
      · exact c
    rw [lp_skip n' (σ := σ) hb hQ (q - p) k' p (by omega) (by omega) (fun p0 h1 h2 => s2 p0 (by omega) (by omega)), show p + (q - p) = q by omega]
    obtain ⟨k', e'⟩ : ∃ z, k' - (q - p) = z + 1 := ⟨k' - (q - p) - 1, by omega⟩
    rw [e', lp_X1_startRequest_2_s, if_neg (show ¬ (8 : Int32) ≤ nI i by rw [n8, le_nI (by omega) (by omega)]; omega), rf_2 hS.m2, ev_oldest hn hb hS.sh q3 q1, hq]
    simp only [Option.bind_some]
    by_cases c : q = Q + 1
    · rw [if_pos c]
      refine ⟨0, σ, τ, Q + 1, rfl, ?_, h, FrC.rfl' _ _, FrM.rfl' _, Or.inl ⟨rfl, hoff⟩, rfl, XC.rfl' _ _ _⟩
      rw [lp_X6_takes_2_s, if_pos i60]
      simp only [rfm_11, c60, q4]
      rw [if_pos ((le_nI (by omega) (by omega)).mpr (by omega))]
    · have hqQ : q < Q + 1 := by omega
      have hr := hS.sh.2.2.1 q (by omega)
      obtain ⟨σ1, τ1, f1, f2, f3, f4, f5, f6, f7⟩ := remove_sim hn hn' h hqQ
      rw [Nat.add_sub_cancel] at f3
      obtain ⟨⟨r, r1, r2, r3⟩, g2, g3, ⟨kk, g4, g5, g6, g7⟩, g8, g9, ⟨xx, x1, x2⟩⟩ := q5 q hqQ
      have fr : ∀ b, σ1.1 (rw_ σ m q) b = σ.1 (rw_ σ m q) b := fun b => f6 _ _ (Or.inl (rw_ne hS.sh (by omega) (by omega)))
      have hbb : σ.1 (rw_ σ m q) 1 = 111 ∧ b = 1 ∨ σ.1 (rw_ σ m q) 1 ≠ 111 ∧ b = 0 := by
        have := s3 (by omega)
        unfold mtC at this
        by_cases c : σ.1 (rw_ σ m q) 1 = 111
        · rw [if_pos c] at this
          exact Or.inl ⟨c, this.symm⟩
        · rw [if_neg c] at this
          exact Or.inr ⟨c, this.symm⟩
      rw [if_neg c]
      simp only []
      rw [if_pos (ok_rq hS.m2 hr.1 hr.2), f1]
      simp only [Option.bind_some]
      rw [ev_loadOf n f3.1 g4 g5 (by rw [fr]; exact g6), fr 1, fr 3, ldC_cong (by omega) f6]
      simp only [Option.bind_some]
      rw [take_step n' (a1 := a1') (k := k') hqQ q1 q4 g3 hbb r3 g2.symm g7 rfl (ev_loadOfM n' hS h.2.1 h.2.2.1 g4 g5 _ g8 g9) f2, fr 1, fr 2, fr 0, g6, r2]
      by_cases cl : ldC σ m kk (σ.1 (rw_ σ m q) 1) (σ.1 (rw_ σ m q) 3) ≤ 0
      · rw [if_pos cl, if_pos cl]
        simp only [lm, add1_nI]
        have hoff1 : σ1.1 (10 * m + 8) 0 = 45 := by rw [f6 _ _ (by omega)]; exact hoff
        obtain ⟨r', σ', τ', Q', w1, w2, w3, w4, w5, w6, w7, w8⟩ := ih _ _ (i + 1) q k k' (drop_R f3) (by rw [wi_o (by omega)]; exact hoff1) (by omega) (fun p0 hp0 => by
          have h1 := s2 p0 (by omega) hp0
          have hh := hS.sh.2.2.1 p0 (by omega)
          have e : rw_ σ1 m p0 = rw_ σ m p0 := by rw [f7 p0 (by omega)]; unfold rpi; rw [if_pos hp0]
          unfold mtC at h1 ⊢
          rw [show rw_ (wi σ1 (10 * m + 7) 14 (σ1.1 (10 * m + 7) 14 + 1)) m p0 = rw_ σ1 m p0 from rfl, e, wi_o (Or.inl (rw_ne hS.sh (by omega) (by omega))), f6 _ _ (Or.inl (rw_ne hS.sh (by omega) (by omega)))]
          exact h1) (by omega) (by omega) (by omega)
        refine ⟨r', σ', τ', Q', w1, w2, w3, (f4.trans ⟨fun a b h1 h2 => wi_o (by omega), fun _ _ => rfl⟩).trans w4, (f5.trans ⟨fun a b h1 => wi_o (by omega), rfl⟩).trans w5, w6, ?_, (XC.fr (σ := σ) (fun k b hk hb => by rw [wi_o (by omega), f6 _ _ (by omega)]) (by rw [wi_o (by omega), f6 _ _ (by omega)]) (by rw [wi_o (by omega), f6 _ _ (by omega)]) (by rw [wi_o (by omega), f6 _ _ (by omega)])).trans w8⟩
        rw [w7, wi_o (by omega), f6 _ _ (by omega)]
      · rw [if_neg cl, if_neg cl]
        obtain ⟨σ', τ', w1, w2, w3, w4, w5, w6, w7, w8⟩ := begin_sim n n' (c := σ.1 (rw_ σ m q) 1) (k := kk) (y := ldC σ m kk (σ.1 (rw_ σ m q) 1) (σ.1 (rw_ σ m q) 3)) (q := nI r) f3 (by rw [f6 _ _ (by omega)]; exact hoff) (by
            rcases g3 with e | e | e
            · exact Or.inl e
            · exact Or.inr (Or.inl e)
            · exact Or.inr (Or.inr (Or.inl e))) g4 g5 (by rw [x2] at cl ⊢; exact ld_bd x1 cl) (Int32.not_le.mp cl) (fun e => by rw [f6 _ _ (by omega)]; exact ld_le e cl) (Or.inr ⟨r, r1, rfl⟩) (fun p0 hp0 => by
            have hne := rpi_ne (q := q) (Q := Q + 1) (p := p0) (by omega) hqQ q1
            have hh := hS.sh.2.2.1 (rpi q p0) (by omega)
            rw [f7 p0 (by omega), f6 _ _ (Or.inl (rw_ne hS.sh (by omega) (by omega))), ← r2]
            exact q6 _ _ hne.2 hqQ hne.1) (fun e => by
            rw [f6 _ _ (by omega), ← r2] at e
            exact absurd e.symm (q9 q hqQ).2)
        rw [w1, w2]
        simp only [Option.bind_some]
        refine ⟨1, σ', τ', Q, rfl, rfl, w3, f4.trans w4, f5.trans w5, Or.inr ⟨rfl, ?_⟩, by rw [w7, f6 _ _ (by omega)], (XC.fr (σ := σ) (fun k b hk hb => f6 _ _ (by omega)) (f6 _ _ (by omega)) (f6 _ _ (by omega)) (f6 _ _ (by omega))).trans w8⟩
        rw [w6]
        rcases g3 with e | e | e <;> rw [e] <;> decide
