/-! PURE. the end of a trip; ticks -/
theorem to_lt {c : Int32} {k : Nat} (h : k < 7) : to_ c k < 7 := by have := to_le c k; omega
theorem ev_endCore (n : Nat) {σ : Mem} {m t : Nat} {c y q : Int32} (hm : ShM σ m) (hc : kd4 c) (ht : t < 7) (h0 : σ.1 (10 * m + 8) 0 = c) (h2 : σ.1 (10 * m + 8) 2 = y) (h4 : σ.1 (10 * m + 8) 4 = q) :
    ∃ σ', (lm (wi σ (10 * m + 7) 12 (nI t)) fun σ2 => ((sp_X1_place n σ2 (10 * m + 7) ((σ2.1 (10 * m + 7) 12))).bind fun q => match q with | (r4, σ5) => if Ok r4 0 then ((sp_X1_carry n σ5 r4 ((σ5.1 (rf (10 * m + 7) 3) 0)) ((σ5.1 (rf (10 * m + 7) 3) 2))).bind fun q => match q with | (_, σ9) => (lm (wi σ9 (10 * m + 7) 15 (σ9.1 (rf (10 * m + 7) 3) 4)) fun σ11 => (lm (wi σ11 (10 * m + 7) 13 ((σ11.1 (10 * m + 7) 13) + 1)) fun σ13 => ((sp_X3_clear n σ13 ((rf (10 * m + 7) 3))).bind fun q => match q with | (_, σ16) => some ((), σ16))))) else none)) = some ((), σ') ∧ σ'.2 = σ.2 ∧
      σ'.1 (10 * m + 7) 12 = nI t ∧ σ'.1 (10 * m + t) (slC c) = σ.1 (10 * m + t) (slC c) + y ∧ σ'.1 (10 * m + 7) 15 = q ∧ σ'.1 (10 * m + 7) 13 = σ.1 (10 * m + 7) 13 + 1 ∧ σ'.1 (10 * m + 8) 0 = 45 ∧ σ'.1 (10 * m + 8) 2 = 0 ∧ σ'.1 (10 * m + 8) 4 = -1 ∧
      ∀ a b, (a ≠ 10 * m + 7 ∨ (b ≠ 12 ∧ b ≠ 13 ∧ b ≠ 15)) → (a ≠ 10 * m + t ∨ b ≠ slC c) → a ≠ 10 * m + 8 → σ'.1 a b = σ.1 a b := by
  have hsl := slC_le c
  simp only [lm]
  rw [wi_eq rfl rfl, ev_place n (show ShM (wi σ (10 * m + 7) 12 (nI t)) m from hm.to rfl) ht]
  simp only [Option.bind_some]
  rw [if_pos (ok_lv hm.1 ht), rf_3 hm.1, wi_o (a := 10 * m + 8) (by omega), wi_o (a := 10 * m + 8) (by omega), h0, h2, ev_carry]
  simp only [Option.bind_some]
  unfold sp_X3_clear
  rw [ev_set n _ _ (Or.inl rfl)]
  simp only [Option.bind_some]
  refine ⟨_, rfl, rfl, ?_, ?_, ?_, ?_, ?_, ?_, ?_, fun a b g1 g2 g3 => ?_⟩
  · rw [wi_o (by omega), wi_o (by omega), wi_o (by omega), wi_o (by omega), wi_o (by omega), wi_o (by omega), wi_o (by omega), wi_o (by omega), wi_eq rfl rfl]
  · rw [wi_o (by omega), wi_o (by omega), wi_o (by omega), wi_o (by omega), wi_o (by omega), wi_o (by omega), wi_o (by omega), wi_eq rfl rfl, wi_o (by omega)]
  · rw [wi_o (by omega), wi_o (by omega), wi_o (by omega), wi_o (by omega), wi_o (by omega), wi_o (by omega), wi_eq rfl rfl, wi_o (by omega), wi_o (by omega)]
    exact h4
  · rw [wi_o (by omega), wi_o (by omega), wi_o (by omega), wi_o (by omega), wi_o (by omega), wi_eq rfl rfl, wi_o (by omega), wi_o (by omega), wi_o (by omega)]
  · rw [wi_o (by omega), wi_o (by omega), wi_o (by omega), wi_o (by omega), wi_eq rfl rfl]
  · rw [wi_o (by omega), wi_o (by omega), wi_eq rfl rfl]
  · rw [wi_eq rfl rfl]
  · rw [wi_o (by omega), wi_o (by omega), wi_o (by omega), wi_o (by omega), wi_o (by omega), wi_o (by omega), wi_o (by omega), wi_o (by omega), wi_o (by omega)]
theorem ev_endTrip (n : Nat) {σ : Mem} {m k : Nat} {c y q : Int32} (hm : ShM σ m) (hc : kd4 c) (hk : k < 7) (h0 : σ.1 (10 * m + 8) 0 = c) (h1 : σ.1 (10 * m + 8) 1 = nI k) (h2 : σ.1 (10 * m + 8) 2 = y) (h4 : σ.1 (10 * m + 8) 4 = q) :
    ∃ σ', sp_X1_endTrip n σ (10 * m + 7) = some ((), σ') ∧ σ'.2 = σ.2 ∧
      σ'.1 (10 * m + 7) 12 = nI (to_ c k) ∧ σ'.1 (10 * m + to_ c k) (slC c) = σ.1 (10 * m + to_ c k) (slC c) + y ∧ σ'.1 (10 * m + 7) 15 = q ∧ σ'.1 (10 * m + 7) 13 = σ.1 (10 * m + 7) 13 + 1 ∧ σ'.1 (10 * m + 8) 0 = 45 ∧ σ'.1 (10 * m + 8) 2 = 0 ∧ σ'.1 (10 * m + 8) 4 = -1 ∧
      ∀ a b, (a ≠ 10 * m + 7 ∨ (b ≠ 12 ∧ b ≠ 13 ∧ b ≠ 15)) → (a ≠ 10 * m + to_ c k ∨ b ≠ slC c) → a ≠ 10 * m + 8 → σ'.1 a b = σ.1 a b := by
  have key := ev_endCore n hm hc (to_lt (c := c) hk) h0 h2 h4
  unfold sp_X1_endTrip
  rw [rf_3 hm.1, h0, h1]
  rw [rf_3 hm.1] at key
  by_cases h : c = 100
  · rw [if_pos h]
    rw [show to_ c k = k from if_pos h] at key ⊢
    exact key
  · rw [if_neg h]
    rw [show to_ c k = 0 from if_neg h] at key ⊢
    exact key
/-- the model's memory behind ends -/
def enM (τ : Mem) (c : Int32) (t : Nat) : Mem := wi (wi (wi (wi (wi τ 47 (slM c + t) (τ.1 47 (slM c + t) + τ.1 47 65)) 47 62 (nI t)) 47 63 45) 47 67 (-1)) 47 68 (τ.1 47 68 + 1)
theorem ev_ends23 (n : Nat) {τ : Mem} {t : Nat} {c : Int32} (ht : t < 7) (h0 : τ.1 47 63 = c) : lp_X6_ends_23 n 41 τ (nI t) = some ((), enM τ c t) := by
  unfold lp_X6_ends_23 lp_X6_ends_47
  rw [if_pos i63]
  simp only [lm, rfm_11, ix62, ix63, ix65, ix67, ix68]
  rw [h0]
  unfold enM slM
  by_cases h : c = 111
  · rw [if_pos h, if_pos h, ix14, if_pos (inR_nI (by omega) (by omega)), if_pos i65, if_pos (inR_nI (by omega) (by omega)), if_pos i62, if_pos i63, if_pos i67, if_pos i68, if_pos i68]
    simp only [nI_cl (show 14 + t < 100000 by omega)]
    rw [wi_o (a := 47) (b := 68) (by omega), wi_o (a := 47) (b := 68) (by omega), wi_o (a := 47) (b := 68) (by omega), wi_o (a := 47) (b := 68) (by omega)]
  · rw [if_neg h, if_neg h, ix7, if_pos (inR_nI (by omega) (by omega)), if_pos i65, if_pos (inR_nI (by omega) (by omega)), if_pos i62, if_pos i63, if_pos i67, if_pos i68, if_pos i68]
    simp only [nI_cl (show 7 + t < 100000 by omega)]
    rw [wi_o (a := 47) (b := 68) (by omega), wi_o (a := 47) (b := 68) (by omega), wi_o (a := 47) (b := 68) (by omega), wi_o (a := 47) (b := 68) (by omega)]
theorem ev_ends (n : Nat) {τ : Mem} {k : Nat} {c : Int32} (hk : k < 7) (h0 : τ.1 47 63 = c) (h1 : τ.1 47 64 = nI k) : sp_X6_ends n τ 41 = some ((), enM τ c (to_ c k)) := by
  unfold sp_X6_ends
  rw [if_pos i63]
  simp only [rfm_11, ix63, ix64]
  rw [h0, h1]
  by_cases h : c = 100
  · rw [if_pos h, if_pos i64, show to_ c k = k from if_pos h]
    exact ev_ends23 n hk h0
  · rw [if_neg h, show to_ c k = 0 from if_neg h]
    exact ev_ends23 n (t := 0) (by omega) h0
theorem end_R {σ τ σ1 τ1 σ' τ' : Mem} {m L : Nat} {W : Nat → Nat} {u N Q k : Nat} {c : Int32} (h : RR σ τ m L W u N Q) (hc : kd4 c) (hk1 : 1 ≤ k) (hk2 : k ≤ L) (h0 : σ.1 (10 * m + 8) 0 = c)
    (f1 : ∀ a b, (a ≠ 10 * m + 8 ∨ b ≠ 3) → σ1.1 a b = σ.1 a b) (f2 : ∀ a b, (a ≠ 47 ∨ b ≠ 66) → τ1.1 a b = τ.1 a b) (e2 : σ'.2 = σ.2)
    (g12 : σ'.1 (10 * m + 7) 12 = nI (to_ c k)) (gs : σ'.1 (10 * m + to_ c k) (slC c) = σ1.1 (10 * m + to_ c k) (slC c) + σ1.1 (10 * m + 8) 2) (g15 : σ'.1 (10 * m + 7) 15 = σ1.1 (10 * m + 8) 4) (g13 : σ'.1 (10 * m + 7) 13 = σ1.1 (10 * m + 7) 13 + 1) (t0 : σ'.1 (10 * m + 8) 0 = 45) (t2 : σ'.1 (10 * m + 8) 2 = 0) (t4 : σ'.1 (10 * m + 8) 4 = -1)
    (go : ∀ a b, (a ≠ 10 * m + 7 ∨ (b ≠ 12 ∧ b ≠ 13 ∧ b ≠ 15)) → (a ≠ 10 * m + to_ c k ∨ b ≠ slC c) → a ≠ 10 * m + 8 → σ'.1 a b = σ1.1 a b) (em : τ' = enM τ1 c (to_ c k)) : RR σ' τ' m L W u N Q := by
  obtain ⟨hS, hG, hK, hT, hQ, hP, hB⟩ := h
  have hL := hS.lv
  have ht := to_le c k
  have hsl := slC_le c
  have hne := kd_ne hc
  have hsm : slM c = 7 ∨ slM c = 14 := by unfold slM; split <;> simp
  generalize to_ c k = t at *
  rw [f1 _ _ (by omega), f1 _ _ (by omega)] at gs
  rw [f1 _ _ (by omega)] at g15
  rw [f1 _ _ (by omega)] at g13
  have eo : ∀ a b, (a ≠ 10 * m + 7 ∨ (b ≠ 12 ∧ b ≠ 13 ∧ b ≠ 15)) → (a ≠ 10 * m + t ∨ b ≠ slC c) → a ≠ 10 * m + 8 → σ'.1 a b = σ.1 a b := fun a b q1 q2 q3 => by rw [go a b q1 q2 q3, f1 a b (by omega)]
  have hon := hT.2.2.2.2 (by rw [h0]; exact hne)
  have hload : σ.1 (10 * m + 8) 2 = τ.1 47 65 := by
    obtain ⟨y, -, y1, y2⟩ := hon.2.1
    rw [y1, y2]
  have mo : ∀ a b, (a ≠ 47 ∨ (b ≠ 62 ∧ b ≠ 63 ∧ b ≠ 66 ∧ b ≠ 67 ∧ b ≠ 68 ∧ b ≠ slM c + t)) → τ'.1 a b = τ.1 a b := by
    intro a b hab
    rw [em]
    unfold enM
    rw [wi_o (by omega), wi_o (by omega), wi_o (by omega), wi_o (by omega), wi_o (by omega), f2 a b (by omega)]
  have ms : τ'.1 47 (slM c + t) = τ.1 47 (slM c + t) + σ.1 (10 * m + 8) 2 := by
    rw [em]
    unfold enM
    rw [wi_o (by omega), wi_o (by omega), wi_o (by omega), wi_o (by omega), wi_eq rfl rfl, f2 _ _ (by omega), f2 47 65 (by omega), hload]
  have m62 : τ'.1 47 62 = nI t := by
    rw [em]
    unfold enM
    rw [wi_o (by omega), wi_o (by omega), wi_o (by omega), wi_eq rfl rfl]
  have m63 : τ'.1 47 63 = 45 := by
    rw [em]
    unfold enM
    rw [wi_o (by omega), wi_o (by omega), wi_eq rfl rfl]
  have m67 : τ'.1 47 67 = -1 := by
    rw [em]
    unfold enM
    rw [wi_o (by omega), wi_eq rfl rfl]
  have m68 : τ'.1 47 68 = τ.1 47 68 + 1 := by
    rw [em]
    unfold enM
    rw [wi_eq rfl rfl, f2 _ _ (by omega)]
  refine ⟨?_, ?_, ?_, ?_, ?_, ?_, ?_⟩
  · exact hS.to (hS.sh.to e2) (fun k b k1 b1 => eo _ _ (by omega) (by omega) (by omega)) (fun b b1 b2 => eo _ _ (by omega) (by omega) (by omega)) (fun a b hab => mo a b (by omega))
  · intro i hi
    obtain ⟨g1, g2, g3, g4⟩ := hG i hi
    rw [eo _ 7 (by omega) (by omega) (by omega), eo _ 10 (by omega) (by omega) (by omega), mo 47 i (by omega), mo 47 (21 + i) (by omega)]
    refine ⟨g1, ?_, ?_, g4⟩
    · by_cases e : c = 111
      · rw [eo _ 8 (by omega) (by unfold slC; rw [if_pos e]; omega) (by omega), mo 47 (7 + i) (by unfold slM; rw [if_pos e]; omega)]
        exact g2
      · by_cases ei : i = t
        · subst ei
          have a1 : slC c = 8 := if_neg e
          have a2 : slM c = 7 := if_neg e
          rw [a1] at gs
          rw [a2] at ms
          rw [gs, ms, g2]
        · rw [eo _ 8 (by omega) (by omega) (by omega), mo 47 (7 + i) (by unfold slM; rw [if_neg e]; omega)]
          exact g2
    · by_cases e : c = 111
      · by_cases ei : i = t
        · subst ei
          have a1 : slC c = 9 := if_pos e
          have a2 : slM c = 14 := if_pos e
          rw [a1] at gs
          rw [a2] at ms
          rw [gs, ms, g3]
        · rw [eo _ 9 (by omega) (by omega) (by omega), mo 47 (14 + i) (by unfold slM; rw [if_pos e]; omega)]
          exact g3
      · rw [eo _ 9 (by omega) (by unfold slC; rw [if_neg e]; omega) (by omega), mo 47 (14 + i) (by unfold slM; rw [if_neg e]; omega)]
        exact g3
  · obtain ⟨k1, k2, k3, k4, k5, k6, k7, k8⟩ := hK
    refine ⟨?_, ?_, ?_, ?_, ?_, ⟨t, by omega, g12, m62⟩, by rw [g13, m68, k7], ?_⟩
    · rw [eo _ _ (by omega) (by omega) (by omega), mo _ _ (by omega)]; exact k1
    · rw [eo _ _ (by omega) (by omega) (by omega), mo _ _ (by omega)]; exact k2
    · rw [eo _ _ (by omega) (by omega) (by omega), mo _ _ (by omega)]; exact k3
    · rw [eo _ _ (by omega) (by omega) (by omega)]; exact k4
    · rw [mo _ _ (by omega)]; exact k5
    · rw [eo _ _ (by omega) (by omega) (by omega), mo _ _ (by omega)]; exact k8
  · unfold RT
    rw [t0, t2, t4, m63, m67, g15, mo 47 72 (by omega), hon.2.2.2]
    exact ⟨rfl, rfl, Or.inl rfl, fun _ => ⟨rfl, rfl, rfl⟩, fun q => absurd rfl q⟩
  · obtain ⟨a1, a2, a3, a4, a5, a6, a7, a8, a9, a10, a11⟩ := hQ
    have er : ∀ p b, p < 8 → σ'.1 (rw_ σ' m p) b = σ.1 (rw_ σ m p) b := by
      intro p b hp
      have hh := hS.sh.2.2.1 p hp
      have hm2 := hS.m2
      show σ'.1 (σ'.2 (38 + m) p) b = _
      rw [e2, eo _ _ (by omega) (by omega) (by omega)]
    refine ⟨a1, a2, by rw [eo _ _ (by omega) (by omega) (by omega)]; exact a3, by rw [mo _ _ (by omega)]; exact a4, fun p hp => ?_, fun p q hp hq => ?_, by rw [t4]; exact Or.inl rfl, by rw [g15]; exact a7, fun p hp => ?_, ?_, fun p hp => ?_⟩
    · rw [er p 0 (by omega), er p 1 (by omega), er p 2 (by omega), er p 3 (by omega), mo 47 (28 + 4 * p) (by omega), mo 47 (29 + 4 * p) (by omega), mo 47 (30 + 4 * p) (by omega), mo 47 (31 + 4 * p) (by omega)]
      exact a5 p hp
    · rw [er p 0 (by omega), er q 0 (by omega)]
      exact a6 p q hp hq
    · rw [er p 0 (by omega), t4, g15]
      refine ⟨?_, (a9 p hp).1⟩
      obtain ⟨⟨r, r1, r2, -⟩, -⟩ := a5 p hp
      rw [r2]
      intro e
      have := nI_pos (n := r) (by omega)
      rw [e] at this
      exact this (by decide)
    · rw [t4]
      exact fun e => e
    · rw [er p 1 hp]
      exact a11 p hp
  · rw [RP_iff] at hP ⊢
    have on0 : onT σ m = if c = 111 then 0 else σ.1 (10 * m + 8) 2 := by
      unfold onT
      rw [h0]
    have on1 : onT σ' m = 0 := by
      unfold onT
      rw [t0, t2, if_neg (by decide)]
    rw [mo 41 10 (by omega), ← hP.1, on0, on1]
    by_cases e : c = 111
    · have a1 : slC c = 9 := if_pos e
      rw [if_pos e]
      exact ⟨ppl_cong (fun i hi => eo _ _ (by omega) (by omega) (by omega)), fun i i1 i2 => by rw [eo _ _ (by omega) (by omega) (by omega)]; exact hP.2 i i1 i2⟩
    · have a1 : slC c = 8 := if_neg e
      rw [if_neg e]
      rw [a1] at gs
      exact ⟨ppl_upd (i := t) (d := -σ.1 (10 * m + 8) 2) (fun i hi hi2 => eo _ _ (by omega) (by omega) (by omega)) (by rw [Int32.neg_neg]; exact gs) (Int32.add_right_neg _).symm (by omega), fun i i1 i2 => by rw [eo _ _ (by omega) (by omega) (by omega)]; exact hP.2 i i1 i2⟩
  · exact hB.to hL (fun k k1 => eo _ _ (by omega) (by omega) (by omega)) (eo _ _ (by omega) (by omega) (by omega)) (eo _ _ (by omega) (by omega) (by omega))
theorem tick_R {σ τ : Mem} {m L : Nat} {W : Nat → Nat} {u N Q : Nat} (h : RR σ τ m L W u N Q) : RR (wi σ (10 * m + 7) 8 (σ.1 (10 * m + 7) 8 + 1)) (wi τ 47 61 (τ.1 47 61 + 1)) m L W u N Q := by
  obtain ⟨hS, hG, hK, hT, hQ, hP, hB⟩ := h
  have hL := hS.lv
  have hm2 := hS.m2
  refine ⟨hS.to (hS.sh.to rfl) (fun k b k1 b1 => wi_o (by omega)) (fun b b1 b2 => wi_o (by omega)) (fun a b hab => wi_o (by omega)), hG.to (fun k b k1 b1 b2 => wi_o (by omega)) (fun b hb => wi_o (by omega)), ?_, hT.to (fun b hb => wi_o (by omega)) (wi_o (by omega)) (fun b b1 b2 => wi_o (by omega)) (wi_o (by omega)), hQ.to (wi_o (by omega)) (fun p b hp hb => ?_) (wi_o (by omega)) (wi_o (by omega)) (fun b b1 b2 => wi_o (by omega)), hP.to hL (fun k k1 => wi_o (by omega)) (onT_cong (wi_o (by omega)) (wi_o (by omega))) (wi_o (by omega)), hB.to hL (fun k k1 => wi_o (by omega)) (wi_o (by omega)) (wi_o (by omega))⟩
  · obtain ⟨k1, k2, k3, k4, k5, k6, k7, k8⟩ := hK
    unfold RK
    rw [wi_eq rfl rfl, wi_eq rfl rfl, wi_o (by omega), wi_o (by omega), wi_o (by omega), wi_o (by omega), wi_o (by omega), wi_o (by omega), wi_o (by omega), wi_o (by omega), wi_o (by omega), wi_o (by omega), wi_o (by omega), wi_o (by omega), k1]
    exact ⟨rfl, k2, k3, k4, k5, k6, k7, k8⟩
  · have hh := hS.sh.2.2.1 p hp
    exact wi_o (Or.inl (by show σ.2 (38 + m) p ≠ _; omega))
theorem rest_R {σ τ : Mem} {m L : Nat} {W : Nat → Nat} {u N Q z : Nat} (h : RR σ τ m L W u N Q) (hon : σ.1 (10 * m + 8) 0 ≠ 45) (hz : 1 ≤ z) (hz2 : z ≤ 10000) : RR (wi σ (10 * m + 8) 3 (nI z)) (wi τ 47 66 (nI z)) m L W u N Q := by
  obtain ⟨hS, hG, hK, hT, hQ, hP, hB⟩ := h
  have hL := hS.lv
  have hm2 := hS.m2
  refine ⟨hS.to (hS.sh.to rfl) (fun k b k1 b1 => wi_o (by omega)) (fun b b1 b2 => wi_o (by omega)) (fun a b hab => wi_o (by omega)), hG.to (fun k b k1 b1 b2 => wi_o (by omega)) (fun b hb => wi_o (by omega)), hK.to (fun b b1 b2 => wi_o (by omega)) (fun b hb => wi_o (by omega)) (wi_o (by omega)), ?_, hQ.to (wi_o (by omega)) (fun p b hp hb => ?_) (wi_o (by omega)) (wi_o (by omega)) (fun b b1 b2 => wi_o (by omega)), hP.to hL (fun k k1 => wi_o (by omega)) (onT_cong (wi_o (by omega)) (wi_o (by omega))) (wi_o (by omega)), hB.to hL (fun k k1 => wi_o (by omega)) (wi_o (by omega)) (wi_o (by omega))⟩
  · obtain ⟨t1, t2, t3, t4, t5⟩ := hT
    obtain ⟨q1, q2, q3, q4⟩ := t5 hon
    unfold RT
    rw [wi_eq rfl rfl, wi_eq rfl rfl, wi_o (by omega), wi_o (by omega), wi_o (by omega), wi_o (by omega), wi_o (by omega), wi_o (by omega), wi_o (by omega), wi_o (by omega), wi_o (by omega), wi_o (by omega)]
    exact ⟨t1, t2, t3, fun q => absurd q hon, fun _ => ⟨q1, q2, ⟨z, hz, hz2, rfl, rfl⟩, q4⟩⟩
  · have hh := hS.sh.2.2.1 p hp
    exact wi_o (Or.inl (by show σ.2 (38 + m) p ≠ _; omega))
