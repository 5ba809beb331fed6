/-! PURE. the trial is a copy of the mine -/
theorem ev_copyLevel (n : Nat) {σ : Mem} {o o1 : Nat} (hne : o1 ≠ o) (hb : σ.1 o1 4 = 0 ∨ σ.1 o1 4 = 1) : ∃ σ', sp_X0_copyFrom n σ o o1 = some ((), σ') ∧ σ'.2 = σ.2 ∧ (∀ b, b < 11 → σ'.1 o b = σ.1 o1 b) ∧ ∀ a b, a ≠ o → σ'.1 a b = σ.1 a b := by
  have ho : ∀ (σ : Mem) k v b, (wi σ o k v).1 o1 b = σ.1 o1 b := fun σ k v b => wi_o (Or.inl hne)
  unfold sp_X0_copyFrom
  simp only [lm, ho]
  rw [if_pos hb]
  refine ⟨_, rfl, rfl, fun b hb => ?_, fun a b ha => ?_⟩
  · rcases (show b = 0 ∨ b = 1 ∨ b = 2 ∨ b = 3 ∨ b = 4 ∨ b = 5 ∨ b = 6 ∨ b = 7 ∨ b = 8 ∨ b = 9 ∨ b = 10 by omega) with rfl | rfl | rfl | rfl | rfl | rfl | rfl | rfl | rfl | rfl | rfl <;> simp [get_wi]
  · simp [get_wi, ha]
theorem lp_copyRows (n : Nat) {σ0 : Mem} (h0 : ShM σ0 0) (h1 : ShM σ0 1) (hc : ∀ p, p < 8 → 0 ≤ σ0.1 (rw_ σ0 0 p) 1 ∧ σ0.1 (rw_ σ0 0 p) 1 ≤ 65535) {σ1 : Mem} : ∀ (d k p : Nat) (σ : Mem), p + d = 8 → d < k → σ.2 = σ0.2 → (∀ a b, (a < 28 ∨ 35 < a) → σ.1 a b = σ1.1 a b) → (∀ q b, q < 8 → b < 4 → σ1.1 (rw_ σ0 0 q) b = σ0.1 (rw_ σ0 0 q) b) → (∀ q b, q < p → b < 4 → σ.1 (rw_ σ0 1 q) b = σ0.1 (rw_ σ0 0 q) b) →
    ∃ σ', lp_X4_copyFrom_10 n 19 9 k σ (nI p) = some ((), σ') ∧ σ'.2 = σ0.2 ∧ (∀ a b, (a < 28 ∨ 35 < a) → σ'.1 a b = σ1.1 a b) ∧ (∀ q b, q < 8 → b < 4 → σ'.1 (rw_ σ0 1 q) b = σ0.1 (rw_ σ0 0 q) b) := by
  intro d
  induction d with
  | zero =>
    intro k p σ hp hk e2 ef es er
    obtain ⟨k, rfl⟩ : ∃ z, k = z + 1 := ⟨k - 1, by omega⟩
    refine ⟨σ, ?_, e2, ef, fun q b hq hb => er q b (by omega) hb⟩
    rw [lp_X4_copyFrom_10_s, if_pos (show (8 : Int32) ≤ nI p by rw [n8, le_nI (by omega) (by omega)]; omega)]
  | succ d ih =>
    intro k p σ hp hk e2 ef es er
    obtain ⟨k, rfl⟩ : ∃ z, k = z + 1 := ⟨k - 1, by omega⟩
    have r0 := h0.2.2.1 p (by omega)
    have r1 := h1.2.2.1 p (by omega)
    have nle : ¬ (8 : Int32) ≤ nI p := by rw [n8, le_nI (by omega) (by omega)]; omega
    rw [lp_X4_copyFrom_10_s, if_neg nle, if_neg nle]
    have w0 : σ.2 (rf 9 0) (nI p).toNatClampNeg = rw_ σ0 0 p := by rw [nI_cl (by omega), e2]; rfl
    have w1 : σ.2 (rf 19 0) (nI p).toNatClampNeg = rw_ σ0 1 p := by rw [nI_cl (by omega), e2]; rfl
    simp only [w0, w1]
    rw [if_pos ⟨inR_nI (by omega) (by omega), ok_rq h0.1 r0.1 r0.2⟩, if_pos ⟨inR_nI (by omega) (by omega), ok_rq h1.1 r1.1 r1.2⟩]
    have rd : ∀ b, b < 4 → σ.1 (rw_ σ0 0 p) b = σ0.1 (rw_ σ0 0 p) b := fun b hb => by
      rw [ef _ _ (Or.inl (by show σ0.2 (38 + 0) p < 28; omega)), es p b (by omega) hb]
    unfold sp_X2_set
    simp only [lm]
    rw [rd 0 (by omega), rd 1 (by omega), rd 2 (by omega), rd 3 (by omega), if_pos (hc p (by omega))]
    simp only [Option.bind_some, add1_nI]
    refine ih k (p + 1) _ (by omega) (by omega) e2 (fun a b ha => ?_) es (fun q b hq hb => ?_)
    · have : a ≠ rw_ σ0 1 p := by show a ≠ σ0.2 (38 + 1) p; omega
      rw [wi_o (Or.inl this), wi_o (Or.inl this), wi_o (Or.inl this), wi_o (Or.inl this)]
      exact ef a b ha
    · by_cases e : q = p
      · subst e
        rcases (show b = 0 ∨ b = 1 ∨ b = 2 ∨ b = 3 by omega) with rfl | rfl | rfl | rfl <;> simp [get_wi]
      · have : rw_ σ0 1 q ≠ rw_ σ0 1 p := fun he => e (h1.2.2.2 q p (by omega) (by omega) he)
        rw [wi_o (Or.inl this), wi_o (Or.inl this), wi_o (Or.inl this), wi_o (Or.inl this)]
        exact er q b (by omega) hb
/-- σ' is σ with the trial a copy of the mine -/
def CpM (σ σ' : Mem) : Prop := σ'.2 = σ.2 ∧ (∀ k b, k < 7 → b < 11 → σ'.1 (10 + k) b = σ.1 k b) ∧ (∀ b, 4 ≤ b → b < 16 → σ'.1 17 b = σ.1 7 b) ∧ (∀ b, b < 5 → σ'.1 18 b = σ.1 8 b) ∧ σ'.1 19 1 = σ.1 9 1 ∧ (∀ p b, p < 8 → b < 4 → σ'.1 (rw_ σ 1 p) b = σ.1 (rw_ σ 0 p) b) ∧ ∀ a b, (a < 10 ∨ 19 < a) → (a < 28 ∨ 35 < a) → σ'.1 a b = σ.1 a b
theorem lp_copyFrom (n : Nat) (hn : 10 < n) {σ0 : Mem} (h0 : ShM σ0 0) (h1 : ShM σ0 1) (hc : ∀ p, p < 8 → 0 ≤ σ0.1 (rw_ σ0 0 p) 1 ∧ σ0.1 (rw_ σ0 0 p) 1 ≤ 65535) (hb : ∀ k, k < 7 → σ0.1 k 4 = 0 ∨ σ0.1 k 4 = 1) (hk : 0 ≤ σ0.1 8 0 ∧ σ0.1 8 0 ≤ 65535) : ∀ (d k j : Nat) (σ : Mem), j + d = 7 → d < k → σ.2 = σ0.2 → (∀ i b, i < j → b < 11 → σ.1 (10 + i) b = σ0.1 i b) → (∀ a b, (a < 10 ∨ 10 + j ≤ a) → σ.1 a b = σ0.1 a b) →
    ∃ σ', lp_X1_copyFrom_2 n 17 7 k σ (nI j) = some ((), σ') ∧ CpM σ0 σ' := by
  intro d
  induction d with
  | zero =>
    intro k j σ hj hk2 e2 el eo
    obtain ⟨k, rfl⟩ : ∃ z, k = z + 1 := ⟨k - 1, by omega⟩
    rw [lp_X1_copyFrom_2_s, if_pos (show (7 : Int32) ≤ nI j by rw [n7, le_nI (by omega) (by omega)]; omega)]
    have es : (rf 17 2) = 19 ∧ rf 7 2 = 9 ∧ rf 17 3 = 18 ∧ rf 7 3 = 8 := ⟨rfl, rfl, rfl, rfl⟩
    rw [es.1, es.2.1, es.2.2.1, es.2.2.2]
    have rows : ∀ p b, p < 8 → b < 4 → (wi σ 19 1 (σ.1 9 1)).1 (rw_ σ0 0 p) b = σ0.1 (rw_ σ0 0 p) b := fun p b hp _ => by
      have r0 := h0.2.2.1 p hp
      rw [wi_o (Or.inl (by show σ0.2 (38 + 0) p ≠ _; omega)), eo _ _ (Or.inr (by show _ ≤ σ0.2 (38 + 0) p; omega))]
    obtain ⟨σ1, f0, f1, f2, f3⟩ := lp_copyRows n h0 h1 hc (σ1 := wi σ 19 1 (σ.1 9 1)) 8 n 0 (wi σ 19 1 (σ.1 9 1)) (by omega) (by omega) e2 (fun _ _ _ => rfl) rows (fun q b hq => by omega)
    have f0' : sp_X4_copyFrom n σ 19 9 = some ((), σ1) := f0
    rw [f0']
    simp only [Option.bind_some]
    have g8 : ∀ b, σ1.1 8 b = σ0.1 8 b := fun b => by rw [f2 _ _ (by omega), wi_o (by omega), eo _ _ (by omega)]
    have g7 : ∀ b, σ1.1 7 b = σ0.1 7 b := fun b => by rw [f2 _ _ (by omega), wi_o (by omega), eo _ _ (by omega)]
    unfold sp_X3_copyFrom sp_X3_set
    rw [g8 0, if_pos hk]
    simp only [lm, Option.bind_some]
    have p7 : ∀ (σ : Mem) k v b, (wi σ 17 k v).1 7 b = σ.1 7 b := fun σ k v b => wi_o (by omega)
    have p78 : ∀ (σ : Mem) k v b, (wi σ 18 k v).1 7 b = σ.1 7 b := fun σ k v b => wi_o (by omega)
    simp only [p7, p78, g7, g8]
    refine ⟨_, rfl, f1, fun i b hi hb => ?_, fun b b1 b2 => ?_, fun b hb => ?_, ?_, fun p b hp hb => ?_, fun a b q1 q2 => ?_⟩
    · have : ∀ (σ : Mem) k v, (wi σ 17 k v).1 (10 + i) b = σ.1 (10 + i) b := fun σ k v => wi_o (by omega)
      simp only [this]
      have : ∀ (σ : Mem) k v, (wi σ 18 k v).1 (10 + i) b = σ.1 (10 + i) b := fun σ k v => wi_o (by omega)
      simp only [this]
      rw [f2 _ _ (by omega), wi_o (by omega)]
      exact el i b (by omega) hb
    · rcases (show b = 4 ∨ b = 5 ∨ b = 6 ∨ b = 7 ∨ b = 8 ∨ b = 9 ∨ b = 10 ∨ b = 11 ∨ b = 12 ∨ b = 13 ∨ b = 14 ∨ b = 15 by omega) with rfl | rfl | rfl | rfl | rfl | rfl | rfl | rfl | rfl | rfl | rfl | rfl <;> simp [get_wi]
    · have : ∀ (σ : Mem) k v, (wi σ 17 k v).1 18 b = σ.1 18 b := fun σ k v => wi_o (by omega)
      simp only [this]
      rcases (show b = 0 ∨ b = 1 ∨ b = 2 ∨ b = 3 ∨ b = 4 by omega) with rfl | rfl | rfl | rfl | rfl <;> simp [get_wi]
    · have : ∀ (σ : Mem) k v, (wi σ 17 k v).1 19 1 = σ.1 19 1 := fun σ k v => wi_o (by omega)
      simp only [this]
      have : ∀ (σ : Mem) k v, (wi σ 18 k v).1 19 1 = σ.1 19 1 := fun σ k v => wi_o (by omega)
      simp only [this]
      rw [f2 _ _ (by omega), wi_eq rfl rfl, eo _ _ (by omega)]
    · have r1 := h1.2.2.1 p hp
      have hq : ∀ j, j < 28 → rw_ σ0 1 p ≠ j := fun j hj => by show σ0.2 (38 + 1) p ≠ j; omega
      have : ∀ (σ : Mem) k v, (wi σ 17 k v).1 (rw_ σ0 1 p) b = σ.1 (rw_ σ0 1 p) b := fun σ k v => wi_o (Or.inl (hq _ (by omega)))
      simp only [this]
      have : ∀ (σ : Mem) k v, (wi σ 18 k v).1 (rw_ σ0 1 p) b = σ.1 (rw_ σ0 1 p) b := fun σ k v => wi_o (Or.inl (hq _ (by omega)))
      simp only [this]
      exact f3 p b hp hb
    · have : ∀ (σ : Mem) k v, (wi σ 17 k v).1 a b = σ.1 a b := fun σ k v => wi_o (by omega)
      simp only [this]
      have : ∀ (σ : Mem) k v, (wi σ 18 k v).1 a b = σ.1 a b := fun σ k v => wi_o (by omega)
      simp only [this]
      rw [f2 _ _ q2, wi_o (by omega), eo _ _ (by omega)]
  | succ d ih =>
    intro k j σ hj hk2 e2 el eo
    obtain ⟨k, rfl⟩ : ∃ z, k = z + 1 := ⟨k - 1, by omega⟩
    have nle : ¬ (7 : Int32) ≤ nI j := by rw [n7, le_nI (by omega) (by omega)]; omega
    have w0 : σ.2 (rf 7 1) (nI j).toNatClampNeg = j := by rw [nI_cl (by omega), e2, show rf 7 1 = 36 + 0 from rfl, h0.2.1 j (by omega), Nat.mul_zero, Nat.zero_add]
    have w1 : σ.2 (rf 17 1) (nI j).toNatClampNeg = 10 + j := by rw [nI_cl (by omega), e2, show rf 17 1 = 36 + 1 from rfl, h1.2.1 j (by omega)]
    obtain ⟨σ1, f0, f1, f2, f3⟩ := ev_copyLevel n (σ := σ) (o := 10 + j) (o1 := j) (by omega) (by rw [eo _ _ (by omega)]; exact hb j (by omega))
    rw [lp_X1_copyFrom_2_s, if_neg nle, if_neg nle]
    simp only [w0, w1]
    rw [if_pos ⟨inR_nI (by omega) (by omega), ok_lv (m := 1) (by omega) (by omega)⟩, if_pos ⟨inR_nI (by omega) (by omega), by have := ok_lv (m := 0) (k := j) (by omega) (by omega); rwa [Nat.mul_zero, Nat.zero_add] at this⟩, f0]
    simp only [Option.bind_some, add1_nI]
    refine ih k (j + 1) σ1 (by omega) (by omega) (f1.trans e2) (fun i b hi hb => ?_) (fun a b ha => ?_)
    · by_cases e : i = j
      · rw [e, f2 b hb, eo _ _ (by omega)]
      · rw [f3 _ _ (by omega)]
        exact el i b (by omega) hb
    · rw [f3 _ _ (by omega)]
      exact eo a b (by omega)
theorem copy_sim {n : Nat} (hn : 10 < n) {σ τ : Mem} {L : Nat} {W : Nat → Nat} {u N Q : Nat} (h : RR σ τ 0 L W u N Q) (h1 : ShM σ 1) : ∃ σ', sp_X1_copyFrom n σ 17 7 = some ((), σ') ∧ RR σ' τ 1 L W u N Q ∧ FrC σ σ' 1 ∧ σ'.2 = σ.2 := by
  obtain ⟨hS, hG, hK, hT, hQ, hP, hB⟩ := h
  have hL := hS.lv
  obtain ⟨q1, q2, q3, q4, q5, q6, q7, q8, q9, q10, q11⟩ := id hQ
  have hk : 0 ≤ σ.1 8 0 ∧ σ.1 8 0 ≤ 65535 := kd_ch hT.2.2.1
  obtain ⟨σ', e0, c2, cl, cm, ct, cw, cr, co⟩ := lp_copyFrom n hn hS.sh h1 q11 (fun k hk => by
    have := hS.2.2.2.2.2.2.2.2.2.2.2.2.2 k hk
    rwa [Nat.mul_zero, Nat.zero_add] at this) hk 7 n 0 σ (by omega) (by omega) rfl (fun i b hi => by omega) (fun _ _ _ => rfl)
  have cl' : ∀ k b, k ≤ 6 → b < 11 → σ'.1 (10 * 1 + k) b = σ.1 (10 * 0 + k) b := fun k b k1 b1 => by
    rw [Nat.mul_zero, Nat.zero_add]
    exact cl k b (by omega) b1
  have cr' : ∀ p b, p < 8 → b < 4 → σ'.1 (rw_ σ' 1 p) b = σ.1 (rw_ σ 0 p) b := fun p b hp hb => by
    rw [show rw_ σ' 1 p = rw_ σ 1 p by unfold rw_; rw [c2]]
    exact cr p b hp hb
  refine ⟨σ', e0, ⟨hS.to (h1.to c2) (fun k b k1 b1 => cl' k b k1 (by omega)) (fun b b1 b2 => cm b b1 (by omega)) (fun _ _ _ => rfl), hG.to (fun k b k1 b1 b2 => cl' k b k1 (by omega)) (fun _ _ => rfl), hK.to (fun b b1 b2 => cm b (by omega) (by omega)) (fun _ _ => rfl) rfl, hT.to (fun b hb => ct b hb) (cm 15 (by omega) (by omega)) (fun _ _ _ => rfl) rfl, hQ.to cw cr' (cm 15 (by omega) (by omega)) (ct 4 (by omega)) (fun _ _ _ => rfl), hP.to hL (fun k k1 => cl' k 8 k1 (by omega)) (onT_cong (ct 0 (by omega)) (ct 2 (by omega))) rfl, hB.to hL (fun k k1 => cl' k 7 k1 (by omega)) (cm 9 (by omega) (by omega)) (cm 10 (by omega) (by omega))⟩, ⟨fun a b h1 h2 => co a b (by omega) (by omega), fun _ _ => by rw [c2]⟩, c2⟩
