/-! PURE. gas in a minute, of either system -/
/-- what the air takes of g -/
def tkG (g air size : Int32) : Int32 := (g * (if size < air then size else air)) / size
theorem ev_gasTaken (n : Nat) {σ : Mem} {o z : Nat} (h1 : 1 ≤ z) (h2 : z ≤ 500) (hz : σ.1 o 1 = nI z) : sp_X0_gasTaken n σ o = some (tkG (σ.1 o 7) (σ.1 o 5) (σ.1 o 1), σ) := by
  unfold sp_X0_gasTaken tkG
  rw [if_neg (by rw [hz, n0, le_nI (by omega) (by omega)]; omega), if_pos (by rw [hz, n0, eq_nI (by omega) (by omega)]; omega)]
theorem ev_moveGas (n : Nat) {σ : Mem} {m k z : Nat} (hk : k ≤ 6) (h1 : 1 ≤ z) (h2 : z ≤ 500) (hz : σ.1 (10 * m + k) 1 = nI z) :
    ∃ σ', sp_X1_moveGas n σ (10 * m + 7) (10 * m + k) = some ((), σ') ∧ σ'.2 = σ.2 ∧
      σ'.1 (10 * m + k) 7 = σ.1 (10 * m + k) 7 + σ.1 (10 * m + k) 3 - tkG (σ.1 (10 * m + k) 7 + σ.1 (10 * m + k) 3) (σ.1 (10 * m + k) 5) (σ.1 (10 * m + k) 1) ∧
      σ'.1 (10 * m + 7) 9 = σ.1 (10 * m + 7) 9 + σ.1 (10 * m + k) 3 ∧
      σ'.1 (10 * m + 7) 10 = σ.1 (10 * m + 7) 10 + tkG (σ.1 (10 * m + k) 7 + σ.1 (10 * m + k) 3) (σ.1 (10 * m + k) 5) (σ.1 (10 * m + k) 1) ∧
      ∀ a b, (a ≠ 10 * m + k ∨ b ≠ 7) → (a ≠ 10 * m + 7 ∨ (b ≠ 9 ∧ b ≠ 10)) → σ'.1 a b = σ.1 a b := by
  unfold sp_X1_moveGas sp_X1_letGasIn
  simp only [lm, Option.bind_some]
  rw [ev_gasTaken n h1 h2 (z := z) (by rw [wi_o (by omega), wi_o (by omega)]; exact hz)]
  simp only [Option.bind_some]
  refine ⟨_, rfl, rfl, ?_, ?_, ?_, fun a b hab hab2 => ?_⟩
  · rw [wi_o (by omega), wi_eq rfl rfl, wi_o (by omega), wi_eq rfl rfl, wi_o (a := 10 * m + k) (b := 5) (by omega), wi_o (a := 10 * m + k) (b := 5) (by omega), wi_o (a := 10 * m + k) (b := 1) (by omega), wi_o (a := 10 * m + k) (b := 1) (by omega)]
  · rw [wi_o (by omega), wi_o (by omega), wi_eq rfl rfl, wi_o (by omega)]
  · rw [wi_eq rfl rfl, wi_o (by omega), wi_o (by omega), wi_o (by omega), wi_o (a := 10 * m + k) (b := 7) (by omega), wi_eq rfl rfl, wi_o (a := 10 * m + k) (b := 5) (by omega), wi_o (a := 10 * m + k) (b := 5) (by omega), wi_o (a := 10 * m + k) (b := 1) (by omega), wi_o (a := 10 * m + k) (b := 1) (by omega)]
  · rw [wi_o (by omega), wi_o (by omega), wi_o (by omega), wi_o (by omega)]
/-- the gas of level k behind a minute, read of the class or of the model -/
def gIn (g i air size : Int32) : Int32 := g + i - tkG (g + i) air size
/-- behind the levels 1 .. j: class -/
def PGc (σ σ' : Mem) (m j : Nat) : Prop := σ'.2 = σ.2 ∧
  (∀ i, 1 ≤ i → i ≤ j → σ'.1 (10 * m + i) 7 = gIn (σ.1 (10 * m + i) 7) (σ.1 (10 * m + i) 3) (σ.1 (10 * m + i) 5) (σ.1 (10 * m + i) 1)) ∧
  σ'.1 (10 * m + 7) 9 = acc (σ.1 (10 * m + 7) 9) (fun i => σ.1 (10 * m + i) 3) j ∧
  σ'.1 (10 * m + 7) 10 = acc (σ.1 (10 * m + 7) 10) (fun i => tkG (σ.1 (10 * m + i) 7 + σ.1 (10 * m + i) 3) (σ.1 (10 * m + i) 5) (σ.1 (10 * m + i) 1)) j ∧
  ∀ a b, (b ≠ 7 ∨ a ≤ 10 * m ∨ 10 * m + j < a) → (a ≠ 10 * m + 7 ∨ (b ≠ 9 ∧ b ≠ 10)) → σ'.1 a b = σ.1 a b
theorem PGc_0 (σ : Mem) (m : Nat) : PGc σ σ m 0 := ⟨rfl, fun i h1 h2 => by omega, rfl, rfl, fun _ _ _ _ => rfl⟩
theorem PGc_step (n : Nat) {σ σ1 : Mem} {m j z : Nat} (hj : j + 1 ≤ 6) (h1 : 1 ≤ z) (h2 : z ≤ 500) (hz : σ.1 (10 * m + (j + 1)) 1 = nI z) (h : PGc σ σ1 m j) : ∃ σ2, sp_X1_moveGas n σ1 (10 * m + 7) (10 * m + (j + 1)) = some ((), σ2) ∧ PGc σ σ2 m (j + 1) := by
  obtain ⟨p1, p2, p3, p4, p5⟩ := h
  have e1 : σ1.1 (10 * m + (j + 1)) 1 = σ.1 (10 * m + (j + 1)) 1 := p5 _ _ (by omega) (by omega)
  have e3 : σ1.1 (10 * m + (j + 1)) 3 = σ.1 (10 * m + (j + 1)) 3 := p5 _ _ (by omega) (by omega)
  have e5 : σ1.1 (10 * m + (j + 1)) 5 = σ.1 (10 * m + (j + 1)) 5 := p5 _ _ (by omega) (by omega)
  have e7 : σ1.1 (10 * m + (j + 1)) 7 = σ.1 (10 * m + (j + 1)) 7 := p5 _ _ (by omega) (by omega)
  obtain ⟨σ2, q0, q1, q2, q3, q4, q5⟩ := ev_moveGas n (σ := σ1) (m := m) (k := j + 1) hj h1 h2 (by rw [e1]; exact hz)
  rw [e1, e3, e5, e7] at q2 q4
  rw [e3] at q3
  refine ⟨σ2, q0, q1.trans p1, fun i g1 g2 => ?_, by rw [q3, p3]; rfl, by rw [q4, p4]; rfl, fun a b hab hab2 => ?_⟩
  · by_cases e : i = j + 1
    · rw [e, q2]
      rfl
    · rw [q5 _ _ (by omega) (by omega)]
      exact p2 i g1 (by omega)
  · rw [q5 _ _ (by omega) hab2]
    exact p5 a b (by omega) hab2
/-- the model's loops -/
def PM1 (σ σ' : Mem) (j : Nat) : Prop := σ'.2 = σ.2 ∧ (∀ i, 1 ≤ i → i ≤ j → σ'.1 47 i = σ.1 47 i + σ.1 45 i) ∧ σ'.1 47 70 = acc (σ.1 47 70) (fun i => σ.1 45 i) j ∧ ∀ a b, (a ≠ 47 ∨ (b ≠ 70 ∧ (b = 0 ∨ j < b))) → σ'.1 a b = σ.1 a b
theorem ix_0 {k : Nat} (hk : k < 73) : ((0 : Int32) + nI k) = nI k := by rw [n0, add_nI, Nat.zero_add]
theorem c70 : (70 : Int32).toNatClampNeg = 70 := by decide
theorem c71 : (71 : Int32).toNatClampNeg = 71 := by decide
theorem i70 : inR (70 : Int32) 73 := by decide
theorem i71 : inR (71 : Int32) 73 := by decide
def PM2 (σ σ' : Mem) (L : Nat) (W : Nat → Nat) (u j : Nat) : Prop := σ'.2 = σ.2 ∧ (∀ i, 1 ≤ i → i ≤ j → σ'.1 47 i = σ.1 47 i - tkG (σ.1 47 i) (nI (airN W L u i)) (σ.1 43 i)) ∧ σ'.1 47 71 = acc (σ.1 47 71) (fun i => tkG (σ.1 47 i) (nI (airN W L u i)) (σ.1 43 i)) j ∧ ∀ a b, (a ≠ 47 ∨ (b ≠ 71 ∧ (b = 0 ∨ j < b))) → σ'.1 a b = σ.1 a b
theorem lp_gases2 (n : Nat) (hn : 10 < n) {σ0 : Mem} {L : Nat} {W : Nat → Nat} {u : Nat} (hL : σ0.1 41 0 = nI L) (hL6 : L ≤ 6) (hW : NM σ0 L W) (hu : u ≤ 1000) (hf : σ0.1 41 6 = nI u) (hz : ∀ k, 1 ≤ k → k ≤ L → ∃ z, 1 ≤ z ∧ z ≤ 500 ∧ σ0.1 43 k = nI z) : ∀ (d k j : Nat) (σ : Mem), j + d = L → d < k → PM2 σ0 σ L W u j → ∃ σ', lp_X6_gases_51 n 41 k σ (nI (j + 1)) = some ((), σ') ∧ PM2 σ0 σ' L W u L := by
  intro d
  induction d with
  | zero =>
    intro k j σ hj hk hP
    obtain ⟨k, rfl⟩ : ∃ z, k = z + 1 := ⟨k - 1, by omega⟩
    refine ⟨σ, ?_, by rw [show j = L by omega] at hP; exact hP⟩
    rw [lp_X6_gases_51_s, hP.2.2.2 41 0 (by omega), hL, if_pos ((lt_nI (by omega) (by omega)).mpr (by omega))]
  | succ d ih =>
    intro k j σ hj hk hP
    obtain ⟨k, rfl⟩ : ∃ z, k = z + 1 := ⟨k - 1, by omega⟩
    obtain ⟨p1, p2, p3, p4⟩ := hP
    obtain ⟨z, z1, z2, z3⟩ := hz (j + 1) (by omega) (by omega)
    have hW' : NM σ L W := fun i h1 h2 => by rw [p4 46 i (by omega), p4 44 i (by omega)]; exact hW i h1 h2
    have e43 : σ.1 43 (j + 1) = nI z := by rw [p4 _ _ (by omega)]; exact z3
    have eg : σ.1 47 (j + 1) = σ0.1 47 (j + 1) := p4 _ _ (by omega)
    rw [lp_X6_gases_51_s, p4 41 0 (by omega), hL, if_neg (by rw [lt_nI (by omega) (by omega)]; omega)]
    simp only [ix_0 (show j + 1 < 73 by omega)]
    rw [if_pos (inR_nI (by omega) (by omega)), ev_air hn (by rw [p4 _ _ (by omega)]; exact hL) hL6 hW' hu (by rw [p4 _ _ (by omega)]; exact hf) (by omega) (by omega)]
    simp only [Option.bind_some]
    rw [if_pos (inR_nI (by omega) (by omega)), if_pos (inR_nI (by omega) (by omega))]
    simp only [nI_cl (show j + 1 < 100000 by omega), rfm_2, rfm_11, lm, c71]
    rw [if_pos (by rw [e43, n0, eq_nI (by omega) (by omega)]; omega), if_pos (inR_nI (by omega) (by omega)), if_pos (inR_nI (by omega) (by omega)), if_pos i71, if_pos i71, add1_nI]
    refine ih k (j + 1) _ (by omega) (by omega) ⟨p1, fun i h1 h2 => ?_, ?_, fun a b hab => ?_⟩
    · rw [wi_o (by omega), get_wi]
      by_cases e : i = j + 1
      · rw [if_pos ⟨rfl, e⟩, e, eg, e43, ← z3]
        rfl
      · rw [if_neg (by omega)]
        exact p2 i h1 (by omega)
    · rw [wi_eq rfl rfl, wi_o (by omega), p3, eg, e43, ← z3]
      rfl
    · rw [wi_o (by omega), wi_o (by omega)]
      exact p4 a b (by omega)
theorem lp_gases1 (n : Nat) (hn : 10 < n) {σ0 : Mem} {L : Nat} {W : Nat → Nat} {u : Nat} (hL : σ0.1 41 0 = nI L) (hL6 : L ≤ 6) (hW : NM σ0 L W) (hu : u ≤ 1000) (hf : σ0.1 41 6 = nI u) (hz : ∀ k, 1 ≤ k → k ≤ L → ∃ z, 1 ≤ z ∧ z ≤ 500 ∧ σ0.1 43 k = nI z) : ∀ (d k j : Nat) (σ : Mem), j + d = L → d < k → PM1 σ0 σ j → ∃ σ1 σ', lp_X6_gases_2 n 41 k σ (nI (j + 1)) = some ((), σ') ∧ PM1 σ0 σ1 L ∧ PM2 σ1 σ' L W u L := by
  intro d
  induction d with
  | zero =>
    intro k j σ hj hk hP
    obtain ⟨k, rfl⟩ : ∃ z, k = z + 1 := ⟨k - 1, by omega⟩
    obtain ⟨p1, p2, p3, p4⟩ := id hP
    have hW' : NM σ L W := fun i h1 h2 => by rw [p4 46 i (by omega), p4 44 i (by omega)]; exact hW i h1 h2
    obtain ⟨σ', e1, e2⟩ := lp_gases2 n hn (σ0 := σ) (by rw [p4 _ _ (by omega)]; exact hL) hL6 hW' hu (by rw [p4 _ _ (by omega)]; exact hf) (fun k h1 h2 => by rw [p4 _ _ (by omega)]; exact hz k h1 h2) L n 0 σ (by omega) (by omega) ⟨rfl, fun i h1 h2 => by omega, rfl, fun _ _ _ => rfl⟩
    refine ⟨σ, σ', ?_, by rw [show j = L by omega] at hP; exact hP, e2⟩
    rw [lp_X6_gases_2_s, p4 41 0 (by omega), hL, if_pos ((lt_nI (by omega) (by omega)).mpr (by omega)), n1]
    exact e1
  | succ d ih =>
    intro k j σ hj hk hP
    obtain ⟨k, rfl⟩ : ∃ z, k = z + 1 := ⟨k - 1, by omega⟩
    obtain ⟨p1, p2, p3, p4⟩ := hP
    rw [lp_X6_gases_2_s, p4 41 0 (by omega), hL, if_neg (by rw [lt_nI (by omega) (by omega)]; omega)]
    simp only [ix_0 (show j + 1 < 73 by omega)]
    rw [if_pos (inR_nI (by omega) (by omega)), if_pos (inR_nI (by omega) (by omega)), if_pos (inR_nI (by omega) (by omega))]
    simp only [nI_cl (show j + 1 < 100000 by omega), rfm_4, rfm_11, lm, c70]
    rw [if_pos i70, if_pos (inR_nI (by omega) (by omega)), if_pos i70, add1_nI]
    refine ih k (j + 1) _ (by omega) (by omega) ⟨p1, fun i h1 h2 => ?_, ?_, fun a b hab => ?_⟩
    · rw [wi_o (by omega), get_wi]
      by_cases e : i = j + 1
      · rw [if_pos ⟨rfl, e⟩, e, p4 47 (j + 1) (by omega), p4 45 (j + 1) (by omega)]
      · rw [if_neg (by omega)]
        exact p2 i h1 (by omega)
    · rw [wi_eq rfl rfl, wi_o (by omega), wi_o (by omega), p3, p4 45 (j + 1) (by omega)]
      rfl
    · rw [wi_o (by omega), wi_o (by omega)]
      exact p4 a b (by omega)
/-- a minute's gas of the model -/
def PGm (σ σ' : Mem) (L : Nat) (W : Nat → Nat) (u : Nat) : Prop := σ'.2 = σ.2 ∧ (∀ i, 1 ≤ i → i ≤ L → σ'.1 47 i = gIn (σ.1 47 i) (σ.1 45 i) (nI (airN W L u i)) (σ.1 43 i)) ∧ σ'.1 47 70 = acc (σ.1 47 70) (fun i => σ.1 45 i) L ∧ σ'.1 47 71 = acc (σ.1 47 71) (fun i => tkG (σ.1 47 i + σ.1 45 i) (nI (airN W L u i)) (σ.1 43 i)) L ∧ ∀ a b, (a ≠ 47 ∨ (b ≠ 70 ∧ b ≠ 71 ∧ (b = 0 ∨ L < b))) → σ'.1 a b = σ.1 a b
theorem ev_gases {n : Nat} (hn : 10 < n) {σ : Mem} {L : Nat} {W : Nat → Nat} {u : Nat} (hL : σ.1 41 0 = nI L) (hL6 : L ≤ 6) (hW : NM σ L W) (hu : u ≤ 1000) (hf : σ.1 41 6 = nI u) (hz : ∀ k, 1 ≤ k → k ≤ L → ∃ z, 1 ≤ z ∧ z ≤ 500 ∧ σ.1 43 k = nI z) : ∃ σ', sp_X6_gases n σ 41 = some ((), σ') ∧ PGm σ σ' L W u := by
  unfold sp_X6_gases
  rw [n1]
  obtain ⟨σ1, σ', e, p, q⟩ := lp_gases1 n hn hL hL6 hW hu hf hz L n 0 σ (by omega) (by omega) ⟨rfl, fun i h1 h2 => by omega, rfl, fun _ _ _ => rfl⟩
  obtain ⟨p1, p2, p3, p4⟩ := p
  obtain ⟨q1, q2, q3, q4⟩ := q
  refine ⟨σ', e, q1.trans p1, fun i h1 h2 => ?_, ?_, ?_, fun a b hab => ?_⟩
  · rw [q2 i h1 h2, p2 i h1 h2, p4 43 i (by omega)]
    rfl
  · rw [q4 _ _ (by omega), p3]
  · rw [q3, p4 47 71 (by omega)]
    exact acc_cong (fun i h1 h2 => by rw [p2 i h1 h2, p4 43 i (by omega)])
  · rw [q4 a b (by omega), p4 a b (by omega)]
