/-! PURE. the law's check of a whole mine -/
/-- the mine is the same, but for what followed the air -/
def VE (σ σ' : Mem) : Prop := ∀ a b, a < 10 → (b ≠ 6 ∨ 6 < a) → σ'.1 a b = σ.1 a b
def opN (σ : Mem) : Nat → Int32
  | 0 => 0
  | j + 1 => if opN σ j = 0 then (if σ.1 (j + 1) 5 ≤ 0 then 0 else 1) else 1
section SO
variable {σ σ' τ : Mem} {L N g n : Nat} {O : Int32}
theorem VE.rfl' [Inhabited Bl] (σ : Mem) : VE σ σ := fun _ _ _ _ => rfl
theorem VE.trans [Inhabited Bl] {σ1 : Mem} (h : VE σ σ1) (h2 : VE σ1 σ') : VE σ σ' := fun a b h3 h4 => (h2 a b h3 h4).trans (h a b h3 h4)
theorem VE.al [Inhabited Bl] (h : VE σ σ') {k : Nat} (hk : k ≤ 6) : alC σ' 0 k = alC σ 0 k := by
  unfold alC shC
  rw [at0 (σ := σ') k 7, at0 (σ := σ') k 1, at0 (σ := σ) k 7, at0 (σ := σ) k 1, h k 7 (by omega) (by omega), h k 1 (by omega) (by omega), show σ'.1 (10 * 0 + 7) 6 = σ.1 (10 * 0 + 7) 6 from h 7 6 (by omega) (by omega)]
theorem VE.en [Inhabited Bl] (h : VE σ σ') (hL : L ≤ 6) : enS σ' L = enS σ L := acc_cong (fun i i1 i2 => by rw [h.al (by omega), h i 8 (by omega) (by omega)])
theorem st117 [Inhabited Bl] (hn : 1010 < n) (h : INV σ L N g O) (hg : g ≤ 50000) {j : Nat} (hj1 : 1 ≤ j) (hj2 : j ≤ L) {a1 l1 l2 l3 l4 l5 l6 l7 l8 l9 s0 : Int32} (K : Mem → Int32 → Int32 → Int32 → Int32 → Int32 → Int32 → Int32 → Int32 → Int32 → Int32 → Option (Int32 × Mem)) :
    ∃ σ', INV σ' L N g O ∧ VE σ σ' ∧ lp_L_isSound_117 n 40 a1 K σ l1 l2 l3 l4 l5 l6 l7 l8 l9 (nI j) (σ.1 j 5) s0 = K σ' l1 l2 l3 l4 l5 (l6 + (if alC σ 0 j = 0 then 0 else σ.1 j 8)) s0 l8 l9 (nI (j + 1)) := by
  have hL := h.lv.1
  obtain ⟨σa, ea, ha, va⟩ := r_paths hn h hj1 hj2
  have va : VE σ σa := fun a b _ hb => va a b hb
  obtain ⟨v, σb, eb, hb, fb, hv⟩ := r_alarm (n := n) (by omega) ha hj1 hj2
  have vb : VE σa σb := fun a b h1 _ => fb.1 a b (by omega) (by omega)
  refine ⟨σb, hb, va.trans vb, ?_⟩
  obtain ⟨τ, W, u, Q, hR, -, hI⟩ := h
  obtain ⟨τa, Wa, ua, Qa, hRa, -, hIa⟩ := ha
  obtain ⟨τb, Wb, ub, Qb, hRb, -, hIb⟩ := hb
  have eal : alC σa 0 j = alC σ 0 j := va.al (by omega)
  have air : ¬ σ.1 j 5 < 0 := by
    have := (hR.1.row hj1 hj2).2.2.2.2
    rw [at0] at this
    rw [this]
    exact nI_pos (by have := airN_le W L u hj1 hj2; have := hR.1.2.2.2.2.2.2.1; omega)
  have gas : ¬ σa.1 j 7 < 0 := by
    obtain ⟨y, y1, y2⟩ := hIa.2.2.1 j (by omega)
    rw [y2]
    exact nI_pos (by omega)
  have dep : σb.1 (j - 1) 0 < σb.1 j 0 := by
    obtain ⟨d, e, d1, d2, d3, d4⟩ := hIb.1 j hj1 hj2
    rw [d3, d4]
    exact (lt_nI (by omega) (by omega)).mpr d1
  have fin : lp_L_isSound_190 n 40 a1 K σa l1 l2 l3 l4 l5 (l6 + (if alC σ 0 j = 0 then 0 else σ.1 j 8)) s0 l8 l9 (nI j) (σ.1 j 5) (alC σa 0 j) = K σb l1 l2 l3 l4 l5 (l6 + (if alC σ 0 j = 0 then 0 else σ.1 j 8)) s0 l8 l9 (nI (j + 1)) := by
    unfold lp_L_isSound_190
    rw [eb]
    simp only [Option.bind_some]
    have e206 : lp_L_isSound_206 n 40 a1 K σb l1 l2 l3 l4 l5 (l6 + (if alC σ 0 j = 0 then 0 else σ.1 j 8)) s0 l8 l9 (nI j) (σ.1 j 5) (alC σa 0 j) (alC σa 0 j) = K σb l1 l2 l3 l4 l5 (l6 + (if alC σ 0 j = 0 then 0 else σ.1 j 8)) s0 l8 l9 (nI (j + 1)) := by
      unfold lp_L_isSound_206
      rw [if_pos rfl, of_0 n hRb hj2]
      simp only [Option.bind_some]
      rw [show nI j - 1 = nI (j - 1) from pk_sub (a := j) (b := 1) hj1, of_0 n hRb (by omega)]
      simp only [Option.bind_some]
      rw [if_pos dep]
      unfold lp_L_isSound_230
      rw [add1_nI]
    by_cases cv : v = 0
    · rw [if_pos cv]
      have hne := hv.mp cv
      have e1 : alC σa 0 j = 1 := (alC_or σa 0 j).resolve_left hne
      rw [e1] at e206 ⊢
      exact e206
    · rw [if_neg cv]
      have e1 : alC σa 0 j = 0 := by
        by_cases c : alC σa 0 j = 0
        · exact c
        · exact absurd (hv.mpr c) cv
      rw [e1] at e206 ⊢
      exact e206
  have e144 : ∀ s : Int32, s = (if alC σ 0 j = 0 then 0 else σ.1 j 8) → lp_L_isSound_144 n 40 a1 K σ l1 l2 l3 l4 l5 l6 s0 l8 l9 (nI j) (σ.1 j 5) s l6 = K σb l1 l2 l3 l4 l5 (l6 + (if alC σ 0 j = 0 then 0 else σ.1 j 8)) s0 l8 l9 (nI (j + 1)) := fun s hs => by
    unfold lp_L_isSound_144
    rw [ea]
    simp only [Option.bind_some]
    rw [if_pos trivial, if_neg air, of_3 n hRa hj1 hj2]
    simp only [Option.bind_some]
    rw [if_neg gas, of_5 n hRa hj1 hj2]
    simp only [Option.bind_some]
    rw [hs]
    rcases alC_or σa 0 j with e | e
    · rw [e] at fin
      rw [e, if_neg (by decide)]
      exact fin
    · rw [e] at fin
      rw [e, if_pos rfl]
      exact fin
  unfold lp_L_isSound_117
  rw [of_5 n hR hj1 hj2]
  simp only [Option.bind_some]
  rcases alC_or σ 0 j with e | e
  · have := e144 0 (by rw [if_pos e])
    rw [e, if_neg (by decide)]
    rw [e] at this
    exact this
  · have := e144 (σ.1 j 8) (by rw [e, if_neg (by decide)])
    rw [e, if_pos rfl, of_7 n hR hj2]
    simp only [Option.bind_some]
    rw [e] at this
    exact this
theorem lp38 [Inhabited Bl] (hn : 1010 < n) (hg : g ≤ 50000) {σ0 : Mem} {a1 l1 l8 l9 x4 x5 : Int32} : ∀ (d k i : Nat) (σ : Mem), i + d = L → d < k → INV σ L N g O → VE σ0 σ →
    ∃ σ', INV σ' L N g O ∧ VE σ0 σ' ∧ lp_L_isSound_38 n 40 a1 k σ l1 (acc 0 (fun i => σ0.1 i 7) i) (acc 0 (fun i => σ0.1 i 5) i) (acc x4 (fun i => σ0.1 i 8) i) (acc x5 (fun i => σ0.1 i 9) i) (enS σ0 i) (opN σ0 i) l8 l9 (nI (i + 1)) =
      lp_L_isSound_236 n 40 a1 σ' l1 (acc 0 (fun i => σ0.1 i 7) L) (acc 0 (fun i => σ0.1 i 5) L) (acc x4 (fun i => σ0.1 i 8) L) (acc x5 (fun i => σ0.1 i 9) L) (enS σ0 L) (opN σ0 L) l8 l9 (nI (L + 1)) := by
  intro d
  induction d with
  | zero =>
    intro k i σ hi hk h hV
    obtain ⟨k, rfl⟩ : ∃ z, k = z + 1 := ⟨k - 1, by omega⟩
    have hL := h.lv.1
    obtain rfl : i = L := by omega
    refine ⟨σ, h, hV, ?_⟩
    obtain ⟨τ, W, u, Q, hR, -, hI⟩ := h
    rw [lp_L_isSound_38_s, x_levelCount n hR]
    simp only [Option.bind_some]
    rw [if_pos ((lt_nI (by omega) (by omega)).mpr (by omega))]
  | succ d ih =>
    intro k i σ hi hk h hV
    obtain ⟨k, rfl⟩ : ∃ z, k = z + 1 := ⟨k - 1, by omega⟩
    have hL := h.lv.1
    obtain ⟨σ1, h1, v1, e1⟩ := st117 (a1 := a1) (l1 := l1) (l2 := acc 0 (fun i => σ0.1 i 7) i + σ.1 (i + 1) 7) (l3 := acc 0 (fun i => σ0.1 i 5) i + σ.1 (i + 1) 5) (l4 := acc x4 (fun i => σ0.1 i 8) i + σ.1 (i + 1) 8) (l5 := acc x5 (fun i => σ0.1 i 9) i + σ.1 (i + 1) 9) (l6 := enS σ0 i) (l7 := opN σ0 i) (l8 := l8) (l9 := l9) (s0 := opN σ0 (i + 1)) hn h hg (j := i + 1) (by omega) (by omega) (fun σ l1 l2 l3 l4 l5 l6 l7 l8 l9 l10 => lp_L_isSound_38 n 40 a1 k σ l1 l2 l3 l4 l5 l6 l7 l8 l9 l10)
    obtain ⟨σ', h2, v2, e2⟩ := ih k (i + 1) σ1 (by omega) (by omega) h1 (hV.trans v1)
    refine ⟨σ', h2, v2, ?_⟩
    rw [← e2]
    obtain ⟨τ, W, u, Q, hR, -, hI⟩ := h
    have o : ∀ b, b ≠ 6 → σ.1 (i + 1) b = σ0.1 (i + 1) b := fun b hb => hV _ _ (by omega) (by omega)
    have hop : opN σ0 (i + 1) = if opN σ0 i = 0 then (if σ.1 (i + 1) 5 ≤ 0 then 0 else 1) else 1 := by rw [o 5 (by omega)]; rfl
    have e3 : lp_L_isSound_38 n 40 a1 (k + 1) σ l1 (acc 0 (fun i => σ0.1 i 7) i) (acc 0 (fun i => σ0.1 i 5) i) (acc x4 (fun i => σ0.1 i 8) i) (acc x5 (fun i => σ0.1 i 9) i) (enS σ0 i) (opN σ0 i) l8 l9 (nI (i + 1)) = lp_L_isSound_117 n 40 a1 (fun σ l1 l2 l3 l4 l5 l6 l7 l8 l9 l10 => lp_L_isSound_38 n 40 a1 k σ l1 l2 l3 l4 l5 l6 l7 l8 l9 l10) σ l1 (acc 0 (fun i => σ0.1 i 7) i + σ.1 (i + 1) 7) (acc 0 (fun i => σ0.1 i 5) i + σ.1 (i + 1) 5) (acc x4 (fun i => σ0.1 i 8) i + σ.1 (i + 1) 8) (acc x5 (fun i => σ0.1 i 9) i + σ.1 (i + 1) 9) (enS σ0 i) (opN σ0 i) l8 l9 (nI (i + 1)) (σ.1 (i + 1) 5) (opN σ0 (i + 1)) := by
      rw [lp_L_isSound_38_s, x_levelCount n hR]
      simp only [Option.bind_some]
      rw [if_neg (by rw [lt_nI (by omega) (by omega)]; omega), of_7 n hR (by omega)]
      simp only [Option.bind_some]
      rw [of_8 n hR (by omega)]
      simp only [Option.bind_some]
      rw [if_neg (by rw [le0_nI (by omega)]; omega), of_1 n hR (by omega) (by omega)]
      simp only [Option.bind_some]
      rw [of_3 n hR (by omega) (by omega)]
      simp only [Option.bind_some]
      rw [hop]
      by_cases c1 : opN σ0 i = 0
      · rw [if_pos c1, if_pos c1]
        by_cases c2 : σ.1 (i + 1) 5 ≤ 0
        · rw [if_pos c2, if_pos c2]
        · rw [if_neg c2, if_neg c2]
      · rw [if_neg c1, if_neg c1]
    rw [e3, e1, hV.al (by omega), o 8 (by omega), o 7 (by omega), o 5 (by omega), o 9 (by omega)]
    rfl
/-! the air adds up to all that the fan brings -/
theorem ar_sum [Inhabited Bl] (W : Nat → Nat) (L u : Nat) : ∀ j, j ≤ L → sN (airN W L u) j + arN W L u j = u
  | 0, _ => Nat.zero_add u
  | j + 1, h => by
    have ih := ar_sum W L u j (by omega)
    have e : airN W L u (j + 1) = gN (arN W L u j) (W (j + 1)) (sF W L j) := rfl
    have hg : gN (arN W L u j) (W (j + 1)) (sF W L j) ≤ arN W L u j := gN_le (sF_w (by omega))
    rw [sN, arN, e]
    omega
theorem ar_down [Inhabited Bl] (W : Nat → Nat) (L u : Nat) : ∀ d j, j + d = L → arN W L u L ≤ arN W L u j
  | 0, j, h => by rw [show L = j by omega]; exact Nat.le_refl _
  | d + 1, j, h => by
    have ih := ar_down W L u d (j + 1) (by omega)
    rw [arN] at ih
    omega
theorem ar_end [Inhabited Bl] (W : Nat → Nat) (L u : Nat) : ∀ d j, j + d = L → sF W L j ≠ 0 → arN W L u L = 0
  | 0, j, h, hs => by
    obtain rfl : j = L := by omega
    exact absurd (Nat.sub_self _) hs
  | d + 1, j, h, hs => by
    by_cases c : sF W L (j + 1) = 0
    · have e1 : sF W L j = W (j + 1) := by
        have h1 := sF_next (W := W) (L := L) (j := j) (by omega)
        have h2 := sF_w (W := W) (L := L) (j := j) (by omega)
        omega
      have e2 : arN W L u (j + 1) = 0 := by
        rw [arN, ← e1]
        unfold gN
        rw [if_neg hs, Nat.mul_div_cancel _ (by omega)]
        exact Nat.sub_self _
      have := ar_down W L u d (j + 1) (by omega)
      omega
    · exact ar_end W L u d (j + 1) (by omega) c
theorem ar_none [Inhabited Bl] (W : Nat → Nat) (L u : Nat) (hs : sF W L 0 = 0) {k : Nat} (h1 : 1 ≤ k) (h2 : k ≤ L) : airN W L u k = 0 := by
  have h : sF W L (k - 1) = 0 := by
    have := sN_mono (f := W) (i := 0) (j := k - 1) (by omega)
    unfold sF at hs ⊢
    rw [sN] at hs this
    omega
  unfold airN gN
  rw [if_pos h]
theorem opN_or [Inhabited Bl] (σ : Mem) : ∀ j, opN σ j = 0 ∨ opN σ j = 1
  | 0 => Or.inl rfl
  | j + 1 => by
    rw [opN]
    split
    · split
      · exact Or.inl rfl
      · exact Or.inr rfl
    · exact Or.inr rfl
theorem opN_0 [Inhabited Bl] {σ : Mem} : ∀ {j : Nat}, opN σ j = 0 → ∀ i, 1 ≤ i → i ≤ j → σ.1 i 5 ≤ 0
  | 0, _, i, h1, h2 => by omega
  | j + 1, h, i, h1, h2 => by
    rw [opN] at h
    by_cases c1 : opN σ j = 0
    · rw [if_pos c1] at h
      by_cases c2 : σ.1 (j + 1) 5 ≤ 0
      · by_cases e : i = j + 1
        · rw [e]; exact c2
        · exact opN_0 c1 i h1 (by omega)
      · rw [if_neg c2] at h
        exact absurd h (by decide)
    · rw [if_neg c1] at h
      exact absurd h (by decide)
theorem opN_1 [Inhabited Bl] {σ : Mem} : ∀ {j : Nat}, ¬ opN σ j = 0 → ∃ i, 1 ≤ i ∧ i ≤ j ∧ ¬ σ.1 i 5 ≤ 0
  | 0, h => absurd rfl h
  | j + 1, h => by
    rw [opN] at h
    by_cases c1 : opN σ j = 0
    · rw [if_pos c1] at h
      by_cases c2 : σ.1 (j + 1) 5 ≤ 0
      · rw [if_pos c2] at h
        exact absurd rfl h
      · exact ⟨j + 1, by omega, Nat.le_refl _, c2⟩
    · obtain ⟨i, h1, h2, h3⟩ := opN_1 c1
      exact ⟨i, h1, by omega, h3⟩
theorem airs_add [Inhabited Bl] {W : Nat → Nat} {u Q : Nat} (hR : RR σ τ 0 L W u N Q) : acc 0 (fun i => σ.1 i 5) L = if opN σ L = 0 then 0 else nI u := by
  have hu := hR.1.2.2.2.2.2.2.1
  have ea : ∀ i, 1 ≤ i → i ≤ L → σ.1 i 5 = nI (airN W L u i) := fun i i1 i2 => by
    have := (hR.1.row i1 i2).2.2.2.2
    rwa [at0] at this
  have e : acc 0 (fun i => σ.1 i 5) L = nI (0 + sN (airN W L u) L) := acc_nI 0 ea
  rw [e, Nat.zero_add]
  have hs := ar_sum W L u L (Nat.le_refl L)
  by_cases c : opN σ L = 0
  · rw [if_pos c]
    have : sN (airN W L u) L ≤ L * 0 := sN_le (fun i i1 i2 => by
      have h1 := opN_0 c i i1 i2
      have h2 := airN_le W L u i1 i2
      rw [ea i i1 i2, le0_nI (by omega)] at h1
      omega)
    rw [show sN (airN W L u) L = 0 by omega]
    rfl
  · rw [if_neg c]
    obtain ⟨i, i1, i2, i3⟩ := opN_1 c
    have h2 := airN_le W L u i1 i2
    rw [ea i i1 i2, le0_nI (by omega)] at i3
    have hsF : sF W L 0 ≠ 0 := fun h0 => i3 (ar_none W L u h0 i1 i2)
    have := ar_end W L u L 0 (by omega) hsF
    rw [show sN (airN W L u) L = u by omega]
theorem acc_more [Inhabited Bl] {x : Int32} {f : Nat → Int32} : ∀ (d : Nat) {j : Nat}, (∀ k, j < k → k ≤ j + d → f k = 0) → acc x f (j + d) = acc x f j
  | 0, _, _ => rfl
  | d + 1, j, h => by
    rw [← Nat.add_assoc, acc, h (j + d + 1) (by omega) (by omega), Int32.add_zero]
    exact acc_more d (fun k h1 h2 => h k h1 (by omega))
theorem tail236 [Inhabited Bl] (hn : 1010 < n) (h : INV σ L N g O) {a1 l9 l10 : Int32} : ∃ σ', INV σ' L N g O ∧ lp_L_isSound_236 n 40 a1 σ O (acc 0 (fun i => σ.1 i 7) L) (acc 0 (fun i => σ.1 i 5) L) (acc (σ.1 0 8) (fun i => σ.1 i 8) L) (acc (σ.1 0 9) (fun i => σ.1 i 9) L) (enS σ L) (opN σ L) (σ.1 7 5) l9 l10 = some (1, σ') := by
  obtain ⟨σ', ec, hc⟩ := r_consist hn h
  refine ⟨σ', hc, ?_⟩
  obtain ⟨hL, hN, h4, h11⟩ := h.lv
  obtain ⟨τ, W, u, Q, hR, -, hI⟩ := h
  have eu : σ.1 7 5 = nI u := hR.1.2.2.2.2.2.2.2.1
  have hQ8 := hR.2.2.2.2.1.1
  obtain ⟨-, -, -, v4, v5, v6, -, -, -, -⟩ := hI
  have hgas : acc 0 (fun i => σ.1 i 7) L + σ.1 7 10 = σ.1 7 9 := by
    have hB := hR.2.2.2.2.2.2.1
    rw [← acc_x, Int32.zero_add]
    exact (acc_cong (fun i i1 i2 => (at0 i 7).symm)).trans hB
  have hair := airs_add hR
  rw [← eu] at hair
  have hppl : ∀ t : Int32, onT σ 0 = t → acc (σ.1 0 8) (fun i => σ.1 i 8) L + t = τ.1 41 10 := fun t ht => by
    have hp := hR.2.2.2.2.2.1.1
    rw [← acc_x, Int32.add_comm, ← hp, ht]
    exact acc_cong (fun i i1 i2 => (at0 i 8).symm)
  have hore : ∀ t : Int32, onO σ 0 = t → acc (σ.1 0 9) (fun i => σ.1 i 9) L + t = O := fun t ht => by
    rw [← v4, ← acc_x, Int32.add_comm]
    unfold oT pplS
    rw [ht]
    have e1 : acc (t + σ.1 0 9) (fun i => σ.1 i 9) L = acc (t + σ.1 0 9) (fun i => σ.1 i 9) 6 := by
      have := acc_more (x := t + σ.1 0 9) (f := fun i => σ.1 i 9) (6 - L) (j := L) (fun k k1 k2 => v5 k k1 (by omega))
      rw [show L + (6 - L) = 6 by omega] at this
      exact this.symm
    rw [e1]
    show acc (t + σ.1 0 9) (fun i => σ.1 i 9) 6 = acc (t + σ.1 (10 * 0 + 0) 9) (fun i => σ.1 (10 * 0 + i) 9) 6
    exact (acc_cong (fun i i1 i2 => (at0 i 9).symm)).trans rfl
  have e397 : ∀ l4 l5 l10 l11 : Int32, l4 = τ.1 41 10 → l5 = O → lp_L_isSound_397 n 40 a1 σ O (acc 0 (fun i => σ.1 i 7) L) (acc 0 (fun i => σ.1 i 5) L) l4 l5 (enS σ L) (opN σ L) (σ.1 7 5) l9 l10 l11 (if opN σ L = 0 then 0 else σ.1 7 5) (acc 0 (fun i => σ.1 i 5) L) = some (1, σ') := fun l4 l5 l10 l11 e4 e5 => by
    unfold lp_L_isSound_397
    rw [if_pos hair, x_peopleTotal (by omega) hR, Option.bind_some]
    dsimp only
    rw [if_pos e4, if_pos e5, x_endangered (by omega) hR, Option.bind_some]
    dsimp only
    rw [if_pos rfl, x_waitingCount n hR, Option.bind_some]
    dsimp only
    rw [if_neg (show ¬ (8 : Int32) < nI Q by rw [n8, lt_nI (by omega) (by omega)]; omega), ec, Option.bind_some]
    dsimp only
    rw [if_neg (by decide)]
  have e369 : ∀ l4 l5 l10 l11 s0 s1 : Int32, l4 = τ.1 41 10 → s1 + s0 = O → lp_L_isSound_369 n 40 a1 σ O (acc 0 (fun i => σ.1 i 7) L) (acc 0 (fun i => σ.1 i 5) L) l4 l5 (enS σ L) (opN σ L) (σ.1 7 5) l9 l10 l11 s0 s1 = some (1, σ') := fun l4 l5 l10 l11 s0 s1 e4 e5 => by
    unfold lp_L_isSound_369
    rw [x_ventedTotal, Option.bind_some]
    dsimp only
    rw [x_gasTotal, Option.bind_some]
    dsimp only
    rw [if_pos hgas]
    have := e397 l4 (s1 + s0) l10 l11 e4 e5
    by_cases c : opN σ L = 0
    · rw [if_pos c] at this ⊢
      exact this
    · rw [if_neg c] at this ⊢
      exact this
  have hT := hR.2.2.2.1
  have e329 : ∀ l11 : Int32, (¬ σ.1 8 0 = 45 → l11 = σ.1 8 2) → lp_L_isSound_329 n 40 a1 σ O (acc 0 (fun i => σ.1 i 7) L) (acc 0 (fun i => σ.1 i 5) L) (acc (σ.1 0 8) (fun i => σ.1 i 8) L) (acc (σ.1 0 9) (fun i => σ.1 i 9) L) (enS σ L) (opN σ L) (σ.1 7 5) l9 (σ.1 8 0) l11 = some (1, σ') := fun l11 e11 => by
    unfold lp_L_isSound_329 lp_L_isSound_351
    by_cases c : σ.1 8 0 = 45
    · have t2 : σ.1 8 2 = 0 := (hT.2.2.2.1 c).1
      rw [if_pos c, if_neg (by rw [c]; decide)]
      refine e369 _ _ _ _ _ _ (hppl 0 ?_) (hore 0 ?_)
      · unfold onT
        rw [if_neg (show ¬ σ.1 (10 * 0 + 8) 0 = 111 from fun e => by rw [show σ.1 (10 * 0 + 8) 0 = 45 from c] at e; exact absurd e (by decide))]
        exact t2
      · unfold onO
        rw [if_neg (show ¬ σ.1 (10 * 0 + 8) 0 = 111 from fun e => by rw [show σ.1 (10 * 0 + 8) 0 = 45 from c] at e; exact absurd e (by decide))]
    · rw [if_neg c]
      by_cases c2 : σ.1 8 0 = 111
      · rw [if_pos c2, if_pos c2]
        refine e369 _ _ _ _ _ _ (hppl 0 ?_) (hore l11 ?_)
        · unfold onT
          rw [if_pos (show σ.1 (10 * 0 + 8) 0 = 111 from c2)]
        · unfold onO
          rw [if_pos (show σ.1 (10 * 0 + 8) 0 = 111 from c2)]
          exact (e11 c).symm
      · rw [if_neg c2, if_neg c2]
        refine e369 _ _ _ _ _ _ (hppl l11 ?_) (hore 0 ?_)
        · unfold onT
          rw [if_neg (show ¬ σ.1 (10 * 0 + 8) 0 = 111 from c2)]
          exact (e11 c).symm
        · unfold onO
          rw [if_neg (show ¬ σ.1 (10 * 0 + 8) 0 = 111 from c2)]
  unfold lp_L_isSound_236
  rw [x_tripKind n hR, Option.bind_some]
  dsimp only
  rw [trip_1 n hR, Option.bind_some]
  dsimp only
  unfold lp_L_isSound_261 lp_L_isSound_274 trV
  by_cases c : σ.1 8 0 = 45
  · rw [if_pos c, if_pos c, if_pos rfl, if_pos rfl, if_pos c]
    exact e329 _ (fun h => absurd c h)
  · obtain ⟨⟨k, k1, k2, k3, -⟩, ⟨y, y1, y2, -⟩, ⟨z, z1, z2, z3, -⟩, -⟩ := hT.2.2.2.2 c
    have y2 : σ.1 8 2 = nI y := y2
    have k3 : σ.1 8 1 = nI k := k3
    have z3 : σ.1 8 3 = nI z := z3
    have y0 : 0 < nI y := by rw [← y2]; exact v6 c
    have y01 : 1 ≤ y := by
      rcases Nat.eq_zero_or_pos y with e | e
      · rw [e] at y0
        exact absurd y0 (by decide)
      · exact e
    have n1001 : ¬ nI y = -1001 := fun e => by
      have := nI_pos (n := y) (by omega)
      rw [e] at this
      exact this (by decide)
    rw [if_neg c, if_neg c, y2, if_neg n1001, if_pos rfl, if_neg c, if_neg (show ¬ nI y < 1 by rw [n1, lt_nI (by omega) (by omega)]; omega), if_neg (show ¬ (20 : Int32) < nI y by rw [show (20 : Int32) = nI 20 from rfl, lt_nI (by omega) (by omega)]; omega), trip_2 n hR, Option.bind_some]
    dsimp only
    unfold trV
    rw [if_neg c, z3, if_neg (show ¬ nI z < 1 by rw [n1, lt_nI (by omega) (by omega)]; omega), trip_0 n hR, Option.bind_some]
    dsimp only
    unfold trV
    rw [if_neg c, k3, if_neg (show ¬ nI k < 1 by rw [n1, lt_nI (by omega) (by omega)]; omega), trip_0 n hR, Option.bind_some]
    dsimp only
    rw [x_levelCount n hR, Option.bind_some]
    dsimp only
    unfold trV
    rw [if_neg c, k3, if_pos ((le_nI (by omega) (by omega)).mpr k2)]
    exact e329 _ (fun _ => y2.symm)
theorem x_isSound [Inhabited Bl] (hn : 1010 < n) (h : INV σ L N g O) (hg : g ≤ 50000) : ∃ σ', sp_L_isSound n σ 40 O = some (1, σ') ∧ INV σ' L N g O := by
  obtain ⟨u, σ1, u1, u2, e1, h1, f1⟩ := w_fan (n := n) (by omega) (v := 0) h (by omega)
  obtain ⟨u', σ2, u3, u4, e2, h2, f2⟩ := w_fan (n := n) (by omega) (v := u) h1 u1
  obtain ⟨hL, hN, h4, h11⟩ := h2.lv
  have h2' := h2
  obtain ⟨τ, W, u9, Q, hR, -, hI⟩ := h2
  obtain ⟨σ3, h3, v3, e3⟩ := lp38 (a1 := O) (l1 := O) (l8 := nI u) (l9 := nI u') (x4 := σ2.1 0 8) (x5 := σ2.1 0 9) hn hg L 9 0 σ2 (by omega) (by omega) h2' (VE.rfl' σ2)
  obtain ⟨σ4, e4, h5⟩ := tail236 hn h3 (a1 := O) (l9 := nI u') (l10 := nI (L + 1))
  refine ⟨σ4, ?_, e4⟩
  have o : ∀ i b, i ≤ L → b ≠ 6 → σ3.1 i b = σ2.1 i b := fun i b hi hb => v3 _ _ (by omega) (by omega)
  have eop : ∀ j, j ≤ L → opN σ3 j = opN σ2 j := by
    intro j
    induction j with
    | zero => intro _; rfl
    | succ j ih =>
      intro hj
      rw [opN, opN, ih (by omega), o (j + 1) 5 hj (by omega)]
  rw [v3.en hL, eop L (Nat.le_refl L), o 0 8 (by omega) (by omega), o 0 9 (by omega) (by omega), show σ3.1 7 5 = nI u from (v3 7 5 (by omega) (by omega)).trans f2, acc_cong (g := fun i => σ2.1 i 7) (fun i i1 i2 => o i 7 i2 (by omega)), acc_cong (g := fun i => σ2.1 i 5) (fun i i1 i2 => o i 5 i2 (by omega)), acc_cong (g := fun i => σ2.1 i 8) (fun i i1 i2 => o i 8 i2 (by omega)), acc_cong (g := fun i => σ2.1 i 9) (fun i i1 i2 => o i 9 i2 (by omega))] at h5
  unfold sp_L_isSound
  rw [show sp_L_sets n σ 40 102 0 = some (nI u, σ1) from e1, Option.bind_some]
  dsimp only
  rw [e2, Option.bind_some]
  dsimp only
  have e0 : lp_L_isSound_38 n 40 O 10 σ2 O 0 0 0 0 0 0 (nI u) (nI u') (nI 0) = lp_L_isSound_38 n 40 O 9 σ2 O (acc 0 (fun i => σ2.1 i 7) 0) (acc 0 (fun i => σ2.1 i 5) 0) (acc (σ2.1 0 8) (fun i => σ2.1 i 8) 0) (acc (σ2.1 0 9) (fun i => σ2.1 i 9) 0) (enS σ2 0) (opN σ2 0) (nI u) (nI u') (nI (0 + 1)) := by
    rw [lp_L_isSound_38_s, x_levelCount n hR, Option.bind_some]
    dsimp only
    rw [if_neg (by rw [lt_nI (by omega) (by omega)]; omega), of_7 n hR (by omega), Option.bind_some]
    dsimp only
    rw [of_8 n hR (by omega), Option.bind_some]
    dsimp only
    rw [if_pos (by decide)]
    unfold lp_L_isSound_230
    rw [add1_nI, Int32.zero_add, Int32.zero_add]
    rfl
  exact e0.trans (e3.trans h5)
end SO
