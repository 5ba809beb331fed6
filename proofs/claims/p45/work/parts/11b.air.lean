/-! PURE. followAir's memory, and the model's air -/
theorem ev_galleryOf {n : Nat} (hn : 10 < n) {σ : Mem} {m L : Nat} {W : Nat → Nat} {u : Nat} (h : ShM σ m) (hL : σ.1 (10 * m + 7) 4 = nI L) (hL6 : L ≤ 6) (hW : NW σ m L W) (hu : u < 1000) :
    ∃ g, sp_X1_galleryOf n σ (10 * m + 7) (nI (u + 1)) (nI (sF W L 0)) = some (nI g, σ) ∧ g ≤ L ∧ ∀ i, 1 ≤ i → i ≤ L → airN W L (u + 1) i = airN W L u i + (if i = g then 1 else 0) := by
  unfold sp_X1_galleryOf
  exact lp_galleryOf n (a1 := nI (u + 1)) (a2 := nI (sF W L 0)) (l1 := nI (u + 1)) (l2 := nI (sF W L 0)) h hL hL6 hW hu L n 0 (by omega) (by omega) rfl (fun i h1 h2 => by omega)
/-- all but the levels' unitsFollowed is as in σ0, and these tell the air of u units -/
def FA (σ0 σ : Mem) (m L : Nat) (W : Nat → Nat) (u : Nat) : Prop := σ.2 = σ0.2 ∧ (∀ a b, (b ≠ 6 ∨ a < 10 * m ∨ 10 * m + 6 < a) → σ.1 a b = σ0.1 a b) ∧ ∀ i, 1 ≤ i → i ≤ L → σ.1 (10 * m + i) 6 = nI (airN W L u i)
theorem lp_followAir (n : Nat) (hn : 10 < n) {σ0 : Mem} {m L : Nat} {W : Nat → Nat} {f : Nat} (h : ShM σ0 m) (hL : σ0.1 (10 * m + 7) 4 = nI L) (hL6 : L ≤ 6) (hW : NW σ0 m L W) (hf : f ≤ 1000) (hfan : σ0.1 (10 * m + 7) 5 = nI f) : ∀ (d k u : Nat) (σ : Mem), u + d = f → d < k → FA σ0 σ m L W u →
    ∃ σ', lp_X1_followAir_32 n (10 * m + 7) k σ (nI (sF W L 0)) (nI (u + 1)) = some ((), σ') ∧ FA σ0 σ' m L W f := by
  intro d
  induction d with
  | zero =>
    intro k u σ hj hk hF
    obtain ⟨k, rfl⟩ : ∃ z, k = z + 1 := ⟨k - 1, by omega⟩
    refine ⟨σ, ?_, by rw [← show u = f by omega]; exact hF⟩
    rw [lp_X1_followAir_32_s, hF.2.1 _ _ (by omega), hfan, if_pos ((lt_nI (by omega) (by omega)).mpr (by omega))]
  | succ d ih =>
    intro k u σ hj hk hF
    obtain ⟨k, rfl⟩ : ∃ z, k = z + 1 := ⟨k - 1, by omega⟩
    have h' := h.to hF.1
    have hW' : NW σ m L W := fun i h1 h2 => by rw [owC_cong (hF.2.1 _ _ (Or.inl (by omega))) (hF.2.1 _ _ (Or.inl (by omega)))]; exact hW i h1 h2
    obtain ⟨g, e1, hg, hi⟩ := ev_galleryOf hn h' (by rw [hF.2.1 _ _ (by omega)]; exact hL) hL6 hW' (u := u) (by omega)
    rw [lp_X1_followAir_32_s, hF.2.1 _ _ (by omega), hfan, if_neg (by rw [lt_nI (by omega) (by omega)]; omega), e1]
    simp only [Option.bind_some]
    rw [ev_place n h' (by omega)]
    simp only [Option.bind_some]
    rw [if_pos (ok_lv h.1 (by omega))]
    simp only [lm, add1_nI]
    refine ih k (u + 1) _ (by omega) (by omega) ⟨hF.1, fun a b hab => ?_, fun i h1 h2 => ?_⟩
    · rw [wi_o (by omega)]
      exact hF.2.1 a b hab
    · rw [hi i h1 h2, get_wi]
      by_cases e : i = g
      · rw [if_pos ⟨by omega, rfl⟩, if_pos e, ← e, hF.2.2 i h1 h2, add1_nI]
      · rw [if_neg (by omega), if_neg e, hF.2.2 i h1 h2]
        rfl
theorem lp_followAir0 (n : Nat) (hn : 1010 < n) {σ0 : Mem} {m L : Nat} {W : Nat → Nat} {f : Nat} (h : ShM σ0 m) (hL : σ0.1 (10 * m + 7) 4 = nI L) (hL6 : L ≤ 6) (hW : NW σ0 m L W) (hf : f ≤ 1000) (hfan : σ0.1 (10 * m + 7) 5 = nI f) : ∀ (d k j : Nat) (σ : Mem), j + d = L + 1 → d < k → σ.2 = σ0.2 → (∀ a b, (b ≠ 6 ∨ a < 10 * m ∨ 10 * m + 6 < a) → σ.1 a b = σ0.1 a b) → (∀ i, i < j → σ.1 (10 * m + i) 6 = 0) →
    ∃ σ', lp_X1_followAir_2 n (10 * m + 7) k σ (nI j) = some ((), σ') ∧ FA σ0 σ' m L W f := by
  intro d
  induction d with
  | zero =>
    intro k j σ hj hk h2 hs hz
    obtain ⟨k, rfl⟩ : ∃ z, k = z + 1 := ⟨k - 1, by omega⟩
    have hF : FA σ0 σ m L W 0 := ⟨h2, hs, fun i h1 h3 => by rw [hz i (by omega), airN_0]; rfl⟩
    have hW' : NW σ m L W := fun i h1 h3 => by rw [owC_cong (hs _ _ (Or.inl (by omega))) (hs _ _ (Or.inl (by omega)))]; exact hW i h1 h3
    obtain ⟨σ', e1, e2⟩ := lp_followAir n (by omega) h hL hL6 hW hf hfan f n 0 σ (by omega) (by omega) hF
    refine ⟨σ', ?_, e2⟩
    rw [lp_X1_followAir_2_s, hs _ _ (by omega), hL, if_pos ((lt_nI (by omega) (by omega)).mpr (by omega)), ev_openWidths (by omega) (h.to h2) (by rw [hs _ _ (by omega)]; exact hL) hL6]
    simp only [Option.bind_some]
    rw [n0, acc_nI (g := W) 0 (fun i h1 h2 => (hW' i h1 h2).1), Nat.zero_add, show sN W L = sF W L 0 from rfl]
    exact e1
  | succ d ih =>
    intro k j σ hj hk h2 hs hz
    obtain ⟨k, rfl⟩ : ∃ z, k = z + 1 := ⟨k - 1, by omega⟩
    rw [lp_X1_followAir_2_s, hs _ _ (by omega), hL, if_neg (by rw [lt_nI (by omega) (by omega)]; omega), ev_place n (h.to h2) (by omega)]
    simp only [Option.bind_some]
    rw [if_pos (ok_lv h.1 (by omega))]
    simp only [lm, add1_nI]
    refine ih k (j + 1) _ (by omega) (by omega) h2 (fun a b hab => ?_) (fun i hi => ?_)
    · rw [wi_o (by omega)]
      exact hs a b hab
    · rw [get_wi]
      by_cases e : i = j
      · rw [if_pos ⟨by omega, rfl⟩]
      · rw [if_neg (by omega)]
        exact hz i (by omega)
theorem ev_followAir {n : Nat} (hn : 1010 < n) {σ : Mem} {m L : Nat} {W : Nat → Nat} {f : Nat} (h : ShM σ m) (hL : σ.1 (10 * m + 7) 4 = nI L) (hL6 : L ≤ 6) (hW : NW σ m L W) (hf : f ≤ 1000) (hfan : σ.1 (10 * m + 7) 5 = nI f) :
    ∃ σ', sp_X1_followAir n σ (10 * m + 7) = some ((), σ') ∧ FA σ σ' m L W f := by
  unfold sp_X1_followAir
  rw [n0]
  exact lp_followAir0 n hn h hL hL6 hW hf hfan (L + 1) n 0 σ (by omega) (by omega) rfl (fun _ _ _ => rfl) (fun i hi => by omega)
/-! the model -/
def NM (σ : Mem) (L : Nat) (W : Nat → Nat) : Prop := ∀ k, 1 ≤ k → k ≤ L → (σ.1 46 k = 0 ∧ W k = 0) ∨ (¬ σ.1 46 k = 0 ∧ σ.1 44 k = nI (W k) ∧ 1 ≤ W k ∧ W k ≤ 20)
theorem NM_le {σ : Mem} {L : Nat} {W : Nat → Nat} (h : NM σ L W) {k : Nat} (h1 : 1 ≤ k) (h2 : k ≤ L) : W k ≤ 20 := by
  rcases h k h1 h2 with ⟨-, q⟩ | ⟨-, -, -, q⟩ <;> omega
theorem NM_s {σ : Mem} {L : Nat} {W : Nat → Nat} (h : NM σ L W) (hL : L ≤ 6) (j : Nat) : sF W L j ≤ 120 := by
  have : sN W L ≤ L * 20 := sN_le (fun i h1 h2 => NM_le h h1 h2)
  unfold sF
  omega
theorem lp_widthsBelow (n : Nat) {σ : Mem} {L : Nat} {W : Nat → Nat} {a1 l1 : Int32} {j : Nat} (hL : σ.1 41 0 = nI L) (hL6 : L ≤ 6) (hW : NM σ L W) : ∀ (d k i : Nat), i + d = L → d < k → j ≤ i → lp_X6_widthsBelow_6 n 41 a1 k σ l1 (nI (sN W i - sN W j)) (nI (i + 1)) = some (nI (sF W L j), σ) := by
  intro d
  induction d with
  | zero =>
    intro k i hi hk hj
    obtain ⟨k, rfl⟩ : ∃ z, k = z + 1 := ⟨k - 1, by omega⟩
    rw [lp_X6_widthsBelow_6_s, hL, if_pos ((lt_nI (by omega) (by omega)).mpr (by omega)), show i = L by omega]
    rfl
  | succ d ih =>
    intro k i hi hk hj
    obtain ⟨k, rfl⟩ : ∃ z, k = z + 1 := ⟨k - 1, by omega⟩
    have hm := sN_mono (f := W) (i := j) (j := i) hj
    rw [lp_X6_widthsBelow_6_s, hL, if_neg (by rw [lt_nI (by omega) (by omega)]; omega), if_pos (inR_nI (by omega) (by omega))]
    simp only [nI_cl (show i + 1 < 100000 by omega), rfm_5, rfm_3]
    rcases hW (i + 1) (by omega) (by omega) with ⟨q1, q2⟩ | ⟨q1, q2, -, -⟩
    · rw [if_pos q1, n0, add_nI, add1_nI, show sN W i - sN W j + 0 = sN W (i + 1) - sN W j by rw [sN, q2]; omega]
      exact ih k (i + 1) (by omega) (by omega) (by omega)
    · rw [if_neg q1, if_pos (inR_nI (by omega) (by omega)), q2, add_nI, add1_nI, show sN W i - sN W j + W (i + 1) = sN W (i + 1) - sN W j by rw [sN]; omega]
      exact ih k (i + 1) (by omega) (by omega) (by omega)
theorem ev_widthsBelow {n : Nat} (hn : 10 < n) {σ : Mem} {L : Nat} {W : Nat → Nat} {j : Nat} (hL : σ.1 41 0 = nI L) (hL6 : L ≤ 6) (hW : NM σ L W) (hj : j ≤ L) : sp_X6_widthsBelow n σ 41 (nI j) = some (nI (sF W L j), σ) := by
  unfold sp_X6_widthsBelow
  have := lp_widthsBelow n (a1 := nI j) (l1 := nI j) (j := j) hL hL6 hW (L - j) n j (by omega) (by omega) (Nat.le_refl _)
  rw [Nat.sub_self] at this
  rw [add1_nI]
  exact this
theorem lp_air (n : Nat) (hn : 10 < n) {σ : Mem} {L : Nat} {W : Nat → Nat} {a1 : Int32} {u i : Nat} (hL : σ.1 41 0 = nI L) (hL6 : L ≤ 6) (hW : NM σ L W) (hu : u ≤ 1000) (hi : i ≤ L) : ∀ (d k j : Nat), j + d + 1 = i → d + 1 < k → lp_X6_air_7 n 41 a1 k σ (nI i) (nI (arN W L u j)) (nI (j + 1)) = some (nI (airN W L u i), σ) := by
  intro d
  induction d with
  | zero =>
    intro k j hj hk
    obtain ⟨k, rfl⟩ : ∃ z, k = z + 1 := ⟨k - 1, by omega⟩
    have har := arN_le W L u j
    have hsn := sF_next (W := W) (L := L) (j := j) (by omega)
    have hsw := sF_w (W := W) (L := L) (j := j) (by omega)
    have hs := NM_s hW hL6 j
    have e0 : airN W L u i = gN (arN W L u j) (W (j + 1)) (sF W L j) := by rw [← hj]; rfl
    have hw20 := NM_le hW (k := j + 1) (by omega) (by omega)
    have huw : arN W L u j * W (j + 1) ≤ 1000 * 20 := Nat.mul_le_mul (by omega) hw20
    rw [lp_X6_air_7_s, if_neg (by rw [lt_nI (by omega) (by omega)]; omega), ev_widthsBelow hn hL hL6 hW (by omega)]
    simp only [Option.bind_some]
    rw [if_pos (inR_nI (by omega) (by omega))]
    simp only [nI_cl (show j + 1 < 100000 by omega), rfm_5, rfm_3]
    rcases hW (j + 1) (by omega) (by omega) with ⟨q1, q2⟩ | ⟨q1, q2, q3, q4⟩
    · rw [if_pos q1, if_pos (by rw [hj]), e0, q2]
      unfold gN
      split <;> simp [nI]
    · rw [if_neg q1]
      by_cases hb : sF W L (j + 1) = 0
      · rw [if_pos (by rw [hb]; rfl), if_pos (by rw [hj]), e0]
        have : sF W L j = W (j + 1) := by omega
        unfold gN
        rw [if_neg (by omega), this, Nat.mul_div_cancel _ (by omega)]
      · have hc : sF W L j = W (j + 1) + sF W L (j + 1) := by omega
        rw [if_neg (by rw [n0, eq_nI (by omega) (by omega)]; exact hb), if_pos (inR_nI (by omega) (by omega)), if_pos (inR_nI (by omega) (by omega)), q2, add_nI, ← hc, if_pos (by rw [n0, eq_nI (by omega) (by omega)]; omega), if_pos (by rw [hj]), pk_mul, pk_div (by omega) (by omega) (by omega), e0]
        unfold gN
        rw [if_neg (by omega)]
  | succ d ih =>
    intro k j hj hk
    obtain ⟨k, rfl⟩ : ∃ z, k = z + 1 := ⟨k - 1, by omega⟩
    have har := arN_le W L u j
    have hsn := sF_next (W := W) (L := L) (j := j) (by omega)
    have hsw := sF_w (W := W) (L := L) (j := j) (by omega)
    have hs := NM_s hW hL6 j
    have hw20 := NM_le hW (k := j + 1) (by omega) (by omega)
    have huw : arN W L u j * W (j + 1) ≤ 1000 * 20 := Nat.mul_le_mul (by omega) hw20
    have hg : gN (arN W L u j) (W (j + 1)) (sF W L j) ≤ arN W L u j := gN_le hsw
    have hne : ¬ nI (j + 1) = nI i := by rw [eq_nI (by omega) (by omega)]; omega
    have ea : nI (arN W L u j) - nI (gN (arN W L u j) (W (j + 1)) (sF W L j)) = nI (arN W L u (j + 1)) := by
      rw [pk_sub hg]
      rfl
    have key : ∀ x : Int32, x = nI (gN (arN W L u j) (W (j + 1)) (sF W L j)) → lp_X6_air_7 n 41 a1 k σ (nI i) (nI (arN W L u j) - x) (nI (j + 1) + 1) = some (nI (airN W L u i), σ) := by
      intro x hx
      rw [hx, ea, add1_nI]
      exact ih k (j + 1) (by omega) (by omega)
    rw [lp_X6_air_7_s, if_neg (by rw [lt_nI (by omega) (by omega)]; omega), ev_widthsBelow hn hL hL6 hW (by omega)]
    simp only [Option.bind_some]
    rw [if_pos (inR_nI (by omega) (by omega))]
    simp only [nI_cl (show j + 1 < 100000 by omega), rfm_5, rfm_3]
    rcases hW (j + 1) (by omega) (by omega) with ⟨q1, q2⟩ | ⟨q1, q2, q3, q4⟩
    · rw [if_pos q1, if_neg hne]
      refine key _ ?_
      rw [q2]
      unfold gN
      split <;> simp [nI]
    · rw [if_neg q1]
      by_cases hb : sF W L (j + 1) = 0
      · rw [if_pos (by rw [hb]; rfl), if_neg hne]
        refine key _ ?_
        have : sF W L j = W (j + 1) := by omega
        unfold gN
        rw [if_neg (by omega), this, Nat.mul_div_cancel _ (by omega)]
      · have hc : sF W L j = W (j + 1) + sF W L (j + 1) := by omega
        rw [if_neg (by rw [n0, eq_nI (by omega) (by omega)]; exact hb), if_pos (inR_nI (by omega) (by omega)), if_pos (inR_nI (by omega) (by omega)), q2, add_nI, ← hc, if_pos (by rw [n0, eq_nI (by omega) (by omega)]; omega), if_neg hne]
        refine key _ ?_
        rw [pk_mul, pk_div (by omega) (by omega) (by omega)]
        unfold gN
        rw [if_neg (by omega)]
theorem ev_air {n : Nat} (hn : 10 < n) {σ : Mem} {L : Nat} {W : Nat → Nat} {u i : Nat} (hL : σ.1 41 0 = nI L) (hL6 : L ≤ 6) (hW : NM σ L W) (hu : u ≤ 1000) (hf : σ.1 41 6 = nI u) (h1 : 1 ≤ i) (hi : i ≤ L) : sp_X6_air n σ 41 (nI i) = some (nI (airN W L u i), σ) := by
  unfold sp_X6_air
  rw [hf, n1]
  exact lp_air n hn hL hL6 hW hu hi (i - 1) n 0 (by omega) (by omega)
