/-! PURE. the air of the class: spread from branch to branch, and unit by unit -/
def NW (σ : Mem) (m L : Nat) (W : Nat → Nat) : Prop := ∀ k, 1 ≤ k → k ≤ L → owC σ m k = nI (W k) ∧ W k ≤ 20
theorem NW_sN {σ : Mem} {m L : Nat} {W : Nat → Nat} (h : NW σ m L W) {j : Nat} (hj : j ≤ L) : sN W j ≤ j * 20 := sN_le (fun i h1 h2 => (h i h1 (by omega)).2)
theorem NW_sF {σ : Mem} {m L : Nat} {W : Nat → Nat} (h : NW σ m L W) (hL : L ≤ 6) (j : Nat) : sF W L j ≤ 120 := by
  have := NW_sN h (j := L) (Nat.le_refl _)
  unfold sF
  omega
theorem ev_into (n : Nat) (σ : Mem) {u w s : Nat} (hu : u ≤ 1000) (hw : w ≤ 20) (hs : s ≤ 120) : sp_X1_intoGallery n σ (nI u) (nI w) (nI s) = some (nI (gN u w s), σ) := by
  have huw : u * w ≤ 1000 * 20 := Nat.mul_le_mul hu hw
  unfold sp_X1_intoGallery gN
  rw [n0]
  by_cases h : s = 0
  · rw [if_pos ((le_nI (by omega) (by omega)).mpr (by omega)), if_pos h]
  · rw [if_neg (by rw [le_nI (by omega) (by omega)]; omega), if_pos (by rw [eq_nI (by omega) (by omega)]; exact h), if_neg h, pk_mul, pk_div (by omega) (by omega) (by omega)]
/-- the memory behind the levels 1 .. j of spreadAir -/
def spA (σ : Mem) (m L : Nat) (W : Nat → Nat) (u : Nat) : Nat → Mem
  | 0 => σ
  | j + 1 => wi (spA σ m L W u j) (10 * m + (j + 1)) 5 (nI (airN W L u (j + 1)))
theorem spA_2 (σ : Mem) (m L : Nat) (W : Nat → Nat) (u : Nat) : ∀ j, (spA σ m L W u j).2 = σ.2
  | 0 => rfl
  | j + 1 => spA_2 σ m L W u j
theorem spA_o {σ : Mem} {m L : Nat} {W : Nat → Nat} {u : Nat} {a b : Nat} : ∀ {j : Nat}, (b = 5 → a ≤ 10 * m ∨ 10 * m + j < a) → (spA σ m L W u j).1 a b = σ.1 a b
  | 0, _ => rfl
  | j + 1, h => by
    rw [spA, wi_o (by
      by_cases hb : b = 5
      · rcases h hb with h | h
        · exact Or.inl (by omega)
        · exact Or.inl (by omega)
      · exact Or.inr hb)]
    exact spA_o (fun hb => by rcases h hb with h | h <;> omega)
theorem spA_at {σ : Mem} {m L : Nat} {W : Nat → Nat} {u : Nat} {i : Nat} (hi : 1 ≤ i) : ∀ {j : Nat}, i ≤ j → (spA σ m L W u j).1 (10 * m + i) 5 = nI (airN W L u i)
  | 0, h => by omega
  | j + 1, h => by
    rw [spA]
    by_cases e : i = j + 1
    · rw [wi_eq (by omega) rfl, e]
    · rw [wi_o (Or.inl (by omega))]
      exact spA_at hi (by omega)
theorem owC_cong {σ σ' : Mem} {m k : Nat} (h4 : σ'.1 (10 * m + k) 4 = σ.1 (10 * m + k) 4) (h2 : σ'.1 (10 * m + k) 2 = σ.1 (10 * m + k) 2) : owC σ' m k = owC σ m k := by
  unfold owC
  rw [h4, h2]
theorem lp_spreadAir (n : Nat) {σ : Mem} {m L : Nat} {W : Nat → Nat} {u : Nat} (h : ShM σ m) (hL : σ.1 (10 * m + 7) 4 = nI L) (hL6 : L ≤ 6) (hW : NW σ m L W) (hu : u ≤ 1000) : ∀ (d k j : Nat), j + d = L → d < k → lp_X1_spreadAir_12 n (10 * m + 7) k (spA σ m L W u j) (nI (arN W L u j)) (nI (sF W L j)) (nI (j + 1)) = some ((), spA σ m L W u L) := by
  intro d
  induction d with
  | zero =>
    intro k j hj hk
    obtain ⟨k, rfl⟩ : ∃ z, k = z + 1 := ⟨k - 1, by omega⟩
    rw [lp_X1_spreadAir_12_s, spA_o (fun h => by omega), hL, if_pos ((lt_nI (by omega) (by omega)).mpr (by omega)), show j = L by omega]
  | succ d ih =>
    intro k j hj hk
    obtain ⟨k, rfl⟩ : ∃ z, k = z + 1 := ⟨k - 1, by omega⟩
    have har := arN_le W L u j
    have hs := NW_sF hW hL6 j
    have hw := hW (j + 1) (by omega) (by omega)
    have hg : gN (arN W L u j) (W (j + 1)) (sF W L j) ≤ arN W L u j := gN_le (sF_w (by omega))
    have ho : ∀ j' : Nat, owC (spA σ m L W u j') m (j + 1) = nI (W (j + 1)) := fun j' => by rw [owC_cong (spA_o (fun h => by omega)) (spA_o (fun h => by omega)), hw.1]
    rw [lp_X1_spreadAir_12_s, spA_o (fun h => by omega), hL, if_neg (by rw [lt_nI (by omega) (by omega)]; omega), ev_place n (h.to (spA_2 σ m L W u j)) (by omega)]
    simp only [Option.bind_some]
    rw [if_pos (ok_lv h.1 (by omega)), ev_openWidth]
    simp only [Option.bind_some, ho]
    rw [ev_into n _ (by omega) hw.2 hs]
    simp only [Option.bind_some, lm]
    have e1 : wi (spA σ m L W u j) (10 * m + (j + 1)) 5 (nI (gN (arN W L u j) (W (j + 1)) (sF W L j))) = spA σ m L W u (j + 1) := rfl
    rw [e1, ev_openWidth]
    simp only [Option.bind_some, ho, add1_nI]
    rw [spA_at (by omega) (Nat.le_refl _), pk_sub (sF_w (by omega)), ← sF_next (by omega)]
    have e2 : nI (arN W L u j) - nI (airN W L u (j + 1)) = nI (arN W L u (j + 1)) := by
      have : airN W L u (j + 1) = gN (arN W L u j) (W (j + 1)) (sF W L j) := rfl
      rw [this, pk_sub hg]
      rfl
    rw [e2]
    exact ih k (j + 1) (by omega) (by omega)
theorem ev_spreadAir {n : Nat} (hn : 10 < n) {σ : Mem} {m L : Nat} {W : Nat → Nat} {u : Nat} (h : ShM σ m) (hL : σ.1 (10 * m + 7) 4 = nI L) (hL6 : L ≤ 6) (hW : NW σ m L W) (hu : u ≤ 1000) (hf : σ.1 (10 * m + 7) 5 = nI u) : sp_X1_spreadAir n σ (10 * m + 7) = some ((), spA σ m L W u L) := by
  unfold sp_X1_spreadAir
  rw [ev_openWidths hn h hL hL6]
  simp only [Option.bind_some]
  rw [hf, n0, acc_nI (g := W) 0 (fun i h1 h2 => (hW i h1 h2).1), Nat.zero_add, show sN W L = sF W L 0 from rfl, n1]
  exact lp_spreadAir n h hL hL6 hW hu L n 0 (by omega) (by omega)
/-! unit by unit -/
theorem arN_0 (W : Nat → Nat) (L : Nat) : ∀ j, arN W L 0 j = 0 := fun j => by have := arN_le W L 0 j; omega
theorem airN_0 (W : Nat → Nat) (L i : Nat) : airN W L 0 i = 0 := by
  unfold airN gN
  rw [arN_0]
  split <;> simp
theorem arN_same {W : Nat → Nat} {L u v j : Nat} (h : arN W L u j = arN W L v j) : ∀ {i : Nat}, j ≤ i → arN W L u i = arN W L v i
  | 0, hi => by rw [show j = 0 by omega] at h; exact h
  | i + 1, hi => by
    by_cases e : j = i + 1
    · rw [← e]
      exact h
    · rw [arN, arN, arN_same h (i := i) (by omega)]
theorem lp_galleryOf (n : Nat) {σ : Mem} {m L : Nat} {W : Nat → Nat} {u : Nat} {a1 a2 l1 l2 : Int32} (h : ShM σ m) (hL : σ.1 (10 * m + 7) 4 = nI L) (hL6 : L ≤ 6) (hW : NW σ m L W) (hu : u < 1000) : ∀ (d k j : Nat), j + d = L → d < k → arN W L (u + 1) j = arN W L u j + 1 → (∀ i, 1 ≤ i → i ≤ j → airN W L (u + 1) i = airN W L u i) →
    ∃ g, lp_X1_galleryOf_8 n (10 * m + 7) a1 a2 k σ l1 l2 (nI (arN W L (u + 1) j)) (nI (sF W L j)) (nI (j + 1)) = some (nI g, σ) ∧ g ≤ L ∧ ∀ i, 1 ≤ i → i ≤ L → airN W L (u + 1) i = airN W L u i + (if i = g then 1 else 0) := by
  intro d
  induction d with
  | zero =>
    intro k j hj hk ha hi
    obtain ⟨k, rfl⟩ : ∃ z, k = z + 1 := ⟨k - 1, by omega⟩
    refine ⟨0, ?_, by omega, fun i h1 h2 => by rw [hi i h1 (by omega), if_neg (by omega)]; rfl⟩
    rw [lp_X1_galleryOf_8_s, hL, if_pos ((lt_nI (by omega) (by omega)).mpr (by omega))]
    rfl
  | succ d ih =>
    intro k j hj hk ha hi
    obtain ⟨k, rfl⟩ : ∃ z, k = z + 1 := ⟨k - 1, by omega⟩
    have har := arN_le W L (u + 1) j
    have hs := NW_sF hW hL6 j
    have hw := hW (j + 1) (by omega) (by omega)
    have hws := sF_w (W := W) (L := L) (j := j) (by omega)
    have hg0 : gN (arN W L u j) (W (j + 1)) (sF W L j) ≤ arN W L u j := gN_le hws
    have hg1 := gN_mono (u := arN W L u j) (v := arN W L u j + 1) (w := W (j + 1)) (s := sF W L j) (by omega)
    have hg2 := gN_step (u := arN W L u j) hws
    rw [lp_X1_galleryOf_8_s, hL, if_neg (by rw [lt_nI (by omega) (by omega)]; omega), ev_place n h (by omega)]
    simp only [Option.bind_some]
    rw [if_pos (ok_lv h.1 (by omega)), ev_openWidth]
    simp only [Option.bind_some, hw.1]
    rw [ha, ev_into n _ (by omega) hw.2 hs]
    simp only [Option.bind_some, nI_pred]
    rw [ev_into n _ (by omega) hw.2 hs]
    simp only [Option.bind_some]
    have eu : airN W L u (j + 1) = gN (arN W L u j) (W (j + 1)) (sF W L j) := rfl
    have ev : airN W L (u + 1) (j + 1) = gN (arN W L u j + 1) (W (j + 1)) (sF W L j) := by rw [← ha]; rfl
    by_cases hq : gN (arN W L u j + 1) (W (j + 1)) (sF W L j) = gN (arN W L u j) (W (j + 1)) (sF W L j)
    · rw [if_pos (by rw [hq])]
      have e1 : nI (arN W L u j + 1) - nI (gN (arN W L u j + 1) (W (j + 1)) (sF W L j)) = nI (arN W L (u + 1) (j + 1)) := by
        rw [pk_sub (by omega), ← ha]
        rfl
      rw [e1, pk_sub hws, ← sF_next (by omega), add1_nI]
      refine ih k (j + 1) (by omega) (by omega) ?_ ?_
      · rw [arN, arN, ha, hq]
        omega
      · intro i h1 h2
        by_cases e : i = j + 1
        · rw [e, eu, ev, hq]
        · exact hi i h1 (by omega)
    · rw [if_neg (by rw [eq_nI (by omega) (by omega)]; exact hq)]
      refine ⟨j + 1, rfl, by omega, fun i h1 h2 => ?_⟩
      have hn : arN W L (u + 1) (j + 1) = arN W L u (j + 1) := by
        rw [arN, arN, ha]
        omega
      by_cases e : i = j + 1
      · rw [if_pos e, e, eu, ev]
        omega
      · rw [if_neg e]
        by_cases e2 : i ≤ j
        · exact hi i h1 e2
        · have := arN_same hn (i := i - 1) (by omega)
          unfold airN
          rw [this]
          rfl
