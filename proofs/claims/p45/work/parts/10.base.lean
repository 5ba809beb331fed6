/-! PURE. the memory's reads behind writes; ids; the two systems' simple methods, evaluated -/
theorem get_wi (σ : Mem) (i k : Nat) (v : Int32) (a b : Nat) : (wi σ i k v).1 a b = if a = i ∧ b = k then v else σ.1 a b := by
  unfold wi upd
  by_cases h : a = i
  · by_cases h2 : b = k <;> simp [h, h2]
  · simp [h]
theorem get_wi2 (σ : Mem) (i k : Nat) (v : Int32) : (wi σ i k v).2 = σ.2 := rfl
theorem get_wr (σ : Mem) (i k v : Nat) (a b : Nat) : (wr σ i k v).2 a b = if a = i ∧ b = k then v else σ.2 a b := by
  unfold wr va_up
  by_cases h : a = i
  · by_cases h2 : b = k <;> simp [h, h2]
  · simp [h]
theorem get_wr1 (σ : Mem) (i k v : Nat) : (wr σ i k v).1 = σ.1 := rfl
theorem wi_eq {σ : Mem} {i k : Nat} {v : Int32} {a b : Nat} (h1 : a = i) (h2 : b = k) : (wi σ i k v).1 a b = v := by rw [get_wi, if_pos ⟨h1, h2⟩]
theorem wi_o {σ : Mem} {i k : Nat} {v : Int32} {a b : Nat} (h : a ≠ i ∨ b ≠ k) : (wi σ i k v).1 a b = σ.1 a b := by
  rw [get_wi, if_neg]
  intro h2
  rcases h with h | h
  · exact h h2.1
  · exact h h2.2
theorem ok_lv {m k : Nat} (hm : m < 2) (hk : k < 7) : Ok (10 * m + k) 0 :=
  (by decide +kernel : ∀ m, m < 2 → ∀ k, k < 7 → Ok (10 * m + k) 0) m hm k hk
theorem ok_rq {m p : Nat} (hm : m < 2) (h1 : 20 + 8 * m ≤ p) (h2 : p < 28 + 8 * m) : Ok p 2 := by
  have h := (by decide +kernel : ∀ m, m < 2 → ∀ q, q < 8 → Ok (20 + 8 * m + q) 2) m hm (p - (20 + 8 * m)) (by omega)
  rwa [show 20 + 8 * m + (p - (20 + 8 * m)) = p by omega] at h
theorem rf_0 {m : Nat} (hm : m < 2) : rf (10 * m + 7) 0 = 10 * m := (by decide +kernel : ∀ m, m < 2 → rf (10 * m + 7) 0 = 10 * m) m hm
theorem rf_1 {m : Nat} (hm : m < 2) : rf (10 * m + 7) 1 = 36 + m := (by decide +kernel : ∀ m, m < 2 → rf (10 * m + 7) 1 = 36 + m) m hm
theorem rf_2 {m : Nat} (hm : m < 2) : rf (10 * m + 7) 2 = 10 * m + 9 := (by decide +kernel : ∀ m, m < 2 → rf (10 * m + 7) 2 = 10 * m + 9) m hm
theorem rf_3 {m : Nat} (hm : m < 2) : rf (10 * m + 7) 3 = 10 * m + 8 := (by decide +kernel : ∀ m, m < 2 → rf (10 * m + 7) 3 = 10 * m + 8) m hm
theorem rf_w {m : Nat} (hm : m < 2) : rf (10 * m + 9) 0 = 38 + m := (by decide +kernel : ∀ m, m < 2 → rf (10 * m + 9) 0 = 38 + m) m hm
/-- small ints -/
theorem n7 : (7 : Int32) = nI 7 := rfl
theorem n8 : (8 : Int32) = nI 8 := rfl
theorem n0 : (0 : Int32) = nI 0 := rfl
theorem n1 : (1 : Int32) = nI 1 := rfl
theorem nI_cl {j : Nat} (h : j < 100000) : (nI j).toNatClampNeg = j := nI_clamp (by omega)
theorem lt_nI {a b : Nat} (ha : a < 100000) (hb : b < 100000) : nI a < nI b ↔ a < b := nI_ltI (by omega) (by omega)
theorem le_nI {a b : Nat} (ha : a < 100000) (hb : b < 100000) : nI a ≤ nI b ↔ a ≤ b := nI_leI (by omega) (by omega)
theorem eq_nI {a b : Nat} (ha : a < 100000) (hb : b < 100000) : nI a = nI b ↔ a = b := nI_eq (by omega) (by omega)
theorem inR_nI {j n : Nat} (h : j < n) (hn : n < 100000) : inR (nI j) n := nI_in h (by omega)
theorem add_nI (a b : Nat) : nI a + nI b = nI (a + b) := nI_add a b
theorem add1_nI (a : Nat) : nI a + 1 = nI (a + 1) := nI_1 a
/-- the shape of a mine's references -/
def ShM (σ : Mem) (m : Nat) : Prop := m < 2 ∧ (∀ j, j < 7 → σ.2 (36 + m) j = 10 * m + j) ∧ (∀ p, p < 8 → 20 + 8 * m ≤ σ.2 (38 + m) p ∧ σ.2 (38 + m) p < 28 + 8 * m) ∧ ∀ p q, p < 8 → q < 8 → σ.2 (38 + m) p = σ.2 (38 + m) q → p = q
theorem ShM.to {σ σ' : Mem} {m : Nat} (h : ShM σ m) (e : σ'.2 = σ.2) : ShM σ' m := by
  unfold ShM at h ⊢
  rw [e]
  exact h
theorem ev_place (n : Nat) {σ : Mem} {m k : Nat} (h : ShM σ m) (hk : k < 7) : sp_X1_place n σ (10 * m + 7) (nI k) = some (10 * m + k, σ) := by
  obtain ⟨hm, hp, -⟩ := h
  have e : σ.2 (rf (10 * m + 7) 1) (nI k).toNatClampNeg = 10 * m + k := by rw [rf_1 hm, nI_cl (by omega), hp k hk]
  unfold sp_X1_place
  rw [if_neg (nI_pos (by omega)), if_neg (show ¬ (7 : Int32) ≤ nI k by rw [n7, le_nI (by omega) (by omega)]; omega), if_pos ⟨inR_nI hk (by omega), by rw [e]; exact ok_lv hm hk⟩, e]
/-- a level outside 0..6 is the surface -/
theorem ev_place_neg (n : Nat) {σ : Mem} {m : Nat} (hm : m < 2) {a : Int32} (h : a < 0 ∨ 7 ≤ a) : sp_X1_place n σ (10 * m + 7) a = some (10 * m, σ) := by
  unfold sp_X1_place
  rw [rf_0 hm]
  by_cases h0 : a < 0
  · rw [if_pos h0]
  · rw [if_neg h0, if_pos (h.resolve_left h0)]
/-- sums of ints, from the left -/
def acc (x : Int32) (f : Nat → Int32) : Nat → Int32
  | 0 => x
  | j + 1 => acc x f j + f (j + 1)
def sN (f : Nat → Nat) : Nat → Nat
  | 0 => 0
  | j + 1 => sN f j + f (j + 1)
theorem acc_cong {x : Int32} {f g : Nat → Int32} : ∀ {j : Nat}, (∀ i, 1 ≤ i → i ≤ j → f i = g i) → acc x f j = acc x g j
  | 0, _ => rfl
  | j + 1, h => by rw [acc, acc, acc_cong (fun i h1 h2 => h i h1 (by omega)), h (j + 1) (by omega) (by omega)]
theorem sN_cong {f g : Nat → Nat} : ∀ {j : Nat}, (∀ i, 1 ≤ i → i ≤ j → f i = g i) → sN f j = sN g j
  | 0, _ => rfl
  | j + 1, h => by rw [sN, sN, sN_cong (fun i h1 h2 => h i h1 (by omega)), h (j + 1) (by omega) (by omega)]
theorem sN_le {f : Nat → Nat} {c : Nat} : ∀ {j : Nat}, (∀ i, 1 ≤ i → i ≤ j → f i ≤ c) → sN f j ≤ j * c
  | 0, _ => Nat.le_of_eq (by rw [sN, Nat.zero_mul])
  | j + 1, h => by
    have h1 := sN_le (f := f) (c := c) (j := j) (fun i h1 h2 => h i h1 (by omega))
    have h2 := h (j + 1) (by omega) (by omega)
    rw [sN, Nat.succ_mul]
    omega
theorem sN_mono {f : Nat → Nat} {i : Nat} : ∀ {j : Nat}, i ≤ j → sN f i ≤ sN f j
  | 0, h => by rw [show i = 0 by omega]; exact Nat.le_refl _
  | j + 1, h => by
    rcases Nat.lt_or_ge i (j + 1) with q | q
    · have := sN_mono (f := f) (i := i) (j := j) (by omega)
      rw [sN]
      omega
    · rw [show i = j + 1 by omega]
      exact Nat.le_refl _
theorem acc_nI {f : Nat → Int32} {g : Nat → Nat} (x : Nat) : ∀ {j : Nat}, (∀ i, 1 ≤ i → i ≤ j → f i = nI (g i)) → acc (nI x) f j = nI (x + sN g j)
  | 0, _ => rfl
  | j + 1, h => by rw [acc, acc_nI x (fun i h1 h2 => h i h1 (by omega)), h (j + 1) (by omega) (by omega), add_nI, sN, Nat.add_assoc]
/-- the open width of a level, of either system -/
def owC (σ : Mem) (m k : Nat) : Int32 := if σ.1 (10 * m + k) 4 = 0 then 0 else σ.1 (10 * m + k) 2
theorem ev_openWidth (n : Nat) (σ : Mem) (m k : Nat) : sp_X0_openWidth n σ (10 * m + k) = some (owC σ m k, σ) := by
  unfold sp_X0_openWidth owC
  split <;> rfl
theorem lp_openWidths (n : Nat) {σ : Mem} {m L : Nat} (h : ShM σ m) (hL : σ.1 (10 * m + 7) 4 = nI L) (hL6 : L ≤ 6) : ∀ (d k j : Nat), j + d = L → d < k → lp_X1_openWidths_4 n (10 * m + 7) k σ (acc 0 (owC σ m) j) (nI (j + 1)) = some (acc 0 (owC σ m) L, σ) := by
  intro d
  induction d with
  | zero =>
    intro k j hj hk
    obtain ⟨k, rfl⟩ : ∃ z, k = z + 1 := ⟨k - 1, by omega⟩
    rw [lp_X1_openWidths_4_s, hL, if_pos ((lt_nI (by omega) (by omega)).mpr (by omega)), show j = L by omega]
  | succ d ih =>
    intro k j hj hk
    obtain ⟨k, rfl⟩ : ∃ z, k = z + 1 := ⟨k - 1, by omega⟩
    rw [lp_X1_openWidths_4_s, hL, if_neg (by rw [lt_nI (by omega) (by omega)]; omega), ev_place n h (by omega)]
    simp only [Option.bind_some]
    rw [if_pos (ok_lv h.1 (by omega)), ev_openWidth]
    simp only [Option.bind_some, add1_nI]
    exact ih k (j + 1) (by omega) (by omega)
theorem ev_openWidths {n : Nat} (hn : 10 < n) {σ : Mem} {m L : Nat} (h : ShM σ m) (hL : σ.1 (10 * m + 7) 4 = nI L) (hL6 : L ≤ 6) : sp_X1_openWidths n σ (10 * m + 7) = some (acc 0 (owC σ m) L, σ) := by
  unfold sp_X1_openWidths
  exact lp_openWidths n h hL hL6 L n 0 (by omega) (by omega)

/-! AIR, as numbers: gN what goes into a gallery, sF the widths from level j on, arN what arrives, airN a level's air -/
def gN (u w s : Nat) : Nat := if s = 0 then 0 else u * w / s
theorem gN_le {u w s : Nat} (h : w ≤ s) : gN u w s ≤ u := by
  unfold gN
  split
  · omega
  · exact Nat.div_le_of_le_mul (by rw [Nat.mul_comm s u]; exact Nat.mul_le_mul_left u h)
theorem gN_mono {u v w s : Nat} (h : u ≤ v) : gN u w s ≤ gN v w s := by
  unfold gN
  split
  · omega
  · exact Nat.div_le_div_right (Nat.mul_le_mul_right w h)
theorem gN_step {u w s : Nat} (h : w ≤ s) : gN (u + 1) w s ≤ gN u w s + 1 := by
  unfold gN
  split
  · omega
  · rename_i hs
    have h1 : (u + 1) * w ≤ u * w + s := by rw [Nat.succ_mul]; omega
    calc (u + 1) * w / s ≤ (u * w + s) / s := Nat.div_le_div_right h1
      _ = u * w / s + 1 := Nat.add_div_right _ (by omega)
/-- widths of the levels j+1 .. L -/
def sF (W : Nat → Nat) (L j : Nat) : Nat := sN W L - sN W j
theorem sF_w {W : Nat → Nat} {L j : Nat} (h : j < L) : W (j + 1) ≤ sF W L j := by
  have := sN_mono (f := W) (i := j + 1) (j := L) (by omega)
  unfold sF
  rw [sN] at this
  omega
theorem sF_next {W : Nat → Nat} {L j : Nat} (h : j < L) : sF W L (j + 1) = sF W L j - W (j + 1) := by
  unfold sF
  rw [sN]
  omega
/-- what arrives at level j+1 -/
def arN (W : Nat → Nat) (L u : Nat) : Nat → Nat
  | 0 => u
  | j + 1 => arN W L u j - gN (arN W L u j) (W (j + 1)) (sF W L j)
def airN (W : Nat → Nat) (L u k : Nat) : Nat := gN (arN W L u (k - 1)) (W k) (sF W L (k - 1))
theorem arN_le (W : Nat → Nat) (L u : Nat) : ∀ j, arN W L u j ≤ u
  | 0 => Nat.le_refl _
  | j + 1 => by
    have := arN_le W L u j
    rw [arN]
    omega
theorem rfm_1 : rf 41 1 = 42 := rfl
theorem rfm_2 : rf 41 2 = 43 := rfl
theorem rfm_3 : rf 41 3 = 44 := rfl
theorem rfm_4 : rf 41 4 = 45 := rfl
theorem rfm_5 : rf 41 5 = 46 := rfl
theorem rfm_11 : rf 41 11 = 47 := rfl
theorem rfm_12 : rf 41 12 = 48 := rfl
