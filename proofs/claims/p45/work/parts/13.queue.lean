/-! PURE. the queue of requests -/
/-- the first place from j on, of d places, where g is x -/
def sr (g : Nat → Int32) (x : Int32) : Nat → Nat → Nat
  | 0, j => j
  | d + 1, j => if g j = x then j else sr g x d (j + 1)
theorem sr_spec (g : Nat → Int32) (x : Int32) : ∀ d j, j ≤ sr g x d j ∧ sr g x d j ≤ j + d ∧ (∀ p, j ≤ p → p < sr g x d j → g p ≠ x) ∧ (sr g x d j < j + d → g (sr g x d j) = x)
  | 0, j => ⟨Nat.le_refl _, Nat.le_refl _, fun p h1 h2 => absurd h2 (by rw [sr]; omega), fun h => absurd h (by rw [sr]; omega)⟩
  | d + 1, j => by
    rw [sr]
    by_cases h : g j = x
    · rw [if_pos h]
      exact ⟨Nat.le_refl _, by omega, fun p h1 h2 => by omega, fun _ => h⟩
    · rw [if_neg h]
      obtain ⟨a, b, c, e⟩ := sr_spec g x d (j + 1)
      refine ⟨by omega, by omega, fun p h1 h2 => ?_, fun h => e (by omega)⟩
      by_cases hp : p = j
      · rw [hp]
        exact h
      · exact c p (by omega) h2
theorem sr_cong {g g' : Nat → Int32} {x : Int32} : ∀ {d j : Nat}, (∀ p, j ≤ p → p < j + d → g p = g' p) → sr g x d j = sr g' x d j
  | 0, _, _ => rfl
  | d + 1, j, h => by rw [sr, sr, h j (by omega) (by omega), sr_cong (fun p h1 h2 => h p (by omega) (by omega))]
/-- a row of the class's queue -/
abbrev rw_ (σ : Mem) (m p : Nat) : Nat := σ.2 (38 + m) p
theorem ev_numberAt (n : Nat) {σ : Mem} {m p : Nat} (h : ShM σ m) (hp : p < 8) : sp_X4_numberAt n σ (10 * m + 9) (nI p) = some (σ.1 (rw_ σ m p) 0, σ) := by
  have hr := h.2.2.1 p hp
  unfold sp_X4_numberAt
  rw [if_neg (nI_pos (by omega)), if_neg (show ¬ (8 : Int32) ≤ nI p by rw [n8, le_nI (by omega) (by omega)]; omega)]
  simp only [nI_cl (show p < 100000 by omega), rf_w h.1]
  rw [if_pos ⟨inR_nI hp (by omega), ok_rq h.1 hr.1 hr.2⟩]
theorem lp_positionOf (n : Nat) {σ : Mem} {m W : Nat} {x a1 : Int32} (h : ShM σ m) (hs : σ.1 (10 * m + 9) 1 = nI W) (hW : W ≤ 8) : ∀ (d k j : Nat), j + d = W → d < k → lp_X4_positionOf_2 n (10 * m + 9) a1 k σ x (nI j) = some (nI (sr (fun p => σ.1 (rw_ σ m p) 0) x d j), σ) := by
  intro d
  induction d with
  | zero =>
    intro k j hj hk
    obtain ⟨k, rfl⟩ : ∃ z, k = z + 1 := ⟨k - 1, by omega⟩
    rw [lp_X4_positionOf_2_s, hs, if_pos ((le_nI (by omega) (by omega)).mpr (by omega)), sr]
  | succ d ih =>
    intro k j hj hk
    obtain ⟨k, rfl⟩ : ∃ z, k = z + 1 := ⟨k - 1, by omega⟩
    rw [lp_X4_positionOf_2_s, hs, if_neg (by rw [le_nI (by omega) (by omega)]; omega), ev_numberAt n h (by omega)]
    simp only [Option.bind_some]
    rw [sr]
    by_cases e : σ.1 (rw_ σ m j) 0 = x
    · rw [if_pos e, if_pos e]
    · rw [if_neg e, if_neg e, add1_nI]
      exact ih k (j + 1) (by omega) (by omega)
theorem ev_positionOf {n : Nat} (hn : 10 < n) {σ : Mem} {m W : Nat} {x : Int32} (h : ShM σ m) (hs : σ.1 (10 * m + 9) 1 = nI W) (hW : W ≤ 8) : sp_X4_positionOf n σ (10 * m + 9) x = some (nI (sr (fun p => σ.1 (rw_ σ m p) 0) x W 0), σ) := by
  unfold sp_X4_positionOf
  rw [n0]
  exact lp_positionOf n h hs hW W n 0 (by omega) (by omega)
theorem ev_holds {n : Nat} (hn : 10 < n) {σ : Mem} {m W : Nat} {x : Int32} (h : ShM σ m) (hs : σ.1 (10 * m + 9) 1 = nI W) (hW : W ≤ 8) : sp_X4_holds n σ (10 * m + 9) x = some (if sr (fun p => σ.1 (rw_ σ m p) 0) x W 0 = W then 0 else 1, σ) := by
  have hsp := sr_spec (fun p => σ.1 (rw_ σ m p) 0) x W 0
  unfold sp_X4_holds
  rw [ev_positionOf hn h hs hW]
  simp only [Option.bind_some]
  rw [hs]
  by_cases e : sr (fun p => σ.1 (rw_ σ m p) 0) x W 0 = W
  · rw [if_pos ((le_nI (by omega) (by omega)).mpr (by omega)), if_pos e]
  · rw [if_neg (by rw [le_nI (by omega) (by omega)]; omega), if_neg e]
/-- the model's search -/
theorem c60 : (60 : Int32).toNatClampNeg = 60 := by decide
theorem i60 : inR (60 : Int32) 73 := by decide
theorem ix4 {p : Nat} : (28 : Int32) + (4 : Int32) * nI p = nI (28 + 4 * p) := by
  rw [show (28 : Int32) = nI 28 from rfl, show (4 : Int32) = nI 4 from rfl, pk_mul, add_nI]
theorem lp_place (n : Nat) {σ : Mem} {W : Nat} {x a1 : Int32} (hs : σ.1 47 60 = nI W) (hW : W ≤ 8) : ∀ (d k j : Nat), j + d = W → d < k → lp_X6_place_2 n 41 a1 k σ x (nI j) = some (if sr (fun p => σ.1 47 (28 + 4 * p)) x d j = W then -1 else nI (sr (fun p => σ.1 47 (28 + 4 * p)) x d j), σ) := by
  intro d
  induction d with
  | zero =>
    intro k j hj hk
    obtain ⟨k, rfl⟩ : ∃ z, k = z + 1 := ⟨k - 1, by omega⟩
    rw [lp_X6_place_2_s, if_pos i60]
    simp only [rfm_11, c60, hs]
    rw [if_pos ((le_nI (by omega) (by omega)).mpr (by omega)), sr, if_pos (by omega)]
  | succ d ih =>
    intro k j hj hk
    obtain ⟨k, rfl⟩ : ∃ z, k = z + 1 := ⟨k - 1, by omega⟩
    rw [lp_X6_place_2_s, if_pos i60]
    simp only [rfm_11, c60, hs, ix4]
    rw [if_neg (by rw [le_nI (by omega) (by omega)]; omega), if_pos (inR_nI (by omega) (by omega))]
    simp only [nI_cl (show 28 + 4 * j < 100000 by omega)]
    rw [sr]
    by_cases e : σ.1 47 (28 + 4 * j) = x
    · rw [if_pos e, if_pos e, if_neg (by omega)]
    · rw [if_neg e, if_neg e, add1_nI]
      exact ih k (j + 1) (by omega) (by omega)
theorem ev_placeM {n : Nat} (hn : 10 < n) {σ : Mem} {W : Nat} {x : Int32} (hs : σ.1 47 60 = nI W) (hW : W ≤ 8) : sp_X6_place n σ 41 x = some (if sr (fun p => σ.1 47 (28 + 4 * p)) x W 0 = W then -1 else nI (sr (fun p => σ.1 47 (28 + 4 * p)) x W 0), σ) := by
  unfold sp_X6_place
  rw [n0]
  exact lp_place n hs hW W n 0 (by omega) (by omega)
/-! a request goes -/
theorem lp_remove (n : Nat) {σ0 : Mem} {m q : Nat} {a1 l1 l2 : Int32} {s : Int32} (h : ShM σ0 m) (hq : q < 8) : ∀ (d k i : Nat) (σ : Mem), i + d = 7 → d < k → q ≤ i → σ.1 = σ0.1 → (∀ a, a ≠ 38 + m → σ.2 a = σ0.2 a) → (∀ p, p < q → σ.2 (38 + m) p = σ0.2 (38 + m) p) → (∀ p, q ≤ p → p < i → σ.2 (38 + m) p = σ0.2 (38 + m) (p + 1)) → (∀ p, i ≤ p → p < 8 → σ.2 (38 + m) p = σ0.2 (38 + m) p) →
    ∃ σ', lp_X4_remove_34 n (10 * m + 9) a1 k σ l1 l2 (rw_ σ0 m q) (nI i) = some ((), σ') ∧ (∀ a b, (a ≠ 10 * m + 9 ∨ b ≠ 1) → σ'.1 a b = σ0.1 a b) ∧ σ'.1 (10 * m + 9) 1 = σ0.1 (10 * m + 9) 1 - 1 ∧ (∀ a, a ≠ 38 + m → σ'.2 a = σ0.2 a) ∧ (∀ p, p < q → rw_ σ' m p = rw_ σ0 m p) ∧ (∀ p, q ≤ p → p < 7 → rw_ σ' m p = rw_ σ0 m (p + 1)) ∧ rw_ σ' m 7 = rw_ σ0 m q := by
  intro d
  induction d with
  | zero =>
    intro k i σ hi hk hqi e1 e2 e3 e4 e5
    obtain ⟨k, rfl⟩ : ∃ z, k = z + 1 := ⟨k - 1, by omega⟩
    rw [lp_X4_remove_34_s, add1_nI, if_pos (show (8 : Int32) ≤ nI (i + 1) by rw [n8, le_nI (by omega) (by omega)]; omega), if_pos (by decide)]
    simp only [lm, rf_w h.1, show ((8 : Int32) - 1).toNatClampNeg = 7 from by decide]
    refine ⟨_, rfl, fun a b hab => ?_, ?_, fun a ha => ?_, fun p hp => ?_, fun p hp hp2 => ?_, ?_⟩
    · rw [wi_o hab, get_wr1, e1]
    · rw [wi_eq rfl rfl, get_wr1, e1]
    · rw [get_wi2]
      show (wr σ (38 + m) 7 (rw_ σ0 m q)).2 a = _
      rw [wr_ne _ _ _ _ ha]
      exact e2 a ha
    · show (wr σ (38 + m) 7 (rw_ σ0 m q)).2 (38 + m) p = _
      rw [get_wr, if_neg (by omega)]
      exact e3 p hp
    · show (wr σ (38 + m) 7 (rw_ σ0 m q)).2 (38 + m) p = _
      rw [get_wr, if_neg (by omega)]
      exact e4 p hp (by omega)
    · show (wr σ (38 + m) 7 (rw_ σ0 m q)).2 (38 + m) 7 = _
      rw [get_wr, if_pos ⟨rfl, rfl⟩]
  | succ d ih =>
    intro k i σ hi hk hqi e1 e2 e3 e4 e5
    obtain ⟨k, rfl⟩ : ∃ z, k = z + 1 := ⟨k - 1, by omega⟩
    have hr := h.2.2.1 (i + 1) (by omega)
    rw [lp_X4_remove_34_s, add1_nI, if_neg (show ¬ (8 : Int32) ≤ nI (i + 1) by rw [n8, le_nI (by omega) (by omega)]; omega)]
    simp only [nI_cl (show i + 1 < 100000 by omega), nI_cl (show i < 100000 by omega), rf_w h.1, lm]
    rw [if_pos ⟨inR_nI (by omega) (by omega), by rw [e5 _ (by omega) (by omega)]; exact ok_rq h.1 hr.1 hr.2⟩, if_pos (inR_nI (by omega) (by omega))]
    refine ih k (i + 1) _ (by omega) (by omega) (by omega) e1 (fun a ha => ?_) (fun p hp => ?_) (fun p hp hp2 => ?_) (fun p hp hp2 => ?_)
    · rw [wr_ne _ _ _ _ ha]
      exact e2 a ha
    · rw [get_wr, if_neg (by omega)]
      exact e3 p hp
    · rw [get_wr]
      by_cases e : p = i
      · rw [if_pos ⟨rfl, e⟩, e5 _ (by omega) (by omega), e]
      · rw [if_neg (by omega)]
        exact e4 p hp (by omega)
    · rw [get_wr, if_neg (by omega)]
      exact e5 p (by omega) hp2
theorem ev_remove {n : Nat} (hn : 10 < n) {σ : Mem} {m W q : Nat} {x : Int32} (h : ShM σ m) (hs : σ.1 (10 * m + 9) 1 = nI W) (hW : W ≤ 8) (hq : sr (fun p => σ.1 (rw_ σ m p) 0) x W 0 = q) (hqW : q < W) :
    ∃ σ', sp_X4_remove n σ (10 * m + 9) x = some ((), σ') ∧ (∀ a b, (a ≠ 10 * m + 9 ∨ b ≠ 1) → σ'.1 a b = σ.1 a b) ∧ σ'.1 (10 * m + 9) 1 = nI (W - 1) ∧ (∀ a, a ≠ 38 + m → σ'.2 a = σ.2 a) ∧ (∀ p, p < q → rw_ σ' m p = rw_ σ m p) ∧ (∀ p, q ≤ p → p < 7 → rw_ σ' m p = rw_ σ m (p + 1)) ∧ rw_ σ' m 7 = rw_ σ m q := by
  have hr := h.2.2.1 q (by omega)
  obtain ⟨σ', e0, e1, e2, e3⟩ := lp_remove n (a1 := x) (l1 := x) (l2 := nI q) (s := x) h (show q < 8 by omega) (7 - q) n q σ (by omega) (by omega) (Nat.le_refl _) rfl (fun _ _ => rfl) (fun _ _ => rfl) (fun p h1 h2 => by omega) (fun _ _ _ => rfl)
  refine ⟨σ', ?_, e1, by rw [e2, hs, show W = (W - 1) + 1 by omega, nI_pred]; rfl, e3⟩
  unfold sp_X4_remove
  rw [ev_positionOf hn h hs hW, hq]
  simp only [Option.bind_some]
  rw [hs, if_neg (by rw [le_nI (by omega) (by omega)]; omega), if_pos (show nI q < (8 : Int32) by rw [n8, lt_nI (by omega) (by omega)]; omega)]
  simp only [nI_cl (show q < 100000 by omega), rf_w h.1]
  rw [if_pos ⟨inR_nI (by omega) (by omega), ok_rq h.1 hr.1 hr.2⟩]
  exact e0
theorem lp_goes (n : Nat) {σ0 : Mem} {a1 l1 : Int32} {q W : Nat} (hs : σ0.1 47 60 = nI W) (hW : W < 8) (hq : q ≤ W) : ∀ (d k i : Nat) (σ : Mem), i + d = 28 + 4 * W → d < k → 28 + 4 * q ≤ i → σ.2 = σ0.2 → (∀ a b, a ≠ 47 → σ.1 a b = σ0.1 a b) → (∀ b, (b < 28 + 4 * q ∨ i ≤ b) → σ.1 47 b = σ0.1 47 b) → (∀ b, 28 + 4 * q ≤ b → b < i → σ.1 47 b = σ0.1 47 (b + 4)) →
    ∃ σ', lp_X6_goes_18 n 41 a1 k σ l1 (nI i) = some ((), σ') ∧ σ'.2 = σ0.2 ∧ (∀ a b, a ≠ 47 → σ'.1 a b = σ0.1 a b) ∧ (∀ b, (b < 28 + 4 * q ∨ 28 + 4 * W ≤ b) → σ'.1 47 b = σ0.1 47 b) ∧ (∀ b, 28 + 4 * q ≤ b → b < 28 + 4 * W → σ'.1 47 b = σ0.1 47 (b + 4)) := by
  intro d
  induction d with
  | zero =>
    intro k i σ hi hk hqi e1 e2 e3 e4
    obtain ⟨k, rfl⟩ : ∃ z, k = z + 1 := ⟨k - 1, by omega⟩
    refine ⟨σ, ?_, e1, e2, fun b hb => e3 b (by omega), fun b h1 h2 => e4 b h1 (by omega)⟩
    rw [lp_X6_goes_18_s, if_pos i60]
    simp only [rfm_11, c60]
    rw [e3 60 (by omega), hs, ix4, if_pos ((le_nI (by omega) (by omega)).mpr (by omega))]
  | succ d ih =>
    intro k i σ hi hk hqi e1 e2 e3 e4
    obtain ⟨k, rfl⟩ : ∃ z, k = z + 1 := ⟨k - 1, by omega⟩
    rw [lp_X6_goes_18_s, if_pos i60]
    simp only [rfm_11, c60]
    rw [e3 60 (by omega), hs, ix4, if_neg (by rw [le_nI (by omega) (by omega)]; omega), show (4 : Int32) = nI 4 from rfl, add_nI, add1_nI, if_pos (inR_nI (by omega) (by omega)), if_pos (inR_nI (by omega) (by omega))]
    simp only [nI_cl (show i + 4 < 100000 by omega), nI_cl (show i < 100000 by omega), lm]
    refine ih k (i + 1) _ (by omega) (by omega) (by omega) e1 (fun a b ha => ?_) (fun b hb => ?_) (fun b h1 h2 => ?_)
    · rw [wi_o (Or.inl ha)]
      exact e2 a b ha
    · rw [wi_o (by omega)]
      exact e3 b (by omega)
    · rw [get_wi]
      by_cases e : b = i
      · rw [if_pos ⟨rfl, e⟩, e3 _ (by omega), e]
      · rw [if_neg (by omega)]
        exact e4 b h1 (by omega)
theorem ev_goes {n : Nat} (hn : 40 < n) {σ : Mem} {W q : Nat} (hs : σ.1 47 60 = nI (W + 1)) (hW : W < 8) (hq : q ≤ W) :
    ∃ σ', sp_X6_goes n σ 41 (nI q) = some ((), σ') ∧ σ'.2 = σ.2 ∧ (∀ a b, a ≠ 47 → σ'.1 a b = σ.1 a b) ∧ σ'.1 47 60 = nI W ∧ (∀ b, b ≠ 60 → (b < 28 + 4 * q ∨ 28 + 4 * W ≤ b) → σ'.1 47 b = σ.1 47 b) ∧ (∀ b, 28 + 4 * q ≤ b → b < 28 + 4 * W → σ'.1 47 b = σ.1 47 (b + 4)) := by
  unfold sp_X6_goes
  rw [if_pos i60, if_pos i60]
  simp only [rfm_11, c60, lm, hs, nI_pred, ix4]
  obtain ⟨σ', e0, e1, e2, e3, e4⟩ := lp_goes n (σ0 := wi σ 47 60 (nI W)) (a1 := nI q) (l1 := nI q) (q := q) (W := W) (wi_eq rfl rfl) hW hq (4 * W - 4 * q) n (28 + 4 * q) _ (by omega) (by omega) (Nat.le_refl _) rfl (fun _ _ _ => rfl) (fun _ _ => rfl) (fun b h1 h2 => by omega)
  refine ⟨σ', e0, e1, fun a b ha => by rw [e2 a b ha, wi_o (Or.inl ha)], by rw [e3 60 (by omega), wi_eq rfl rfl], fun b hb hb2 => by rw [e3 b hb2, wi_o (Or.inr hb)], fun b h1 h2 => by rw [e4 b h1 h2, wi_o (by omega)]⟩
