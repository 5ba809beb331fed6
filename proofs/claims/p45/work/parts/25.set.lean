/-! PURE. the ops that set something; the plain counts -/
theorem op_put {B B' : Nat} {σ τ σ1 τ1 : Mem} {v : Int32} {c d : Option (Int32 × Mem)} (hB : B ≤ B') (hc : c = some (0, wi σ1 49 0 v)) (hd : d = some (v, τ1)) (ht : τ1.1 41 14 = 0) (h : RX B' σ1 τ1) (hf : FC σ σ1) (hm : FM τ τ1) : OpG B' σ τ c d :=
  ⟨0, _, v, τ1, hc, hd, ht, fun _ => wi_eq rfl rfl, h.to (Nat.le_refl _) (fun a b h1 _ _ _ => wi_o (by omega)) (fun _ _ => rfl) (fun _ _ _ _ _ _ => rfl), hf.trans (FC.out _ _ _), hm⟩
theorem rng (a lo hi : Int32) : (¬ a < lo ∧ a ≤ hi ∧ (∀ n σ, sp_X5_checkRange n σ a lo hi = some (.inl (), σ)) ∧ ∀ n τ, sp_X6_in n τ a lo hi = some (1, τ)) ∨ ((∀ n σ, sp_X5_checkRange n σ a lo hi = some (.inr "java/lang/IllegalArgumentException", σ)) ∧ ∀ n τ, sp_X6_in n τ a lo hi = some (0, τ)) := by
  unfold sp_X5_checkRange sp_X6_in
  by_cases h : a < lo
  · exact Or.inr ⟨fun n σ => by rw [if_pos h], fun n τ => by rw [if_pos h]⟩
  · by_cases g : a ≤ hi
    · exact Or.inl ⟨h, g, fun n σ => by rw [if_neg h, if_pos g], fun n τ => by rw [if_neg h, if_neg (Int32.not_lt.mpr g)]⟩
    · exact Or.inr ⟨fun n σ => by rw [if_neg h, if_neg g], fun n τ => by rw [if_neg h, if_pos (Int32.not_le.mp g)]⟩
/-- an int from lo to hi is a number -/
theorem rng_nI {a : Int32} {lo hi : Nat} (h1 : ¬ a < nI lo) (h2 : a ≤ nI hi) (hh : hi < 100000) (hl : lo ≤ hi) : ∃ j, lo ≤ j ∧ j ≤ hi ∧ a = nI j := by
  have h0 : ¬ a < 0 := fun c => h1 (Int32.lt_of_lt_of_le c (nI_pos' (by omega)))
  obtain ⟨j, j1, j2⟩ := nI_of2 (nI_toInt (show hi < 2 ^ 31 by omega)) h0 h2
  subst j2
  exact ⟨j, by rw [lt_nI (by omega) (by omega)] at h1; omega, j1, rfl⟩
theorem RR.newRS {σ τ σ' τ' : Mem} {L : Nat} {W W' : Nat → Nat} {u u' N Q : Nat} (h : RR σ τ 0 L W u N Q) (hs : RS σ' τ' 0 L W' u') (e : ∀ a b, a < 36 → (a ≤ 6 → 7 ≤ b) → (a = 7 → 8 ≤ b) → σ'.1 a b = σ.1 a b) (e2 : σ'.2 = σ.2) (m1 : ∀ b, τ'.1 47 b = τ.1 47 b) (m9 : τ'.1 41 9 = τ.1 41 9) (m10 : τ'.1 41 10 = τ.1 41 10) : RR σ' τ' 0 L W' u' N Q := by
  obtain ⟨hS, hG, hK, hT, hQ, hP, hB⟩ := h
  have hL := hS.lv
  have er : ∀ p b, p < 8 → σ'.1 (rw_ σ' 0 p) b = σ.1 (rw_ σ 0 p) b := fun p b hp => by
    have hh := hS.sh.2.2.1 p hp
    show σ'.1 (σ'.2 (38 + 0) p) b = _
    rw [e2]
    exact e _ _ (by omega) (by omega) (by omega)
  exact ⟨hs, hG.to (fun k b k1 b1 b2 => e _ _ (by omega) (by omega) (by omega)) (fun b hb => m1 b), hK.to (fun b b1 b2 => e _ _ (by omega) (by omega) (by omega)) (fun b hb => m1 b) m9, hT.to (fun b b1 => e _ _ (by omega) (by omega) (by omega)) (e _ _ (by omega) (by omega) (by omega)) (fun b _ _ => m1 b) (m1 _), hQ.to (e _ _ (by omega) (by omega) (by omega)) (fun p b hp hb => er p b hp) (e _ _ (by omega) (by omega) (by omega)) (e _ _ (by omega) (by omega) (by omega)) (fun b _ _ => m1 b), hP.to hL (fun k k1 => e _ _ (by omega) (by omega) (by omega)) (onT_cong (e _ _ (by omega) (by omega) (by omega)) (e _ _ (by omega) (by omega) (by omega))) m10, hB.to hL (fun k k1 => e _ _ (by omega) (by omega) (by omega)) (e _ _ (by omega) (by omega) (by omega)) (e _ _ (by omega) (by omega) (by omega))⟩
theorem op_setLimit {n n' B : Nat} {σ τ : Mem} (a : Int32) (h : RX B σ τ) : OpG B σ τ (spg_L_setLimit n σ 40 a 49) (sp_X6_setLimit n' τ 41 a) := by
  obtain ⟨L, W, u, N, Q, hR, h1, hN⟩ := id h
  have hS := hR.1
  rcases rng a 1 1000 with ⟨-, -, c1, c2⟩ | ⟨c1, c2⟩
  · refine op_put (B := B) (v := σ.1 7 6) (σ1 := wi σ 7 6 a) (τ1 := wi (wi τ 41 14 0) 41 7 a) (Nat.le_refl _) ?_ ?_ ?_ ⟨L, W, u, N, Q, hR.newRS (W' := W) (u' := u) ?_ (fun a b h1 h2 h3 => wi_o (by omega)) rfl (fun b => ?_) ?_ ?_, h1.to rfl, hN⟩ ⟨fun a b h1 h2 => wi_o (by omega), fun _ _ => rfl⟩ ⟨fun a b h1 => by rw [wi_o (by omega), wi_o (by omega)], rfl⟩
    · unfold spg_L_setLimit sp_X5_setLimit
      rw [c1]
      rfl
    · unfold sp_X6_setLimit
      rw [c2]
      simp only [Option.bind_some, lm]
      rw [if_neg (by decide), wi_eq rfl rfl, if_pos (by decide), wi_o (by omega), show σ.1 7 6 = τ.1 41 7 from hS.lim]
    · rw [wi_o (by omega), wi_eq rfl rfl]
    · obtain ⟨a1, a2, a3, a4, a5, a6, a7, a8, a9, a10, a11, a12, a13, a14⟩ := hS
      refine ⟨a1.to rfl, a2, ?_, ?_, ?_, ?_, a7, ?_, ?_, ?_, ?_, ?_, ?_, ?_⟩
      · rw [wi_o (by omega)]; exact a3
      · rw [wi_o (by omega), wi_o (by omega)]; exact a4
      · intro k k1 k2
        rw [owC_cong (σ := σ) (wi_o (by omega)) (wi_o (by omega))]
        exact a5 k k1 k2
      · intro k k1 k2
        rw [wi_o (by omega), wi_o (by omega), wi_o (by omega), wi_o (by omega)]
        exact a6 k k1 k2
      · rw [wi_o (by omega)]; exact a8
      · rw [wi_o (by omega), wi_o (by omega)]; exact a9
      · rw [wi_eq rfl rfl, wi_eq rfl rfl]
      · obtain ⟨v, v1, v2, v3, v4⟩ := a11
        exact ⟨v, v1, v2, by rw [wi_o (by omega)]; exact v3, by rw [wi_o (by omega), wi_o (by omega)]; exact v4⟩
      · intro k k1
        rw [wi_o (by omega), wi_o (by omega), wi_o (by omega)]
        exact a12 k k1
      · intro k k1 k2
        rw [wi_o (by omega), wi_o (by omega), wi_o (by omega), wi_o (by omega), wi_o (by omega), wi_o (by omega), wi_o (by omega), wi_o (by omega), wi_o (by omega), wi_o (by omega), wi_o (by omega), wi_o (by omega), wi_o (by omega)]
        exact a13 k k1 k2
      · intro k k1
        rw [wi_o (by omega)]
        exact a14 k k1
    · rw [wi_o (by omega), wi_o (by omega)]
    · rw [wi_o (by omega), wi_o (by omega)]
    · rw [wi_o (by omega), wi_o (by omega)]
  · refine op_bad (t := 1) (r := 0) h (by decide) ?_ ?_
    · unfold spg_L_setLimit sp_X5_setLimit
      rw [c1]
      simp
    · unfold sp_X6_setLimit
      rw [c2]
      simp only [Option.bind_some, lm]
      rw [if_pos trivial, wi_eq rfl rfl, if_neg (by decide)]
theorem op_setSpeed {n n' B : Nat} {σ τ : Mem} (a : Int32) (h : RX B σ τ) : OpG B σ τ (spg_L_setSpeed n σ 40 a 49) (sp_X6_setSpeed n' τ 41 a) := by
  obtain ⟨L, W, u, N, Q, hR, h1, hN⟩ := id h
  have hS := hR.1
  rcases rng a 10 500 with ⟨g1, g2, c1, c2⟩ | ⟨c1, c2⟩
  · obtain ⟨v0, v1, v2, v3⟩ := rng_nI (lo := 10) (hi := 500) g1 g2 (by omega) (by omega)
    refine op_put (B := B) (v := σ.1 7 7) (σ1 := wi σ 7 7 a) (τ1 := wi (wi τ 41 14 0) 41 8 a) (Nat.le_refl _) ?_ ?_ ?_ ⟨L, W, u, N, Q, hR.newRS (W' := W) (u' := u) ?_ (fun a b h1 h2 h3 => wi_o (by omega)) rfl (fun b => ?_) ?_ ?_, h1.to rfl, hN⟩ ⟨fun a b h1 h2 => wi_o (by omega), fun _ _ => rfl⟩ ⟨fun a b h1 => by rw [wi_o (by omega), wi_o (by omega)], rfl⟩
    · unfold spg_L_setSpeed sp_X5_setSpeed
      rw [c1]
      rfl
    · obtain ⟨w, -, -, w3, w4⟩ := hS.spd
      unfold sp_X6_setSpeed
      rw [c2]
      simp only [Option.bind_some, lm]
      rw [if_neg (by decide), wi_eq rfl rfl, if_pos (by decide), wi_o (by omega), w4, show σ.1 7 7 = nI w from w3]
    · rw [wi_o (by omega), wi_eq rfl rfl]
    · obtain ⟨a1, a2, a3, a4, a5, a6, a7, a8, a9, a10, a11, a12, a13, a14⟩ := hS
      refine ⟨a1.to rfl, a2, ?_, ?_, ?_, ?_, a7, ?_, ?_, ?_, ?_, ?_, ?_, ?_⟩
      · rw [wi_o (by omega)]; exact a3
      · rw [wi_o (by omega), wi_o (by omega)]; exact a4
      · intro k k1 k2
        rw [owC_cong (σ := σ) (wi_o (by omega)) (wi_o (by omega))]
        exact a5 k k1 k2
      · intro k k1 k2
        rw [wi_o (by omega), wi_o (by omega), wi_o (by omega), wi_o (by omega)]
        exact a6 k k1 k2
      · rw [wi_o (by omega)]; exact a8
      · rw [wi_o (by omega), wi_o (by omega)]; exact a9
      · rw [wi_o (by omega), wi_o (by omega), wi_o (by omega)]; exact a10
      · exact ⟨v0, by omega, v2, by rw [wi_eq rfl rfl]; exact v3, by rw [wi_eq rfl rfl]; exact v3⟩
      · intro k k1
        rw [wi_o (by omega), wi_o (by omega), wi_o (by omega)]
        exact a12 k k1
      · intro k k1 k2
        rw [wi_o (by omega), wi_o (by omega), wi_o (by omega), wi_o (by omega), wi_o (by omega), wi_o (by omega), wi_o (by omega), wi_o (by omega), wi_o (by omega), wi_o (by omega), wi_o (by omega), wi_o (by omega), wi_o (by omega)]
        exact a13 k k1 k2
      · intro k k1
        rw [wi_o (by omega)]
        exact a14 k k1
    · rw [wi_o (by omega), wi_o (by omega)]
    · rw [wi_o (by omega), wi_o (by omega)]
    · rw [wi_o (by omega), wi_o (by omega)]
  · refine op_bad (t := 1) (r := 0) h (by decide) ?_ ?_
    · unfold spg_L_setSpeed sp_X5_setSpeed
      rw [c1]
      simp
    · unfold sp_X6_setSpeed
      rw [c2]
      simp only [Option.bind_some, lm]
      rw [if_pos trivial, wi_eq rfl rfl, if_neg (by decide)]
/-- the relation behind spreadAir, with new widths and a new fan -/
theorem spread_RS {σ τ : Mem} {L : Nat} {W : Nat → Nat} {u : Nat} (h1 : ShM σ 0) (hL : L ≤ 6) (h4 : σ.1 7 4 = nI L) (t0 : τ.1 41 0 = nI L) (hW : NW σ 0 L W) (hM : NM τ L W) (hu : u ≤ 1000) (h5 : σ.1 7 5 = nI u) (t6 : τ.1 41 6 = nI u) (hl : σ.1 7 6 = τ.1 41 7) (hv : ∃ v, 1 ≤ v ∧ v ≤ 500 ∧ σ.1 7 7 = nI v ∧ τ.1 41 8 = nI v) (hd : ∀ k, k ≤ L → ∃ d, d ≤ 2000 ∧ σ.1 k 0 = nI d ∧ τ.1 42 k = nI d) (hr : ∀ k, 1 ≤ k → k ≤ L → (∃ z, 1 ≤ z ∧ z ≤ 500 ∧ σ.1 k 1 = nI z ∧ τ.1 43 k = nI z) ∧ σ.1 k 3 = τ.1 45 k ∧ (∃ w, 1 ≤ w ∧ w ≤ 20 ∧ σ.1 k 2 = nI w ∧ τ.1 44 k = nI w) ∧ σ.1 k 4 = τ.1 46 k) (ho : ∀ k, k < 7 → σ.1 k 4 = 0 ∨ σ.1 k 4 = 1) : RS (spA σ 0 L W u L) τ 0 L W u := by
  have o : ∀ a b, (b = 5 → a ≤ 0 ∨ L < a) → (spA σ 0 L W u L).1 a b = σ.1 a b := fun a b hab => spA_o (by omega)
  refine ⟨h1.to (spA_2 _ _ _ _ _ _), hL, ?_, t0, ?_, hM, hu, ?_, t6, ?_, ?_, ?_, ?_, ?_⟩
  · rw [o _ _ (by omega)]; exact h4
  · intro k k1 k2
    rw [owC_cong (σ := σ) (o _ _ (by omega)) (o _ _ (by omega))]
    exact hW k k1 k2
  · rw [o _ _ (by omega)]; exact h5
  · rw [o _ _ (by omega)]; exact hl
  · rw [o _ _ (by omega)]; exact hv
  · intro k k1
    rw [o _ _ (by omega), show 10 * 0 + k = k by omega]
    exact hd k k1
  · intro k k1 k2
    rw [o _ 1 (by omega), o _ 2 (by omega), o _ 3 (by omega), o _ 4 (by omega), spA_at k1 k2, show 10 * 0 + k = k by omega]
    obtain ⟨q1, q2, q3, q4⟩ := hr k k1 k2
    exact ⟨q1, q2, q3, q4, rfl⟩
  · intro k k1
    rw [o _ 4 (by omega), show 10 * 0 + k = k by omega]
    exact ho k k1
theorem ev_spread0 {n : Nat} (hn : 10 < n) {σ : Mem} {L : Nat} {W : Nat → Nat} {u : Nat} (h : ShM σ 0) (hL : σ.1 7 4 = nI L) (hL6 : L ≤ 6) (hW : NW σ 0 L W) (hu : u ≤ 1000) (hf : σ.1 7 5 = nI u) : sp_X1_spreadAir n σ (rf 40 0) = some ((), spA σ 0 L W u L) := ev_spreadAir hn h hL hL6 hW hu hf
theorem op_setFan {n n' B : Nat} (hn : 10 < n) {σ τ : Mem} (a : Int32) (h : RX B σ τ) : OpG B σ τ (spg_L_setFan n σ 40 a 49) (sp_X6_setFan n' τ 41 a) := by
  obtain ⟨L, W, u, N, Q, hR, h1, hN⟩ := id h
  have hS := hR.1
  have hL := hS.lv
  rcases rng a 0 1000 with ⟨g1, g2, c1, c2⟩ | ⟨c1, c2⟩
  · obtain ⟨v0, v1, v2, v3⟩ := rng_nI (lo := 0) (hi := 1000) g1 g2 (by omega) (by omega)
    obtain ⟨a1, a2, a3, a4, a5, a6, a7, a8, a9, a10, a11, a12, a13, a14⟩ := hS
    have e7 : (wi σ 7 5 a).1 7 4 = nI L := by rw [wi_o (by omega)]; exact a3
    have eW : NW (wi σ 7 5 a) 0 L W := fun k k1 k2 => by
      rw [owC_cong (σ := σ) (wi_o (by omega)) (wi_o (by omega))]
      exact a5 k k1 k2
    have o2 : ∀ a' b, a' ≠ 41 ∨ (b ≠ 6 ∧ b ≠ 14) → (wi (wi τ 41 14 0) 41 6 a).1 a' b = τ.1 a' b := fun a' b hab => by rw [wi_o (by omega), wi_o (by omega)]
    refine op_put (B := B) (v := σ.1 7 5) (σ1 := spA (wi σ 7 5 a) 0 L W v0 L) (τ1 := wi (wi τ 41 14 0) 41 6 a) (Nat.le_refl _) ?_ ?_ ?_ ⟨L, W, v0, N, Q, hR.newRS (W' := W) (u' := v0) ?_ (fun a b h1 h2 h3 => ?_) (spA_2 _ _ _ _ _ _) (fun b => o2 _ _ (by omega)) (o2 _ _ (by omega)) (o2 _ _ (by omega)), h1.to (spA_2 _ _ _ _ _ _), hN⟩ ⟨fun a b h1 h2 => ?_, fun _ _ => by rw [spA_2]; rfl⟩ ⟨fun a b h1 => o2 _ _ (by omega), rfl⟩
    · unfold spg_L_setFan sp_X5_setFan
      rw [c1]
      simp only [Option.bind_some, lm]
      rw [show rf 40 0 = 7 from rfl, show sp_X1_spreadAir n (wi σ 7 5 a) 7 = some ((), spA (wi σ 7 5 a) 0 L W v0 L) from ev_spread0 hn (a1.to rfl) e7 hL eW v2 (by rw [wi_eq rfl rfl]; exact v3)]
      rfl
    · unfold sp_X6_setFan
      rw [c2]
      simp only [Option.bind_some, lm]
      rw [if_neg (by decide), wi_eq rfl rfl, if_pos (by decide), wi_o (by omega), a9, show σ.1 7 5 = nI u from a8]
    · rw [wi_o (by omega), wi_eq rfl rfl]
    · refine spread_RS (a1.to rfl) hL e7 (by rw [o2 _ _ (by omega)]; exact a4) eW (fun k k1 k2 => by rw [o2 _ _ (by omega), o2 _ _ (by omega)]; exact a6 k k1 k2) v2 (by rw [wi_eq rfl rfl]; exact v3) (by rw [wi_eq rfl rfl]; exact v3) (by rw [wi_o (by omega), o2 _ _ (by omega)]; exact a10) (by rw [wi_o (by omega), o2 _ _ (by omega)]; exact a11) (fun k k1 => ?_) (fun k k1 k2 => ?_) (fun k k1 => ?_)
      · have := a12 k k1
        rw [show 10 * 0 + k = k by omega] at this
        rw [wi_o (by omega), o2 _ _ (by omega)]
        exact this
      · have := a13 k k1 k2
        rw [show 10 * 0 + k = k by omega] at this
        obtain ⟨q1, q2, q3, q4, -⟩ := this
        have o1 : ∀ b, (wi σ 7 5 a).1 k b = σ.1 k b := fun b => wi_o (by omega)
        rw [o1 1, o1 2, o1 3, o1 4, o2 43 _ (by omega), o2 44 _ (by omega), o2 45 _ (by omega), o2 46 _ (by omega)]
        exact ⟨q1, q2, q3, q4⟩
      · have := a14 k k1
        rw [show 10 * 0 + k = k by omega] at this
        rw [wi_o (by omega)]
        exact this
    · rw [spA_o (by omega), wi_o (by omega)]
    · rw [spA_o (by omega), wi_o (by omega)]
  · refine op_bad (t := 1) (r := 0) h (by decide) ?_ ?_
    · unfold spg_L_setFan sp_X5_setFan
      rw [c1]
      simp
    · unfold sp_X6_setFan
      rw [c2]
      simp only [Option.bind_some, lm]
      rw [if_pos trivial, wi_eq rfl rfl, if_neg (by decide)]
theorem vp_nar_b {b : Int32} (h : b = 0 ∨ b = 1) : vp_nar .boolean b = b := by
  rcases h with h | h <;> subst h <;> rfl
theorem op_setDoor {n n' B : Nat} (hn : 10 < n) {σ τ : Mem} (a b : Int32) (hb : b = 0 ∨ b = 1) (h : RX B σ τ) : OpG B σ τ (spg_L_setDoor n σ 40 a b 49) (sp_X6_setDoor n' τ 41 a b) := by
  obtain ⟨L, W, u, N, Q, hR, h1, hN⟩ := id h
  have hS := hR.1
  have hL := hS.lv
  rcases lvl_or1 L hL a with ⟨k, hk1, hk, rfl⟩ | hbad
  · obtain ⟨a1, a2, a3, a4, a5, a6, a7, a8, a9, a10, a11, a12, a13, a14⟩ := id hS
    obtain ⟨-, -, ⟨w, w1, w2, w3, w4⟩, rd, -⟩ := a13 k hk1 hk
    have rb := a14 k (by omega)
    rw [Nat.mul_zero, Nat.zero_add] at w3 rd rb
    have e7 : (wi σ k 4 b).1 7 4 = nI L := by rw [wi_o (by omega)]; exact a3
    have eW : NW (wi σ k 4 b) 0 L (fun i => if i = k then (if b = 0 then 0 else w) else W i) := fun i i1 i2 => by
      by_cases e : i = k
      · subst e
        simp only [if_pos]
        unfold owC
        rw [show 10 * 0 + i = i by omega, wi_eq rfl rfl, wi_o (by omega), w3]
        by_cases e0 : b = 0
        · rw [if_pos e0, if_pos e0]
          exact ⟨rfl, by omega⟩
        · rw [if_neg e0, if_neg e0]
          exact ⟨rfl, by omega⟩
      · simp only [if_neg e]
        rw [owC_cong (σ := σ) (wi_o (by omega)) (wi_o (by omega))]
        exact a5 i i1 i2
    have o2 : ∀ a' b', (a' ≠ 41 ∨ b' ≠ 14) → (a' ≠ 46 ∨ b' ≠ k) → (wi (wi τ 41 14 0) 46 k b).1 a' b' = τ.1 a' b' := fun a' b' hab hab2 => by rw [wi_o (by omega), wi_o (by omega)]
    have eM : NM (wi (wi τ 41 14 0) 46 k b) L (fun i => if i = k then (if b = 0 then 0 else w) else W i) := fun i i1 i2 => by
      by_cases e : i = k
      · subst e
        simp only [if_pos]
        rw [wi_eq rfl rfl, o2 _ _ (by omega) (by omega), w4]
        by_cases e0 : b = 0
        · rw [if_pos e0]
          exact Or.inl ⟨e0, rfl⟩
        · rw [if_neg e0]
          exact Or.inr ⟨e0, rfl, w1, w2⟩
      · simp only [if_neg e]
        rw [o2 _ _ (by omega) (by omega), o2 _ _ (by omega) (by omega)]
        exact a6 i i1 i2
    refine op_put (B := B) (v := σ.1 k 4) (σ1 := spA (wi σ k 4 b) 0 L (fun i => if i = k then (if b = 0 then 0 else w) else W i) u L) (τ1 := wi (wi τ 41 14 0) 46 k b) (Nat.le_refl _) ?_ ?_ ?_ ⟨L, _, u, N, Q, hR.newRS (W' := fun i => if i = k then (if b = 0 then 0 else w) else W i) (u' := u) ?_ (fun a b h1 h2 h3 => ?_) (spA_2 _ _ _ _ _ _) (fun b => o2 _ _ (by omega) (by omega)) (o2 _ _ (by omega) (by omega)) (o2 _ _ (by omega) (by omega)), h1.to (spA_2 _ _ _ _ _ _), hN⟩ ⟨fun a b h1 h2 => ?_, fun _ _ => by rw [spA_2]; rfl⟩ ⟨fun a b h1 => o2 _ _ (by omega) (by omega), rfl⟩
    · unfold spg_L_setDoor sp_X5_setDoor
      rw [ckL_ok n a3 hL hk1 hk]
      simp only [Option.bind_some]
      rw [pl_0 n a1 (by omega)]
      simp only [Option.bind_some]
      rw [if_pos (ok_0 (by omega)), if_pos hb]
      simp only [lm]
      rw [ev_spread0 hn (show ShM (wi σ k 4 b) 0 from a1.to rfl) e7 hL eW a7 (by rw [wi_o (by omega)]; exact a8)]
      simp only [Option.bind_some]
      rw [if_pos rb]
      simp only [Option.bind_some]
      rcases rb with e | e <;> rw [e] <;> rfl
    · unfold sp_X6_setDoor
      rw [lacks_ok n' a4 hL hk1 hk]
      simp only [Option.bind_some]
      rw [if_pos trivial, if_pos (inR_nI (by omega) (by omega)), if_pos (inR_nI (by omega) (by omega))]
      simp only [lm, nI_cl (show k < 100000 by omega), rfm_5, vp_nar_b hb]
      rw [wi_o (by omega), ← rd, if_pos rb]
    · rw [wi_o (by omega), wi_eq rfl rfl]
    · refine spread_RS (a1.to rfl) hL e7 (by rw [o2 _ _ (by omega) (by omega)]; exact a4) eW eM a7 (by rw [wi_o (by omega)]; exact a8) (by rw [o2 _ _ (by omega) (by omega)]; exact a9) (by rw [wi_o (by omega), o2 _ _ (by omega) (by omega)]; exact a10) (by rw [wi_o (by omega), o2 _ _ (by omega) (by omega)]; exact a11) (fun i i1 => ?_) (fun i i1 i2 => ?_) (fun i i1 => ?_)
      · have := a12 i i1
        rw [show 10 * 0 + i = i by omega] at this
        rw [wi_o (by omega), o2 _ _ (by omega) (by omega)]
        exact this
      · have := a13 i i1 i2
        rw [show 10 * 0 + i = i by omega] at this
        obtain ⟨q1, q2, q3, q4, -⟩ := this
        have o1 : ∀ b', b' ≠ 4 → (wi σ k 4 b).1 i b' = σ.1 i b' := fun b' hb' => wi_o (by omega)
        rw [o1 1 (by omega), o1 2 (by omega), o1 3 (by omega), o2 43 _ (by omega) (by omega), o2 44 _ (by omega) (by omega), o2 45 _ (by omega) (by omega)]
        refine ⟨q1, q2, q3, ?_⟩
        by_cases e : i = k
        · subst e
          rw [wi_eq rfl rfl, wi_eq rfl rfl]
        · rw [wi_o (by omega), o2 _ _ (by omega) (by omega)]
          exact q4
      · have := a14 i i1
        rw [show 10 * 0 + i = i by omega] at this
        by_cases e : i = k
        · subst e
          rw [wi_eq rfl rfl]
          exact hb
        · rw [wi_o (by omega)]
          exact this
    · rw [spA_o (by omega), wi_o (by omega)]
    · rw [spA_o (by omega), wi_o (by omega)]
  · refine op_bad (t := 1) (r := 0) h (by decide) ?_ ?_
    · unfold spg_L_setDoor sp_X5_setDoor
      rw [ckL_bad n hS.c4 hbad]
      simp
    · unfold sp_X6_setDoor
      rw [lacks_bad n' hS.t0 hbad]
      simp
