/-! PURE. the ops of both systems, one by one: what is read -/
def RX (B : Nat) (σ τ : Mem) : Prop := ∃ L W u N Q, RR σ τ 0 L W u N Q ∧ ShM σ 1 ∧ N ≤ B
def FC (σ σ' : Mem) : Prop := (∀ a b, 40 ≤ a → a ≤ 48 → σ'.1 a b = σ.1 a b) ∧ ∀ a, 40 ≤ a → σ'.2 a = σ.2 a
def FM (τ τ' : Mem) : Prop := (∀ a b, a < 41 ∨ 48 < a → τ'.1 a b = τ.1 a b) ∧ τ'.2 = τ.2
/-- an op that may throw: t what was thrown, r the answer -/
def OpG (B : Nat) (σ τ : Mem) (c d : Option (Int32 × Mem)) : Prop := ∃ t σ' r τ', c = some (t, σ') ∧ d = some (r, τ') ∧ τ'.1 41 14 = t ∧ (t = 0 → σ'.1 49 0 = r) ∧ RX B σ' τ' ∧ FC σ σ' ∧ FM τ τ'
/-- an op that throws nothing -/
def OpN (B : Nat) (σ τ : Mem) (c d : Option (Int32 × Mem)) : Prop := ∃ r σ' τ', c = some (r, σ') ∧ d = some (r, τ') ∧ τ'.1 41 14 = 0 ∧ RX B σ' τ' ∧ FC σ σ' ∧ FM τ τ'
theorem RR.toC {σ σ' τ : Mem} {m L : Nat} {W : Nat → Nat} {u N Q : Nat} (h : RR σ τ m L W u N Q) (e : ∀ a b, a < 36 → b ≠ 6 ∨ 6 < a → σ'.1 a b = σ.1 a b) (e2 : σ'.2 (36 + m) = σ.2 (36 + m) ∧ σ'.2 (38 + m) = σ.2 (38 + m)) : RR σ' τ m L W u N Q := by
  obtain ⟨hS, hG, hK, hT, hQ, hP, hB⟩ := h
  have hL := hS.lv
  have hm2 := hS.m2
  have hs : ShM σ' m := by
    have := hS.sh
    unfold ShM at this ⊢
    rw [e2.1, e2.2]
    exact this
  have er : ∀ p b, p < 8 → σ'.1 (rw_ σ' m p) b = σ.1 (rw_ σ m p) b := fun p b hp => by
    have hh := hS.sh.2.2.1 p hp
    show σ'.1 (σ'.2 (38 + m) p) b = _
    rw [e2.2]
    exact e _ _ (by omega) (by omega)
  by_cases hm : m = 0
  · subst hm
    exact ⟨hS.to hs (fun k b k1 b1 => e _ _ (by omega) (by omega)) (fun b b1 b2 => e _ _ (by omega) (by omega)) (fun _ _ _ => rfl), hG.to (fun k b k1 b1 b2 => e _ _ (by omega) (by omega)) (fun _ _ => rfl), hK.to (fun b b1 b2 => e _ _ (by omega) (by omega)) (fun _ _ => rfl) rfl, hT.to (fun b b1 => e _ _ (by omega) (by omega)) (e _ _ (by omega) (by omega)) (fun _ _ _ => rfl) rfl, hQ.to (e _ _ (by omega) (by omega)) (fun p b hp hb => er p b hp) (e _ _ (by omega) (by omega)) (e _ _ (by omega) (by omega)) (fun _ _ _ => rfl), hP.to hL (fun k k1 => e _ _ (by omega) (by omega)) (onT_cong (e _ _ (by omega) (by omega)) (e _ _ (by omega) (by omega))) rfl, hB.to hL (fun k k1 => e _ _ (by omega) (by omega)) (e _ _ (by omega) (by omega)) (e _ _ (by omega) (by omega))⟩
  · have hm : m = 1 := by omega
    subst hm
    exact ⟨hS.to hs (fun k b k1 b1 => e _ _ (by omega) (by omega)) (fun b b1 b2 => e _ _ (by omega) (by omega)) (fun _ _ _ => rfl), hG.to (fun k b k1 b1 b2 => e _ _ (by omega) (by omega)) (fun _ _ => rfl), hK.to (fun b b1 b2 => e _ _ (by omega) (by omega)) (fun _ _ => rfl) rfl, hT.to (fun b b1 => e _ _ (by omega) (by omega)) (e _ _ (by omega) (by omega)) (fun _ _ _ => rfl) rfl, hQ.to (e _ _ (by omega) (by omega)) (fun p b hp hb => er p b hp) (e _ _ (by omega) (by omega)) (e _ _ (by omega) (by omega)) (fun _ _ _ => rfl), hP.to hL (fun k k1 => e _ _ (by omega) (by omega)) (onT_cong (e _ _ (by omega) (by omega)) (e _ _ (by omega) (by omega))) rfl, hB.to hL (fun k k1 => e _ _ (by omega) (by omega)) (e _ _ (by omega) (by omega)) (e _ _ (by omega) (by omega))⟩
/-- only what the relation does not read has changed -/
theorem RX.to {B B' : Nat} {σ τ σ' τ' : Mem} (h : RX B σ τ) (hB : B ≤ B') (e : ∀ a b, a < 36 → b ≠ 6 ∨ 6 < a → (a < 10 ∨ 19 < a) → (a < 28 ∨ 35 < a) → σ'.1 a b = σ.1 a b) (e2 : ∀ a, a < 40 → σ'.2 a = σ.2 a) (e3 : ∀ a b, 41 ≤ a → a ≤ 47 → (a ≠ 41 ∨ b ≠ 14) → (a ≠ 47 ∨ b < 73) → τ'.1 a b = τ.1 a b) : RX B' σ' τ' := by
  obtain ⟨L, W, u, N, Q, h, h1, hN⟩ := h
  obtain ⟨hS, hG, hK, hT, hQ, hP, hB⟩ := h
  have hL := hS.lv
  have hs : ∀ m, ShM σ m → ShM σ' m := fun m hm => by
    have := hm.1
    unfold ShM at hm ⊢
    rw [e2 _ (by omega), e2 _ (by omega)]
    exact hm
  have er : ∀ p b, p < 8 → σ'.1 (rw_ σ' 0 p) b = σ.1 (rw_ σ 0 p) b := fun p b hp => by
    have hh := hS.sh.2.2.1 p hp
    show σ'.1 (σ'.2 (38 + 0) p) b = _
    rw [e2 _ (by omega)]
    exact e _ _ (by omega) (by omega) (by omega) (by omega)
  have e' : ∀ a b, a < 10 → b ≠ 6 ∨ 6 < a → σ'.1 a b = σ.1 a b := fun a b h1 h2 => e a b (by omega) h2 (by omega) (by omega)
  refine ⟨L, W, u, N, Q, RR.toM (τ := τ) ?_ e3, hs 1 h1, by omega⟩
  exact ⟨hS.to (hs 0 hS.sh) (fun k b k1 b1 => e' _ _ (by omega) (by omega)) (fun b b1 b2 => e' _ _ (by omega) (by omega)) (fun _ _ _ => rfl), hG.to (fun k b k1 b1 b2 => e' _ _ (by omega) (by omega)) (fun _ _ => rfl), hK.to (fun b b1 b2 => e' _ _ (by omega) (by omega)) (fun _ _ => rfl) rfl, hT.to (fun b b1 => e' _ _ (by omega) (by omega)) (e' _ _ (by omega) (by omega)) (fun _ _ _ => rfl) rfl, hQ.to (e' _ _ (by omega) (by omega)) (fun p b hp hb => er p b hp) (e' _ _ (by omega) (by omega)) (e' _ _ (by omega) (by omega)) (fun _ _ _ => rfl), hP.to hL (fun k k1 => e' _ _ (by omega) (by omega)) (onT_cong (e' _ _ (by omega) (by omega)) (e' _ _ (by omega) (by omega))) rfl, hB.to hL (fun k k1 => e' _ _ (by omega) (by omega)) (e' _ _ (by omega) (by omega)) (e' _ _ (by omega) (by omega))⟩
theorem RX.set {B : Nat} {σ τ : Mem} (h : RX B σ τ) (v t : Int32) : RX B (wi σ 49 0 v) (wi τ 41 14 t) := h.to (Nat.le_refl _) (fun a b h1 _ _ _ => wi_o (by omega)) (fun _ _ => rfl) (fun a b h1 h2 h3 _ => wi_o (by omega))
theorem RX.thr {B : Nat} {σ τ : Mem} (h : RX B σ τ) (t : Int32) : RX B σ (wi τ 41 14 t) := h.to (Nat.le_refl _) (fun _ _ _ _ _ _ => rfl) (fun _ _ => rfl) (fun a b h1 h2 h3 _ => wi_o (by omega))
theorem FC.rfl' (σ : Mem) : FC σ σ := ⟨fun _ _ _ _ => rfl, fun _ _ => rfl⟩
theorem FC.out (σ : Mem) (k : Nat) (v : Int32) : FC σ (wi σ 49 k v) := ⟨fun a b h1 h2 => wi_o (by omega), fun _ _ => rfl⟩
theorem FC.trans {σ σ1 σ2 : Mem} (h : FC σ σ1) (g : FC σ1 σ2) : FC σ σ2 := ⟨fun a b h1 h2 => (g.1 a b h1 h2).trans (h.1 a b h1 h2), fun a ha => (g.2 a ha).trans (h.2 a ha)⟩
theorem FM.trans {σ σ1 σ2 : Mem} (h : FM σ σ1) (g : FM σ1 σ2) : FM σ σ2 := ⟨fun a b h1 => (g.1 a b h1).trans (h.1 a b h1), g.2.trans h.2⟩
theorem FM.thr (τ : Mem) (t : Int32) : FM τ (wi τ 41 14 t) := ⟨fun a b h => wi_o (by omega), rfl⟩
theorem FrC.fc {σ σ' : Mem} {m : Nat} (h : FrC σ σ' m) (hm : m < 2) : FC σ σ' := ⟨fun a b h1 h2 => h.1 a b (by omega) (by omega), fun a ha => h.2 a (by omega)⟩
theorem FrM.fm {τ τ' : Mem} (h : FrM τ τ') : FM τ τ' := ⟨fun a b h1 => h.1 a b (by omega), h.2⟩
theorem op_get {B : Nat} {σ τ : Mem} {v : Int32} {c d : Option (Int32 × Mem)} (h : RX B σ τ) (hc : c = some (0, wi σ 49 0 v)) (hd : d = some (v, wi τ 41 14 0)) : OpG B σ τ c d :=
  ⟨0, _, v, _, hc, hd, wi_eq rfl rfl, fun _ => wi_eq rfl rfl, h.set v 0, FC.out _ _ _, FM.thr _ _⟩
theorem op_bad {B : Nat} {σ τ : Mem} {t r : Int32} {c d : Option (Int32 × Mem)} (h : RX B σ τ) (ht : t ≠ 0) (hc : c = some (t, σ)) (hd : d = some (r, wi τ 41 14 t)) : OpG B σ τ c d :=
  ⟨t, _, r, _, hc, hd, wi_eq rfl rfl, fun e => absurd e ht, h.thr t, FC.rfl' _, FM.thr _ _⟩
theorem op_num {B : Nat} {σ τ : Mem} {v : Int32} {c d : Option (Int32 × Mem)} (h : RX B σ τ) (hc : c = some (v, σ)) (hd : d = some (v, wi τ 41 14 0)) : OpN B σ τ c d :=
  ⟨v, _, _, hc, hd, wi_eq rfl rfl, h.thr 0, FC.rfl' _, FM.thr _ _⟩
/-! levels as arguments -/
theorem lvl_or (L : Nat) (hL : L ≤ 6) (a : Int32) : (∃ k, k ≤ L ∧ a = nI k) ∨ a < 0 ∨ (¬ a < 0 ∧ nI L < a) := by
  by_cases h : a < 0
  · exact Or.inr (Or.inl h)
  · by_cases h2 : a ≤ nI L
    · exact Or.inl (nI_of2 (nI_toInt (by omega)) h h2)
    · exact Or.inr (Or.inr ⟨h, Int32.not_le.mp h2⟩)
theorem not_neg {k : Nat} (h : k < 100000) : ¬ nI k < 0 := nI_pos (by omega)
theorem ckP_ok (n : Nat) {σ : Mem} {L k : Nat} (h4 : σ.1 7 4 = nI L) (hL : L ≤ 6) (hk : k ≤ L) : sp_X5_checkPlace n σ 40 (nI k) = some (.inl (), σ) := by
  unfold sp_X5_checkPlace
  rw [if_neg (not_neg (by omega)), show σ.1 (rf 40 0) 4 = nI L from h4, if_pos ((le_nI (by omega) (by omega)).mpr hk)]
theorem ckP_bad (n : Nat) {σ : Mem} {L : Nat} {a : Int32} (h4 : σ.1 7 4 = nI L) (h : a < 0 ∨ (¬ a < 0 ∧ nI L < a)) : sp_X5_checkPlace n σ 40 a = some (.inr "java/lang/IndexOutOfBoundsException", σ) := by
  unfold sp_X5_checkPlace
  rcases h with h | ⟨h, g⟩
  · rw [if_pos h]
  · rw [if_neg h, show σ.1 (rf 40 0) 4 = nI L from h4, if_neg (Int32.not_le.mpr g)]
theorem ckL_ok (n : Nat) {σ : Mem} {L k : Nat} (h4 : σ.1 7 4 = nI L) (hL : L ≤ 6) (h1 : 1 ≤ k) (hk : k ≤ L) : sp_X5_checkLevel n σ 40 (nI k) = some (.inl (), σ) := by
  unfold sp_X5_checkLevel
  rw [if_neg (by rw [eq0_nI (by omega)]; omega), ckP_ok n h4 hL hk]
  rfl
/-- a is no level -/
def noL (L : Nat) (a : Int32) : Prop := a = 0 ∨ a < 0 ∨ (¬ a < 0 ∧ nI L < a)
theorem lvl_or1 (L : Nat) (hL : L ≤ 6) (a : Int32) : (∃ k, 1 ≤ k ∧ k ≤ L ∧ a = nI k) ∨ noL L a := by
  rcases lvl_or L hL a with ⟨k, hk, e⟩ | h
  · by_cases h0 : k = 0
    · subst h0
      exact Or.inr (Or.inl e)
    · exact Or.inl ⟨k, by omega, hk, e⟩
  · exact Or.inr (Or.inr h)
theorem ckL_bad (n : Nat) {σ : Mem} {L : Nat} {a : Int32} (h4 : σ.1 7 4 = nI L) (h : noL L a) : sp_X5_checkLevel n σ 40 a = some (.inr "java/lang/IndexOutOfBoundsException", σ) := by
  unfold sp_X5_checkLevel
  rcases h with h | h
  · rw [if_pos h]
  · by_cases h0 : a = 0
    · rw [if_pos h0]
    · rw [if_neg h0, ckP_bad n h4 h]
      rfl
theorem isL_ok (n : Nat) {τ : Mem} {L k : Nat} (h : τ.1 41 0 = nI L) (hL : L ≤ 6) (h1 : 1 ≤ k) (hk : k ≤ L) : sp_X6_isLevel n τ 41 (nI k) = some (1, τ) := by
  unfold sp_X6_isLevel sp_X6_in
  rw [h, if_neg (by rw [n1, lt_nI (by omega) (by omega)]; omega), if_neg (by rw [lt_nI (by omega) (by omega)]; omega)]
  rfl
theorem isL_bad (n : Nat) {τ : Mem} {L : Nat} {a : Int32} (h : τ.1 41 0 = nI L) (hb : noL L a) : sp_X6_isLevel n τ 41 a = some (0, τ) := by
  unfold sp_X6_isLevel sp_X6_in
  rw [h]
  by_cases c : a < 1
  · rw [if_pos c]
    rfl
  · have : nI L < a := by
      rcases hb with e | e | e
      · subst e
        exact absurd (by decide) c
      · exact absurd (Int32.lt_trans e (by decide)) c
      · exact e.2
    rw [if_neg c, if_pos this]
    rfl
theorem lacks_ok (n : Nat) {τ : Mem} {L k : Nat} (h : τ.1 41 0 = nI L) (hL : L ≤ 6) (h1 : 1 ≤ k) (hk : k ≤ L) : sp_X6_lacks n τ 41 (nI k) = some (0, wi τ 41 14 0) := by
  unfold sp_X6_lacks
  rw [isL_ok n h hL h1 hk]
  simp only [Option.bind_some, lm]
  rw [if_neg (by decide), wi_eq rfl rfl, if_pos (by decide)]
theorem lacks_bad (n : Nat) {τ : Mem} {L : Nat} {a : Int32} (h : τ.1 41 0 = nI L) (hb : noL L a) : sp_X6_lacks n τ 41 a = some (1, wi τ 41 14 1) := by
  unfold sp_X6_lacks
  rw [isL_bad n h hb]
  simp only [Option.bind_some, lm]
  rw [if_pos trivial, wi_eq rfl rfl, if_neg (by decide)]
theorem lacksP_ok (n : Nat) {τ : Mem} {L k : Nat} (h : τ.1 41 0 = nI L) (hL : L ≤ 6) (hk : k ≤ L) : sp_X6_lacksPlace n τ 41 (nI k) = some (0, wi τ 41 14 0) := by
  unfold sp_X6_lacksPlace sp_X6_in
  rw [h, if_neg (not_neg (by omega)), if_neg (by rw [lt_nI (by omega) (by omega)]; omega)]
  simp only [Option.bind_some, lm]
  rw [if_neg (by decide), wi_eq rfl rfl, if_pos (by decide)]
theorem lacksP_bad (n : Nat) {τ : Mem} {L : Nat} {a : Int32} (h : τ.1 41 0 = nI L) (hb : a < 0 ∨ (¬ a < 0 ∧ nI L < a)) : sp_X6_lacksPlace n τ 41 a = some (1, wi τ 41 14 1) := by
  unfold sp_X6_lacksPlace sp_X6_in
  rw [h]
  rcases hb with c | ⟨c, g⟩
  · rw [if_pos c]
    simp only [Option.bind_some, lm]
    rw [if_pos trivial, wi_eq rfl rfl, if_neg (by decide)]
  · rw [if_neg c, if_pos g]
    simp only [Option.bind_some, lm]
    rw [if_pos trivial, wi_eq rfl rfl, if_neg (by decide)]
theorem pl_0 (n : Nat) {σ : Mem} {k : Nat} (h : ShM σ 0) (hk : k < 7) : sp_X1_place n σ (rf 40 0) (nI k) = some (k, σ) := by
  have := ev_place n h hk
  rw [Nat.mul_zero, Nat.zero_add, Nat.zero_add] at this
  exact this
theorem ok_0 {k : Nat} (hk : k < 7) : Ok k 0 := by
  have := ok_lv (m := 0) (by omega) hk
  rwa [Nat.mul_zero, Nat.zero_add] at this
theorem RX.to14 {B : Nat} {σ τ : Mem} {L : Nat} {W : Nat → Nat} {u : Nat} (h : RS σ τ 0 L W u) (t : Int32) : RS σ (wi τ 41 14 t) 0 L W u := h.to h.sh (fun _ _ _ _ => rfl) (fun _ _ _ => rfl) (fun a b hab => wi_o (by omega))
theorem RG.to14 {σ τ : Mem} (h : RG σ τ 0) (t : Int32) : RG σ (wi τ 41 14 t) 0 := h.to (fun _ _ _ _ _ => rfl) (fun b hb => wi_o (by omega))
theorem RK.to14 {σ τ : Mem} {L N : Nat} (h : RK σ τ 0 L N) (t : Int32) : RK σ (wi τ 41 14 t) 0 L N := h.to (fun _ _ _ => rfl) (fun b hb => wi_o (by omega)) (wi_o (by omega))
theorem op_depthOf {n n' B : Nat} {σ τ : Mem} (a : Int32) (h : RX B σ τ) : OpG B σ τ (spg_L_depthOf n σ 40 a 49) (sp_X6_depthOf n' τ 41 a) := by
  obtain ⟨L, W, u, N, Q, hR, h1, hN⟩ := id h
  have hS := hR.1
  have hL := hS.lv
  rcases lvl_or L hL a with ⟨k, hk, rfl⟩ | hb
  · obtain ⟨d, -, d1, d2⟩ := hS.dep hk
    rw [Nat.mul_zero, Nat.zero_add] at d1
    refine op_get (v := nI d) h ?_ ?_
    · unfold spg_L_depthOf sp_X5_depthOf
      rw [ckP_ok n hS.c4 hL hk]
      simp only [Option.bind_some]
      rw [pl_0 n hS.sh (by omega)]
      simp only [Option.bind_some]
      rw [if_pos (ok_0 (by omega)), d1]
      rfl
    · unfold sp_X6_depthOf
      rw [lacksP_ok n' hS.t0 hL hk]
      simp only [Option.bind_some]
      rw [if_pos trivial, if_pos (inR_nI (by omega) (by omega))]
      simp only [nI_cl (show k < 100000 by omega), rfm_1]
      rw [wi_o (by omega), d2]
  · refine op_bad (t := 1) (r := 0) h (by decide) ?_ ?_
    · unfold spg_L_depthOf sp_X5_depthOf
      rw [ckP_bad n hS.c4 hb]
      simp
    · unfold sp_X6_depthOf
      rw [lacksP_bad n' hS.t0 hb]
      simp
theorem op_peopleAt {n n' B : Nat} {σ τ : Mem} (a : Int32) (h : RX B σ τ) : OpG B σ τ (spg_L_peopleAt n σ 40 a 49) (sp_X6_peopleAt n' τ 41 a) := by
  obtain ⟨L, W, u, N, Q, hR, h1, hN⟩ := id h
  have hS := hR.1
  have hL := hS.lv
  rcases lvl_or L hL a with ⟨k, hk, rfl⟩ | hb
  · have g := (hR.2.1 k (by omega)).2.1
    rw [Nat.mul_zero, Nat.zero_add] at g
    refine op_get (v := σ.1 k 8) h ?_ ?_
    · unfold spg_L_peopleAt sp_X5_peopleAt
      rw [ckP_ok n hS.c4 hL hk]
      simp only [Option.bind_some]
      rw [pl_0 n hS.sh (by omega)]
      simp only [Option.bind_some]
      rw [if_pos (ok_0 (by omega))]
      rfl
    · unfold sp_X6_peopleAt
      rw [lacksP_ok n' hS.t0 hL hk]
      simp only [Option.bind_some, ix7]
      rw [if_pos trivial, if_pos (inR_nI (by omega) (by omega))]
      simp only [nI_cl (show 7 + k < 100000 by omega), rfm_11]
      rw [wi_o (by omega), g]
  · refine op_bad (t := 1) (r := 0) h (by decide) ?_ ?_
    · unfold spg_L_peopleAt sp_X5_peopleAt
      rw [ckP_bad n hS.c4 hb]
      simp
    · unfold sp_X6_peopleAt
      rw [lacksP_bad n' hS.t0 hb]
      simp
theorem op_oreAt {n n' B : Nat} {σ τ : Mem} (a : Int32) (h : RX B σ τ) : OpG B σ τ (spg_L_oreAt n σ 40 a 49) (sp_X6_oreAt n' τ 41 a) := by
  obtain ⟨L, W, u, N, Q, hR, h1, hN⟩ := id h
  have hS := hR.1
  have hL := hS.lv
  rcases lvl_or L hL a with ⟨k, hk, rfl⟩ | hb
  · have g := (hR.2.1 k (by omega)).2.2.1
    rw [Nat.mul_zero, Nat.zero_add] at g
    refine op_get (v := σ.1 k 9) h ?_ ?_
    · unfold spg_L_oreAt sp_X5_oreAt
      rw [ckP_ok n hS.c4 hL hk]
      simp only [Option.bind_some]
      rw [pl_0 n hS.sh (by omega)]
      simp only [Option.bind_some]
      rw [if_pos (ok_0 (by omega))]
      rfl
    · unfold sp_X6_oreAt
      rw [lacksP_ok n' hS.t0 hL hk]
      simp only [Option.bind_some, ix14]
      rw [if_pos trivial, if_pos (inR_nI (by omega) (by omega))]
      simp only [nI_cl (show 14 + k < 100000 by omega), rfm_11]
      rw [wi_o (by omega), g]
  · refine op_bad (t := 1) (r := 0) h (by decide) ?_ ?_
    · unfold spg_L_oreAt sp_X5_oreAt
      rw [ckP_bad n hS.c4 hb]
      simp
    · unfold sp_X6_oreAt
      rw [lacksP_bad n' hS.t0 hb]
      simp
theorem op_gasOf {n n' B : Nat} {σ τ : Mem} (a : Int32) (h : RX B σ τ) : OpG B σ τ (spg_L_gasOf n σ 40 a 49) (sp_X6_gasOf n' τ 41 a) := by
  obtain ⟨L, W, u, N, Q, hR, h1, hN⟩ := id h
  have hS := hR.1
  have hL := hS.lv
  rcases lvl_or1 L hL a with ⟨k, hk1, hk, rfl⟩ | hb
  · have g := (hR.2.1 k (by omega)).1
    rw [Nat.mul_zero, Nat.zero_add] at g
    refine op_get (v := σ.1 k 7) h ?_ ?_
    · unfold spg_L_gasOf sp_X5_gasOf
      rw [ckL_ok n hS.c4 hL hk1 hk]
      simp only [Option.bind_some]
      rw [pl_0 n hS.sh (by omega)]
      simp only [Option.bind_some]
      rw [if_pos (ok_0 (by omega))]
      rfl
    · unfold sp_X6_gasOf
      rw [lacks_ok n' hS.t0 hL hk1 hk]
      simp only [Option.bind_some, ix_0 (show k < 73 by omega)]
      rw [if_pos trivial, if_pos (inR_nI (by omega) (by omega))]
      simp only [nI_cl (show k < 100000 by omega), rfm_11]
      rw [wi_o (by omega), g]
  · refine op_bad (t := 1) (r := 0) h (by decide) ?_ ?_
    · unfold spg_L_gasOf sp_X5_gasOf
      rw [ckL_bad n hS.c4 hb]
      simp
    · unfold sp_X6_gasOf
      rw [lacks_bad n' hS.t0 hb]
      simp
theorem op_airOf {n n' B : Nat} (hn' : 10 < n') {σ τ : Mem} (a : Int32) (h : RX B σ τ) : OpG B σ τ (spg_L_airOf n σ 40 a 49) (sp_X6_airOf n' τ 41 a) := by
  obtain ⟨L, W, u, N, Q, hR, h1, hN⟩ := id h
  have hS := hR.1
  have hL := hS.lv
  rcases lvl_or1 L hL a with ⟨k, hk1, hk, rfl⟩ | hb
  · have g := (hS.row hk1 hk).2.2.2.2
    have hS' := RX.to14 (B := B) hS 0
    obtain ⟨-, -, -, s4, -, s6, s7, -, s9, -⟩ := hS'
    rw [Nat.mul_zero, Nat.zero_add] at g
    refine op_get (v := nI (airN W L u k)) h ?_ ?_
    · unfold spg_L_airOf sp_X5_airOf
      rw [ckL_ok n hS.c4 hL hk1 hk]
      simp only [Option.bind_some]
      rw [pl_0 n hS.sh (by omega)]
      simp only [Option.bind_some]
      rw [if_pos (ok_0 (by omega)), g]
      rfl
    · unfold sp_X6_airOf
      rw [lacks_ok n' hS.t0 hL hk1 hk]
      simp only [Option.bind_some]
      rw [if_pos trivial, ev_air hn' s4 hL s6 s7 s9 hk1 hk]
      rfl
  · refine op_bad (t := 1) (r := 0) h (by decide) ?_ ?_
    · unfold spg_L_airOf sp_X5_airOf
      rw [ckL_bad n hS.c4 hb]
      simp
    · unfold sp_X6_airOf
      rw [lacks_bad n' hS.t0 hb]
      simp
theorem sh0 {σ : Mem} {k : Nat} : shC σ 0 k = shC σ 0 k := rfl
theorem op_gasShare {n n' B : Nat} {σ τ : Mem} (a : Int32) (h : RX B σ τ) : OpG B σ τ (spg_L_gasShare n σ 40 a 49) (sp_X6_gasShare n' τ 41 a) := by
  obtain ⟨L, W, u, N, Q, hR, h1, hN⟩ := id h
  have hS := hR.1
  have hL := hS.lv
  rcases lvl_or1 L hL a with ⟨k, hk1, hk, rfl⟩ | hb
  · have g := hS.share n hk1 hk
    rw [Nat.mul_zero, Nat.zero_add] at g
    refine op_get (v := shC σ 0 k) h ?_ ?_
    · unfold spg_L_gasShare sp_X5_gasShare
      rw [ckL_ok n hS.c4 hL hk1 hk]
      simp only [Option.bind_some]
      rw [pl_0 n hS.sh (by omega)]
      simp only [Option.bind_some]
      rw [if_pos (ok_0 (by omega)), g]
      rfl
    · unfold sp_X6_gasShare
      rw [lacks_ok n' hS.t0 hL hk1 hk]
      simp only [Option.bind_some]
      rw [if_pos trivial, (RX.to14 (B := B) hS 0).shareM (hR.2.1.to14 0) n' hk1 hk]
      rfl
  · refine op_bad (t := 1) (r := 0) h (by decide) ?_ ?_
    · unfold spg_L_gasShare sp_X5_gasShare
      rw [ckL_bad n hS.c4 hb]
      simp
    · unfold sp_X6_gasShare
      rw [lacks_bad n' hS.t0 hb]
      simp
theorem alC_or (σ : Mem) (m k : Nat) : alC σ m k = 0 ∨ alC σ m k = 1 := by
  unfold alC
  split
  · exact Or.inl rfl
  · exact Or.inr rfl
theorem cdC_or (σ : Mem) (m k : Nat) : cdC σ m k = 0 ∨ cdC σ m k = 1 := by
  unfold cdC
  split
  · exact Or.inl rfl
  · exact Or.inr rfl
theorem op_isAlarm {n n' B : Nat} {σ τ : Mem} (a : Int32) (h : RX B σ τ) : OpG B σ τ (spg_L_isAlarm n σ 40 a 49) (sp_X6_isAlarm n' τ 41 a) := by
  obtain ⟨L, W, u, N, Q, hR, h1, hN⟩ := id h
  have hS := hR.1
  have hL := hS.lv
  rcases lvl_or1 L hL a with ⟨k, hk1, hk, rfl⟩ | hb
  · have g := hS.alarm n hk1 hk
    rw [Nat.mul_zero, Nat.zero_add, Nat.zero_add] at g
    refine op_get (v := alC σ 0 k) h ?_ ?_
    · unfold spg_L_isAlarm sp_X5_isAlarm
      rw [ckL_ok n hS.c4 hL hk1 hk]
      simp only [Option.bind_some]
      rw [pl_0 n hS.sh (by omega)]
      simp only [Option.bind_some]
      rw [if_pos (ok_0 (by omega)), show rf 40 0 = 7 from rfl, g]
      simp only [Option.bind_some]
      rcases alC_or σ 0 k with e | e <;> rw [e] <;> rfl
    · unfold sp_X6_isAlarm
      rw [lacks_ok n' hS.t0 hL hk1 hk]
      simp only [Option.bind_some]
      rw [if_pos trivial, (RX.to14 (B := B) hS 0).alarmM (hR.2.1.to14 0) n' hk1 hk]
      simp only [Option.bind_some]
      rcases alC_or σ 0 k with e | e <;> rw [e] <;> rfl
  · refine op_bad (t := 1) (r := 0) h (by decide) ?_ ?_
    · unfold spg_L_isAlarm sp_X5_isAlarm
      rw [ckL_bad n hS.c4 hb]
      simp
    · unfold sp_X6_isAlarm
      rw [lacks_bad n' hS.t0 hb]
      simp
theorem op_isClosed {n n' B : Nat} {σ τ : Mem} (a : Int32) (h : RX B σ τ) : OpG B σ τ (spg_L_isClosed n σ 40 a 49) (sp_X6_isClosed n' τ 41 a) := by
  obtain ⟨L, W, u, N, Q, hR, h1, hN⟩ := id h
  have hS := hR.1
  have hL := hS.lv
  rcases lvl_or1 L hL a with ⟨k, hk1, hk, rfl⟩ | hb
  · have g := ev_isShut n σ 0 k
    rw [Nat.mul_zero, Nat.zero_add, Nat.zero_add] at g
    refine op_get (v := cdC σ 0 k) h ?_ ?_
    · unfold spg_L_isClosed sp_X5_isClosed
      rw [ckL_ok n hS.c4 hL hk1 hk]
      simp only [Option.bind_some]
      rw [pl_0 n hS.sh (by omega)]
      simp only [Option.bind_some]
      rw [if_pos (ok_0 (by omega)), show rf 40 0 = 7 from rfl, g]
      simp only [Option.bind_some]
      rcases cdC_or σ 0 k with e | e <;> rw [e] <;> rfl
    · unfold sp_X6_isClosed
      rw [lacks_ok n' hS.t0 hL hk1 hk]
      simp only [Option.bind_some]
      rw [if_pos trivial, ev_closedM n' (hR.2.1.to14 0) (hR.2.2.1.to14 0) (by omega)]
      simp only [Option.bind_some]
      rcases cdC_or σ 0 k with e | e <;> rw [e] <;> rfl
  · refine op_bad (t := 1) (r := 0) h (by decide) ?_ ?_
    · unfold spg_L_isClosed sp_X5_isClosed
      rw [ckL_bad n hS.c4 hb]
      simp
    · unfold sp_X6_isClosed
      rw [lacks_bad n' hS.t0 hb]
      simp
