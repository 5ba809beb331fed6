/-! PURE. the relation of the class's mine m, in σ, and the model, in τ -/
def RS (σ τ : Mem) (m L : Nat) (W : Nat → Nat) (u : Nat) : Prop :=
  ShM σ m ∧ L ≤ 6 ∧ σ.1 (10 * m + 7) 4 = nI L ∧ τ.1 41 0 = nI L ∧ NW σ m L W ∧ NM τ L W ∧ u ≤ 1000 ∧ σ.1 (10 * m + 7) 5 = nI u ∧ τ.1 41 6 = nI u ∧ σ.1 (10 * m + 7) 6 = τ.1 41 7 ∧
  (∃ v, 1 ≤ v ∧ v ≤ 500 ∧ σ.1 (10 * m + 7) 7 = nI v ∧ τ.1 41 8 = nI v) ∧
  (∀ k, k ≤ L → ∃ d, d ≤ 2000 ∧ σ.1 (10 * m + k) 0 = nI d ∧ τ.1 42 k = nI d) ∧
  (∀ k, 1 ≤ k → k ≤ L → (∃ z, 1 ≤ z ∧ z ≤ 500 ∧ σ.1 (10 * m + k) 1 = nI z ∧ τ.1 43 k = nI z) ∧ σ.1 (10 * m + k) 3 = τ.1 45 k ∧ (∃ w, 1 ≤ w ∧ w ≤ 20 ∧ σ.1 (10 * m + k) 2 = nI w ∧ τ.1 44 k = nI w) ∧ σ.1 (10 * m + k) 4 = τ.1 46 k ∧ σ.1 (10 * m + k) 5 = nI (airN W L u k)) ∧
  ∀ k, k < 7 → σ.1 (10 * m + k) 4 = 0 ∨ σ.1 (10 * m + k) 4 = 1
def RG (σ τ : Mem) (m : Nat) : Prop := ∀ k, k < 7 → σ.1 (10 * m + k) 7 = τ.1 47 k ∧ σ.1 (10 * m + k) 8 = τ.1 47 (7 + k) ∧ σ.1 (10 * m + k) 9 = τ.1 47 (14 + k) ∧ σ.1 (10 * m + k) 10 = τ.1 47 (21 + k)
def RK (σ τ : Mem) (m L N : Nat) : Prop :=
  σ.1 (10 * m + 7) 8 = τ.1 47 61 ∧ σ.1 (10 * m + 7) 9 = τ.1 47 70 ∧ σ.1 (10 * m + 7) 10 = τ.1 47 71 ∧ σ.1 (10 * m + 7) 11 = nI N ∧ τ.1 41 9 = nI N ∧ (∃ c, c ≤ L ∧ σ.1 (10 * m + 7) 12 = nI c ∧ τ.1 47 62 = nI c) ∧ σ.1 (10 * m + 7) 13 = τ.1 47 68 ∧ σ.1 (10 * m + 7) 14 = τ.1 47 69
def kd4 (c : Int32) : Prop := c = 100 ∨ c = 117 ∨ c = 111 ∨ c = 102
def RT (σ τ : Mem) (m L : Nat) : Prop :=
  σ.1 (10 * m + 8) 0 = τ.1 47 63 ∧ σ.1 (10 * m + 8) 4 = τ.1 47 67 ∧ (σ.1 (10 * m + 8) 0 = 45 ∨ kd4 (σ.1 (10 * m + 8) 0)) ∧
  (σ.1 (10 * m + 8) 0 = 45 → σ.1 (10 * m + 8) 2 = 0 ∧ σ.1 (10 * m + 8) 4 = -1 ∧ σ.1 (10 * m + 7) 15 = τ.1 47 72) ∧
  (σ.1 (10 * m + 8) 0 ≠ 45 → (∃ k, 1 ≤ k ∧ k ≤ L ∧ σ.1 (10 * m + 8) 1 = nI k ∧ τ.1 47 64 = nI k) ∧ (∃ y, y ≤ 20 ∧ σ.1 (10 * m + 8) 2 = nI y ∧ τ.1 47 65 = nI y) ∧ (∃ z, 1 ≤ z ∧ z ≤ 10000 ∧ σ.1 (10 * m + 8) 3 = nI z ∧ τ.1 47 66 = nI z) ∧ τ.1 47 72 = σ.1 (10 * m + 8) 4)
/-- a request's number, or none -/
def nO (N : Nat) (x : Int32) : Prop := x = -1 ∨ ∃ r, r < N ∧ x = nI r
def RQ (σ τ : Mem) (m L N Q : Nat) : Prop :=
  Q ≤ 8 ∧ N < 90000 ∧ σ.1 (10 * m + 9) 1 = nI Q ∧ τ.1 47 60 = nI Q ∧
  (∀ p, p < Q → (∃ r, r < N ∧ σ.1 (rw_ σ m p) 0 = nI r ∧ τ.1 47 (28 + 4 * p) = nI r) ∧ σ.1 (rw_ σ m p) 1 = τ.1 47 (29 + 4 * p) ∧ (σ.1 (rw_ σ m p) 1 = 100 ∨ σ.1 (rw_ σ m p) 1 = 117 ∨ σ.1 (rw_ σ m p) 1 = 111) ∧ (∃ k, 1 ≤ k ∧ k ≤ L ∧ σ.1 (rw_ σ m p) 2 = nI k ∧ τ.1 47 (30 + 4 * p) = nI k) ∧ (σ.1 (rw_ σ m p) 1 = 111 → σ.1 (rw_ σ m p) 3 = 20) ∧ (σ.1 (rw_ σ m p) 1 ≠ 111 → σ.1 (rw_ σ m p) 3 = τ.1 47 (31 + 4 * p)) ∧ ∃ x, x ≤ 20 ∧ σ.1 (rw_ σ m p) 3 = nI x) ∧
  (∀ p q, p < Q → q < Q → p ≠ q → σ.1 (rw_ σ m p) 0 ≠ σ.1 (rw_ σ m q) 0) ∧
  nO N (σ.1 (10 * m + 8) 4) ∧ nO N (σ.1 (10 * m + 7) 15) ∧ (∀ p, p < Q → σ.1 (rw_ σ m p) 0 ≠ σ.1 (10 * m + 8) 4 ∧ σ.1 (rw_ σ m p) 0 ≠ σ.1 (10 * m + 7) 15) ∧ (σ.1 (10 * m + 7) 15 = σ.1 (10 * m + 8) 4 → σ.1 (10 * m + 7) 15 = -1) ∧
  ∀ p, p < 8 → 0 ≤ σ.1 (rw_ σ m p) 1 ∧ σ.1 (rw_ σ m p) 1 ≤ 65535
/-- the people of the trip -/
def onT (σ : Mem) (m : Nat) : Int32 := if σ.1 (10 * m + 8) 0 = 111 then 0 else σ.1 (10 * m + 8) 2
def RP (σ τ : Mem) (m L : Nat) : Prop := acc (onT σ m + σ.1 (10 * m) 8) (fun k => σ.1 (10 * m + k) 8) L = τ.1 41 10 ∧ ∀ k, L < k → k < 7 → σ.1 (10 * m + k) 8 = 0
def RB (σ : Mem) (m L : Nat) : Prop := acc (σ.1 (10 * m + 7) 10) (fun k => σ.1 (10 * m + k) 7) L = σ.1 (10 * m + 7) 9 ∧ ∀ k, L < k → k < 7 → σ.1 (10 * m + k) 7 = 0
def RR (σ τ : Mem) (m L : Nat) (W : Nat → Nat) (u N Q : Nat) : Prop := RS σ τ m L W u ∧ RG σ τ m ∧ RK σ τ m L N ∧ RT σ τ m L ∧ RQ σ τ m L N Q ∧ RP σ τ m L ∧ RB σ m L
/-! from one memory to another -/
theorem RS.to {σ τ σ' τ' : Mem} {m m' L : Nat} {W : Nat → Nat} {u : Nat} (h : RS σ τ m L W u) (hs : ShM σ' m') (h1 : ∀ k b, k ≤ 6 → b < 6 → σ'.1 (10 * m' + k) b = σ.1 (10 * m + k) b) (h2 : ∀ b, 4 ≤ b → b < 8 → σ'.1 (10 * m' + 7) b = σ.1 (10 * m + 7) b) (h3 : ∀ a b, a = 41 ∧ b < 9 ∨ 42 ≤ a ∧ a ≤ 46 → τ'.1 a b = τ.1 a b) : RS σ' τ' m' L W u := by
  obtain ⟨a1, a2, a3, a4, a5, a6, a7, a8, a9, a10, a11, a12, a13, a14⟩ := h
  refine ⟨hs, a2, ?_, ?_, ?_, ?_, a7, ?_, ?_, ?_, ?_, ?_, ?_, ?_⟩
  · rw [h2 4 (by omega) (by omega)]; exact a3
  · rw [h3 41 0 (by omega)]; exact a4
  · intro k k1 k2
    unfold owC
    rw [h1 k 4 (by omega) (by omega), h1 k 2 (by omega) (by omega)]
    exact a5 k k1 k2
  · intro k k1 k2
    rw [h3 46 k (by omega), h3 44 k (by omega)]
    exact a6 k k1 k2
  · rw [h2 5 (by omega) (by omega)]; exact a8
  · rw [h3 41 6 (by omega)]; exact a9
  · rw [h2 6 (by omega) (by omega), h3 41 7 (by omega)]; exact a10
  · rw [h2 7 (by omega) (by omega), h3 41 8 (by omega)]; exact a11
  · intro k k1
    rw [h1 k 0 (by omega) (by omega), h3 42 k (by omega)]
    exact a12 k k1
  · intro k k1 k2
    rw [h1 k 1 (by omega) (by omega), h1 k 2 (by omega) (by omega), h1 k 3 (by omega) (by omega), h1 k 4 (by omega) (by omega), h1 k 5 (by omega) (by omega), h3 43 k (by omega), h3 44 k (by omega), h3 45 k (by omega), h3 46 k (by omega)]
    exact a13 k k1 k2
  · intro k k1
    rw [h1 k 4 (by omega) (by omega)]
    exact a14 k k1
theorem RG.to {σ τ σ' τ' : Mem} {m m' : Nat} (h : RG σ τ m) (h1 : ∀ k b, k ≤ 6 → 7 ≤ b → b ≤ 10 → σ'.1 (10 * m' + k) b = σ.1 (10 * m + k) b) (h3 : ∀ b, b < 28 → τ'.1 47 b = τ.1 47 b) : RG σ' τ' m' := by
  intro k hk
  rw [h1 k 7 (by omega) (by omega) (by omega), h1 k 8 (by omega) (by omega) (by omega), h1 k 9 (by omega) (by omega) (by omega), h1 k 10 (by omega) (by omega) (by omega), h3 k (by omega), h3 (7 + k) (by omega), h3 (14 + k) (by omega), h3 (21 + k) (by omega)]
  exact h k hk
theorem RK.to {σ τ σ' τ' : Mem} {m m' L N : Nat} (h : RK σ τ m L N) (h1 : ∀ b, 8 ≤ b → b ≤ 14 → σ'.1 (10 * m' + 7) b = σ.1 (10 * m + 7) b) (h3 : ∀ b, b = 61 ∨ b = 62 ∨ b = 68 ∨ b = 69 ∨ b = 70 ∨ b = 71 → τ'.1 47 b = τ.1 47 b) (h4 : τ'.1 41 9 = τ.1 41 9) : RK σ' τ' m' L N := by
  unfold RK
  rw [h1 8 (by omega) (by omega), h1 9 (by omega) (by omega), h1 10 (by omega) (by omega), h1 11 (by omega) (by omega), h1 12 (by omega) (by omega), h1 13 (by omega) (by omega), h1 14 (by omega) (by omega), h3 61 (by omega), h3 62 (by omega), h3 68 (by omega), h3 69 (by omega), h3 70 (by omega), h3 71 (by omega), h4]
  exact h
theorem RT.to {σ τ σ' τ' : Mem} {m m' L : Nat} (h : RT σ τ m L) (h1 : ∀ b, b < 5 → σ'.1 (10 * m' + 8) b = σ.1 (10 * m + 8) b) (h2 : σ'.1 (10 * m' + 7) 15 = σ.1 (10 * m + 7) 15) (h3 : ∀ b, 63 ≤ b → b ≤ 67 → τ'.1 47 b = τ.1 47 b) (h4 : τ'.1 47 72 = τ.1 47 72) : RT σ' τ' m' L := by
  unfold RT
  rw [h1 0 (by omega), h1 1 (by omega), h1 2 (by omega), h1 3 (by omega), h1 4 (by omega), h2, h3 63 (by omega) (by omega), h3 64 (by omega) (by omega), h3 65 (by omega) (by omega), h3 66 (by omega) (by omega), h3 67 (by omega) (by omega), h4]
  exact h
theorem RQ.to {σ τ σ' τ' : Mem} {m m' L N Q : Nat} (h : RQ σ τ m L N Q) (h0 : σ'.1 (10 * m' + 9) 1 = σ.1 (10 * m + 9) 1) (h1 : ∀ p b, p < 8 → b < 4 → σ'.1 (rw_ σ' m' p) b = σ.1 (rw_ σ m p) b) (h2 : σ'.1 (10 * m' + 7) 15 = σ.1 (10 * m + 7) 15) (h4 : σ'.1 (10 * m' + 8) 4 = σ.1 (10 * m + 8) 4) (h3 : ∀ b, 28 ≤ b → b ≤ 60 → τ'.1 47 b = τ.1 47 b) : RQ σ' τ' m' L N Q := by
  obtain ⟨a1, a2, a3, a4, a5, a6, a7, a8, a9, a10, a11⟩ := h
  refine ⟨a1, a2, by rw [h0]; exact a3, by rw [h3 60 (by omega) (by omega)]; exact a4, fun p hp => ?_, fun p q hp hq => ?_, by rw [h4]; exact a7, by rw [h2]; exact a8, fun p hp => ?_, by rw [h2, h4]; exact a10, fun p hp => ?_⟩
  · rw [h1 p 0 (by omega) (by omega), h1 p 1 (by omega) (by omega), h1 p 2 (by omega) (by omega), h1 p 3 (by omega) (by omega), h3 (28 + 4 * p) (by omega) (by omega), h3 (29 + 4 * p) (by omega) (by omega), h3 (30 + 4 * p) (by omega) (by omega), h3 (31 + 4 * p) (by omega) (by omega)]
    exact a5 p hp
  · rw [h1 p 0 (by omega) (by omega), h1 q 0 (by omega) (by omega)]
    exact a6 p q hp hq
  · rw [h1 p 0 (by omega) (by omega), h2, h4]
    exact a9 p hp
  · rw [h1 p 1 (by omega) (by omega)]
    exact a11 p hp
theorem RP.to {σ τ σ' τ' : Mem} {m m' L : Nat} (h : RP σ τ m L) (hL : L ≤ 6) (h1 : ∀ k, k ≤ 6 → σ'.1 (10 * m' + k) 8 = σ.1 (10 * m + k) 8) (h2 : onT σ' m' = onT σ m) (h3 : τ'.1 41 10 = τ.1 41 10) : RP σ' τ' m' L := by
  refine ⟨?_, fun k k1 k2 => by rw [h1 k (by omega)]; exact h.2 k k1 k2⟩
  have e0 : σ'.1 (10 * m') 8 = σ.1 (10 * m) 8 := h1 0 (by omega)
  rw [h2, h3, e0, ← h.1]
  exact acc_cong (fun k k1 k2 => h1 k (by omega))
theorem RB.to {σ σ' : Mem} {m m' L : Nat} (h : RB σ m L) (hL : L ≤ 6) (h1 : ∀ k, k ≤ 6 → σ'.1 (10 * m' + k) 7 = σ.1 (10 * m + k) 7) (h2 : σ'.1 (10 * m' + 7) 9 = σ.1 (10 * m + 7) 9) (h3 : σ'.1 (10 * m' + 7) 10 = σ.1 (10 * m + 7) 10) : RB σ' m' L := by
  refine ⟨?_, fun k k1 k2 => by rw [h1 k (by omega)]; exact h.2 k k1 k2⟩
  rw [h2, h3, ← h.1]
  exact acc_cong (fun k k1 k2 => h1 k (by omega))
theorem onT_cong {σ σ' : Mem} {m m' : Nat} (h0 : σ'.1 (10 * m' + 8) 0 = σ.1 (10 * m + 8) 0) (h2 : σ'.1 (10 * m' + 8) 2 = σ.1 (10 * m + 8) 2) : onT σ' m' = onT σ m := by
  unfold onT
  rw [h0, h2]
/-! what a class's op or a model's op may touch -/
def FrC (σ σ' : Mem) (m : Nat) : Prop := (∀ a b, (a < 10 * m ∨ 10 * m + 9 < a) → (a < 20 + 8 * m ∨ 27 + 8 * m < a) → σ'.1 a b = σ.1 a b) ∧ ∀ a, a ≠ 38 + m → σ'.2 a = σ.2 a
def FrM (τ τ' : Mem) : Prop := (∀ a b, a ≠ 47 → τ'.1 a b = τ.1 a b) ∧ τ'.2 = τ.2
theorem FrC.rfl' (σ : Mem) (m : Nat) : FrC σ σ m := ⟨fun _ _ _ _ => rfl, fun _ _ => rfl⟩
theorem FrC.trans {σ σ1 σ2 : Mem} {m : Nat} (h : FrC σ σ1 m) (g : FrC σ1 σ2 m) : FrC σ σ2 m := ⟨fun a b h1 h2 => (g.1 a b h1 h2).trans (h.1 a b h1 h2), fun a ha => (g.2 a ha).trans (h.2 a ha)⟩
theorem FrM.rfl' (σ : Mem) : FrM σ σ := ⟨fun _ _ _ => rfl, rfl⟩
theorem FrM.trans {σ σ1 σ2 : Mem} (h : FrM σ σ1) (g : FrM σ1 σ2) : FrM σ σ2 := ⟨fun a b h1 => (g.1 a b h1).trans (h.1 a b h1), g.2.trans h.2⟩
/-! share, alarm, closed -/
def shC (σ : Mem) (m k : Nat) : Int32 := (1000 * σ.1 (10 * m + k) 7) / σ.1 (10 * m + k) 1
def alC (σ : Mem) (m k : Nat) : Int32 := if shC σ m k < σ.1 (10 * m + 7) 6 then 0 else 1
def cdC (σ : Mem) (m k : Nat) : Int32 := if σ.1 (10 * m + k) 10 ≤ σ.1 (10 * m + 7) 8 then 0 else 1
theorem RS.lv {σ τ : Mem} {m L : Nat} {W : Nat → Nat} {u : Nat} (h : RS σ τ m L W u) : L ≤ 6 := h.2.1
theorem RS.sh {σ τ : Mem} {m L : Nat} {W : Nat → Nat} {u : Nat} (h : RS σ τ m L W u) : ShM σ m := h.1
theorem RS.m2 {σ τ : Mem} {m L : Nat} {W : Nat → Nat} {u : Nat} (h : RS σ τ m L W u) : m < 2 := h.1.1
theorem RS.c4 {σ τ : Mem} {m L : Nat} {W : Nat → Nat} {u : Nat} (h : RS σ τ m L W u) : σ.1 (10 * m + 7) 4 = nI L := h.2.2.1
theorem RS.t0 {σ τ : Mem} {m L : Nat} {W : Nat → Nat} {u : Nat} (h : RS σ τ m L W u) : τ.1 41 0 = nI L := h.2.2.2.1
theorem RS.lim {σ τ : Mem} {m L : Nat} {W : Nat → Nat} {u : Nat} (h : RS σ τ m L W u) : σ.1 (10 * m + 7) 6 = τ.1 41 7 := h.2.2.2.2.2.2.2.2.2.1
theorem RS.spd {σ τ : Mem} {m L : Nat} {W : Nat → Nat} {u : Nat} (h : RS σ τ m L W u) : ∃ v, 1 ≤ v ∧ v ≤ 500 ∧ σ.1 (10 * m + 7) 7 = nI v ∧ τ.1 41 8 = nI v := h.2.2.2.2.2.2.2.2.2.2.1
theorem RS.dep {σ τ : Mem} {m L : Nat} {W : Nat → Nat} {u : Nat} (h : RS σ τ m L W u) {k : Nat} (hk : k ≤ L) : ∃ d, d ≤ 2000 ∧ σ.1 (10 * m + k) 0 = nI d ∧ τ.1 42 k = nI d := h.2.2.2.2.2.2.2.2.2.2.2.1 k hk
theorem RS.row {σ τ : Mem} {m L : Nat} {W : Nat → Nat} {u : Nat} (h : RS σ τ m L W u) {k : Nat} (h1 : 1 ≤ k) (h2 : k ≤ L) : (∃ z, 1 ≤ z ∧ z ≤ 500 ∧ σ.1 (10 * m + k) 1 = nI z ∧ τ.1 43 k = nI z) ∧ σ.1 (10 * m + k) 3 = τ.1 45 k ∧ (∃ w, 1 ≤ w ∧ w ≤ 20 ∧ σ.1 (10 * m + k) 2 = nI w ∧ τ.1 44 k = nI w) ∧ σ.1 (10 * m + k) 4 = τ.1 46 k ∧ σ.1 (10 * m + k) 5 = nI (airN W L u k) := h.2.2.2.2.2.2.2.2.2.2.2.2.1 k h1 h2
theorem RS.siz {σ τ : Mem} {m L : Nat} {W : Nat → Nat} {u : Nat} (h : RS σ τ m L W u) {k : Nat} (h1 : 1 ≤ k) (h2 : k ≤ L) : σ.1 (10 * m + k) 1 = τ.1 43 k := by
  obtain ⟨z, -, -, e1, e2⟩ := (h.row h1 h2).1
  rw [e1, e2]
theorem ev_share (n : Nat) {σ : Mem} {m k z : Nat} (h1 : 1 ≤ z) (h2 : z ≤ 500) (hz : σ.1 (10 * m + k) 1 = nI z) : sp_X0_share n σ (10 * m + k) = some (shC σ m k, σ) := by
  unfold sp_X0_share shC
  rw [if_neg (by rw [hz, n0, le_nI (by omega) (by omega)]; omega), if_pos (by rw [hz, n0, eq_nI (by omega) (by omega)]; omega)]
theorem RS.share {σ τ : Mem} {m L : Nat} {W : Nat → Nat} {u : Nat} (h : RS σ τ m L W u) (n : Nat) {k : Nat} (h1 : 1 ≤ k) (h2 : k ≤ L) : sp_X0_share n σ (10 * m + k) = some (shC σ m k, σ) := by
  obtain ⟨z, z1, z2, z3, z4⟩ := (h.row h1 h2).1
  exact ev_share n z1 z2 z3
theorem RS.shareM {σ τ : Mem} {m L : Nat} {W : Nat → Nat} {u : Nat} (h : RS σ τ m L W u) (hg : RG σ τ m) (n : Nat) {k : Nat} (h1 : 1 ≤ k) (h2 : k ≤ L) : sp_X6_share n τ 41 (nI k) = some (shC σ m k, τ) := by
  obtain ⟨z, z1, z2, z3, z4⟩ := (h.row h1 h2).1
  have hL := h.lv
  unfold sp_X6_share
  simp only [ix_0 (show k < 73 by omega)]
  rw [if_pos (inR_nI (by omega) (by omega)), if_pos (inR_nI (by omega) (by omega))]
  simp only [nI_cl (show k < 100000 by omega), rfm_2, rfm_11]
  rw [if_pos (by rw [z4, n0, eq_nI (by omega) (by omega)]; omega)]
  unfold shC
  rw [(hg k (by omega)).1, z3, z4]
theorem RS.alarm {σ τ : Mem} {m L : Nat} {W : Nat → Nat} {u : Nat} (h : RS σ τ m L W u) (n : Nat) {k : Nat} (h1 : 1 ≤ k) (h2 : k ≤ L) : sp_X1_hasAlarm n σ (10 * m + 7) (10 * m + k) = some (alC σ m k, σ) := by
  unfold sp_X1_hasAlarm
  rw [h.share n h1 h2]
  simp only [Option.bind_some]
  unfold alC
  split <;> rfl
theorem RS.alarmM {σ τ : Mem} {m L : Nat} {W : Nat → Nat} {u : Nat} (h : RS σ τ m L W u) (hg : RG σ τ m) (n : Nat) {k : Nat} (h1 : 1 ≤ k) (h2 : k ≤ L) : sp_X6_alarms n τ 41 (nI k) = some (alC σ m k, τ) := by
  unfold sp_X6_alarms
  rw [h.shareM hg n h1 h2]
  simp only [Option.bind_some]
  unfold alC
  rw [h.lim]
  split <;> rfl
theorem ev_isShut (n : Nat) (σ : Mem) (m k : Nat) : sp_X1_isShut n σ (10 * m + 7) (10 * m + k) = some (cdC σ m k, σ) := by
  unfold sp_X1_isShut cdC
  split <;> rfl
theorem c61 : (61 : Int32).toNatClampNeg = 61 := by decide
theorem i61 : inR (61 : Int32) 73 := by decide
theorem ix7 (k : Nat) : (7 : Int32) + nI k = nI (7 + k) := by rw [n7, add_nI]
theorem ix14 (k : Nat) : (14 : Int32) + nI k = nI (14 + k) := by rw [show (14 : Int32) = nI 14 from rfl, add_nI]
theorem ix21 (k : Nat) : (21 : Int32) + nI k = nI (21 + k) := by rw [show (21 : Int32) = nI 21 from rfl, add_nI]
theorem ev_closedM (n : Nat) {σ τ : Mem} {m L N : Nat} (hg : RG σ τ m) (hk' : RK σ τ m L N) {k : Nat} (hk : k < 7) : sp_X6_closed n τ 41 (nI k) = some (cdC σ m k, τ) := by
  unfold sp_X6_closed
  simp only [ix21]
  rw [if_pos i61, if_pos (inR_nI (by omega) (by omega))]
  simp only [nI_cl (show 21 + k < 100000 by omega), rfm_11, c61]
  unfold cdC
  rw [(hg k hk).2.2.2, hk'.1]
  split <;> rfl
