/-! THE START: the system just made, the model as its ghost, and their relation -/
def mineV (k : Nat) : Int32 := match k with | 5 => 100 | 6 => 20 | 7 => 100 | 15 => -1 | _ => 0
def tripV (k : Nat) : Int32 := match k with | 0 => 45 | 4 => -1 | _ => 0
def modV (k : Nat) : Int32 := match k with | 6 => 100 | 7 => 20 | 8 => 100 | _ => 0
def sV (k : Nat) : Int32 := upd (upd (upd (fun _ => 0) 63 45) 67 (-1)) 72 (-1) k
def s0v (i k : Nat) : Int32 := match i with
  | 7 => mineV k
  | 17 => mineV k
  | 8 => tripV k
  | 18 => tripV k
  | 41 => modV k
  | 47 => sV k
  | 50 => (match k with | 1 => 1 | _ => 0)
  | _ => 0
def s0r (bl ln i k : Nat) : Nat := match i with
  | 36 => k
  | 37 => 10 + k
  | 38 => 20 + k
  | 39 => 28 + k
  | 40 => bl
  | 41 => ln
  | _ => 0
def s0 (bl ln : Nat) : Mem := (s0v, s0r bl ln)
theorem sh_s0 (bl ln : Nat) : ShM (s0 bl ln) 0 := by
  refine ⟨by omega, fun j hj => ?_, fun p hp => ?_, fun p q hp hq e => ?_⟩
  · show j = 10 * 0 + j
    omega
  · show 20 + 8 * 0 ≤ 20 + p ∧ 20 + p < 28 + 8 * 0
    omega
  · have e : 20 + p = 20 + q := e
    omega
theorem sh_s1 (bl ln : Nat) : ShM (s0 bl ln) 1 := by
  refine ⟨by omega, fun j hj => ?_, fun p hp => ?_, fun p q hp hq e => ?_⟩
  · show 10 + j = 10 * 1 + j
    omega
  · show 20 + 8 * 1 ≤ 28 + p ∧ 28 + p < 28 + 8 * 1
    omega
  · have e : 28 + p = 28 + q := e
    omega
theorem rx_s0 (bl ln : Nat) : RX 0 (s0 bl ln) (s0 bl ln) := by
  refine ⟨0, fun _ => 0, 100, 0, 0, ⟨⟨sh_s0 bl ln, by omega, rfl, rfl, fun k h1 h2 => by omega, fun k h1 h2 => by omega, by omega, rfl, rfl, rfl, ⟨100, by omega, by omega, rfl, rfl⟩, fun k hk => ?_, fun k h1 h2 => by omega, fun k hk => ?_⟩, fun k hk => ?_, ⟨rfl, rfl, rfl, rfl, rfl, ⟨0, by omega, rfl, rfl⟩, rfl, rfl⟩, ⟨rfl, rfl, Or.inl rfl, fun _ => ⟨rfl, rfl, rfl⟩, fun h => absurd rfl h⟩, ⟨by omega, by omega, rfl, rfl, fun p hp => by omega, fun p q hp => by omega, Or.inl rfl, Or.inl rfl, fun p hp => by omega, fun _ => rfl, fun p hp => ?_⟩, ⟨rfl, fun k h1 h2 => ?_⟩, ⟨rfl, fun k h1 h2 => ?_⟩⟩, sh_s1 bl ln, by omega⟩
  · obtain rfl : k = 0 := by omega
    exact ⟨0, by omega, rfl, rfl⟩
  · exact Or.inl ((by decide : ∀ k, k < 7 → s0v (10 * 0 + k) 4 = 0) k hk)
  · exact (by decide : ∀ k, k < 7 → s0v (10 * 0 + k) 7 = s0v 47 k ∧ s0v (10 * 0 + k) 8 = s0v 47 (7 + k) ∧ s0v (10 * 0 + k) 9 = s0v 47 (14 + k) ∧ s0v (10 * 0 + k) 10 = s0v 47 (21 + k)) k hk
  · show 0 ≤ s0v (20 + p) 1 ∧ s0v (20 + p) 1 ≤ 65535
    exact (by decide : ∀ p, p < 8 → 0 ≤ s0v (20 + p) 1 ∧ s0v (20 + p) 1 ≤ 65535) p hp
  · exact (by decide : ∀ k, k < 7 → s0v (10 * 0 + k) 8 = 0) k h2
  · exact (by decide : ∀ k, k < 7 → s0v (10 * 0 + k) 7 = 0) k h2
/-- an array of references counts below its length alone -/
theorem refarr {D : va_G} {w : Tx} {H : Heap} {k a n : Nat} {c : ClassId} {f g : Nat → Option Nat} (h : va_P D vwCl w H) (hk : w[k]? = some (a, .inl (c, n, .inr (.inr (.inr (.inr f)))))) (e : ∀ j, j < n → f j = g j) : va_P D vwCl (w.set k (a, .inl (c, n, .inr (.inr (.inr (.inr g)))))) H := by
  intro i q hq
  by_cases hi : i = k
  · subst hi
    rw [List.getElem?_set_self (List.getElem?_eq_some_iff.mp hk).1] at hq
    cases hq
    have h1 : H[a]? = some (vp_cell c (n, .inr (.inr (.inr (.inr f))))) := h i _ hk
    show H[a]? = some (vp_cell c (n, .inr (.inr (.inr (.inr g)))))
    rw [h1, vp_cell_q, vp_cell_q]
    unfold arrV
    congr 2
    apply Array.ext
    · simp
    · intro j h1 h2
      simp only [Array.getElem_ofFn]
      rw [e j (by simpa using h1)]
  · rw [List.getElem?_set_ne (Ne.symm hi)] at hq
    exact h i q hq
theorem jt_refarr {x : Xt Tx} {D : va_G} (X : Wt x D) {lo : List (Nat × Value)} {st : List Value} {w : Tx} {pc kc ns : Nat} (k : Nat) {a n : Nat} {c : ClassId} {f : Nat → Option Nat} (g : Nat → Option Nat) (hk : w[k]? = some (a, .inl (c, n, .inr (.inr (.inr (.inr f)))))) (e : ∀ j, j < n → f j = g j) (k0 : J x lo st (w.set k (a, .inl (c, n, .inr (.inr (.inr (.inr g)))))) pc kc ns) : J x lo st w pc kc ns := by
  intro H locs ls hl hP hS
  obtain ⟨hP1, hD⟩ := (X.1 w H).mp hP
  exact k0 H locs ls hl ((X.1 _ H).mpr ⟨refarr hP1 hk e, hD.set hk⟩) hS
theorem inv_s0 (bl ln : Nat) : @INV ⟨(bl : Nat)⟩ (s0 bl ln) 0 0 0 0 := by
  letI : Inhabited Bl := ⟨(bl : Nat)⟩
  have hO : oT (s0 bl ln) 0 = 0 := rfl
  exact INV.of (rx_s0 bl ln) (show (s0 bl ln).1 7 4 = nI 0 from rfl) (by omega) (show (s0 bl ln).1 7 11 = nI 0 from rfl) (by omega) ⟨fun k h1 h2 => by omega, fun k h1 h2 => by omega, fun k hk => ⟨0, by omega, (by decide : ∀ k, k < 7 → s0v k 7 = 0) k (by omega)⟩, hO, fun k h1 h2 => (by decide : ∀ k, k < 7 → s0v k 9 = 0) k (by omega), fun h => absurd rfl h, ⟨0, by omega, rfl⟩, ⟨20, by omega, rfl⟩, ⟨0, by omega, rfl⟩, ⟨rfl, rfl⟩⟩
/-- what the cage's text is made of -/
theorem trip_INV [Inhabited Bl] {σ : Mem} {L N g : Nat} {O : Int32} (h : INV σ L N g O) : ∃ y l z, y ≤ 20 ∧ l ≤ 6 ∧ z ≤ 10000 ∧ (¬ σ.1 8 0 = 45 → σ.1 8 1 = nI l ∧ σ.1 8 2 = nI y ∧ σ.1 8 3 = nI z) := by
  obtain ⟨τ, W, u, Q, hR, -, -⟩ := h
  obtain ⟨w1, w2, w3, w4, w5⟩ := hR.2.2.2.1
  have hL := hR.1.lv
  by_cases e : σ.1 8 0 = 45
  · exact ⟨0, 0, 0, by omega, by omega, by omega, fun h => absurd e h⟩
  · obtain ⟨⟨k, k1, k2, k3, k4⟩, ⟨y, y1, y2, y3⟩, ⟨z, z1, z2, z3, z4⟩, -⟩ := w5 e
    exact ⟨y, k, z, y1, by omega, z2, fun _ => ⟨k3, y2, z3⟩⟩
theorem INV.bl [Inhabited Bl] {σ : Mem} {L N g : Nat} {O : Int32} (h : INV σ L N g O) : σ.2 40 2 = blv := by
  obtain ⟨τ, W, u, Q, -, -, hI⟩ := h
  exact hI.2.2.2.2.2.2.2.2.2.2
