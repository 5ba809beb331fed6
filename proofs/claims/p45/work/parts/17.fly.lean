/-! PURE. flights, and a trip's end -/
theorem le0_nI {w : Nat} (h : w < 100000) : nI w ≤ 0 ↔ w = 0 := by
  rw [n0, le_nI h (by omega)]
  omega
theorem eq0_nI {w : Nat} (h : w < 100000) : nI w = 0 ↔ w = 0 := by
  rw [n0, eq_nI h (by omega)]
def fl (P A S : Nat → Int32) : Nat → Nat → Nat → Nat
  | 0, _, w => w
  | d + 1, j, w => if P (j + 1) ≤ 0 then fl P A S d (j + 1) w else if A (j + 1) = 0 then fl P A S d (j + 1) w else if w = 0 then fl P A S d (j + 1) (j + 1) else if S (j + 1) ≤ S w then fl P A S d (j + 1) w else fl P A S d (j + 1) (j + 1)
theorem fl_le {P A S : Nat → Int32} : ∀ {d j w : Nat}, w ≤ j → fl P A S d j w ≤ j + d
  | 0, _, _, h => h
  | d + 1, j, w, h => by
    have h1 := fl_le (P := P) (A := A) (S := S) (d := d) (j := j + 1) (w := w) (by omega)
    have h2 := fl_le (P := P) (A := A) (S := S) (d := d) (j := j + 1) (w := j + 1) (by omega)
    rw [fl]
    split
    · omega
    split
    · omega
    split
    · omega
    split <;> omega
theorem fl_pos {P A S : Nat → Int32} : ∀ {d j w : Nat}, (w ≠ 0 → ¬ P w ≤ 0) → fl P A S d j w ≠ 0 → ¬ P (fl P A S d j w) ≤ 0
  | 0, _, _, h, h2 => h h2
  | d + 1, j, w, h, h2 => by
    rw [fl] at h2 ⊢
    by_cases c1 : P (j + 1) ≤ 0
    · rw [if_pos c1] at h2 ⊢
      exact fl_pos h h2
    rw [if_neg c1] at h2 ⊢
    by_cases c2 : A (j + 1) = 0
    · rw [if_pos c2] at h2 ⊢
      exact fl_pos h h2
    rw [if_neg c2] at h2 ⊢
    by_cases c3 : w = 0
    · rw [if_pos c3] at h2 ⊢
      exact fl_pos (fun _ => c1) h2
    rw [if_neg c3] at h2 ⊢
    by_cases c4 : S (j + 1) ≤ S w
    · rw [if_pos c4] at h2 ⊢
      exact fl_pos h h2
    rw [if_neg c4] at h2 ⊢
    exact fl_pos (fun _ => c1) h2
/-- the lesser of x and v, a number -/
theorem min_nI {x : Nat} {v : Int32} (hx : x ≤ 20) (h : ¬ v < 0) : ∃ y', y' ≤ 20 ∧ (if nI x < v then nI x else v) = nI y' := by
  by_cases c : nI x < v
  · rw [if_pos c]
    exact ⟨x, hx, rfl⟩
  · rw [if_neg c]
    obtain ⟨j, j1, j2⟩ := nI_of2 (nI_toInt (show x < 2 ^ 31 by omega)) h (Int32.not_lt.mp c)
    exact ⟨j, by omega, j2⟩
theorem min_pos {x v : Int32} (hx : 0 < x) (h : ¬ v ≤ 0) : 0 < (if x < v then x else v) := by
  by_cases c : x < v
  · rw [if_pos c]; exact hx
  · rw [if_neg c]; exact Int32.not_le.mp h
def ppC (σ : Mem) (m k : Nat) : Int32 := σ.1 (10 * m + k) 8
theorem lp_startFlight (n : Nat) {σ τ : Mem} {m L : Nat} {W : Nat → Nat} {u : Nat} (h : RS σ τ m L W u) : ∀ (d k j w : Nat), j + d = L → d < k → w ≤ j →
    lp_X1_startFlight_4 n (10 * m + 7) k σ (nI w) (nI (j + 1)) = lp_X1_startFlight_4 n (10 * m + 7) (k - d) σ (nI (fl (ppC σ m) (alC σ m) (shC σ m) d j w)) (nI (L + 1)) := by
  intro d
  have hL := h.lv
  induction d with
  | zero =>
    intro k j w hj hk hw
    rw [show j = L by omega, fl]
    rfl
  | succ d ih =>
    intro k j w hj hk hw
    obtain ⟨k, rfl⟩ : ∃ z, k = z + 1 := ⟨k - 1, by omega⟩
    rw [lp_X1_startFlight_4_s, h.c4, if_neg (by rw [lt_nI (by omega) (by omega)]; omega), ev_place n h.sh (by omega)]
    simp only [Option.bind_some]
    rw [if_pos (ok_lv h.m2 (by omega)), fl, add1_nI, show k + 1 - (d + 1) = k - d by omega, show σ.1 (10 * m + (j + 1)) 8 = ppC σ m (j + 1) from rfl]
    by_cases c1 : ppC σ m (j + 1) ≤ 0
    · rw [if_pos c1, if_pos c1]
      exact ih k (j + 1) w (by omega) (by omega) (by omega)
    rw [if_neg c1, if_neg c1, h.alarm n (by omega) (by omega)]
    simp only [Option.bind_some]
    by_cases c2 : alC σ m (j + 1) = 0
    · rw [if_pos c2, if_pos c2]
      exact ih k (j + 1) w (by omega) (by omega) (by omega)
    rw [if_neg c2, if_neg c2]
    by_cases c3 : w = 0
    · rw [if_pos (by rw [c3]; rfl), if_pos c3]
      exact ih k (j + 1) (j + 1) (by omega) (by omega) (by omega)
    rw [if_neg (by rw [n0, eq_nI (by omega) (by omega)]; exact c3), if_neg c3, h.share n (by omega) (by omega)]
    simp only [Option.bind_some]
    rw [ev_place n h.sh (by omega)]
    simp only [Option.bind_some]
    rw [if_pos (ok_lv h.m2 (by omega)), h.share n (by omega) (by omega)]
    simp only [Option.bind_some]
    by_cases c4 : shC σ m (j + 1) ≤ shC σ m w
    · rw [if_pos c4, if_pos c4]
      exact ih k (j + 1) w (by omega) (by omega) (by omega)
    · rw [if_neg c4, if_neg c4]
      exact ih k (j + 1) (j + 1) (by omega) (by omega) (by omega)
theorem lp_fliesFrom (n : Nat) {σ τ : Mem} {m L : Nat} {W : Nat → Nat} {u : Nat} (h : RS σ τ m L W u) (hg : RG σ τ m) : ∀ (d k j w : Nat), j + d = L → d < k → w ≤ j →
    lp_X6_fliesFrom_4 n 41 k τ (nI w) (nI (j + 1)) = lp_X6_fliesFrom_4 n 41 (k - d) τ (nI (fl (ppC σ m) (alC σ m) (shC σ m) d j w)) (nI (L + 1)) := by
  intro d
  have hL := h.lv
  induction d with
  | zero =>
    intro k j w hj hk hw
    rw [show j = L by omega, fl]
    rfl
  | succ d ih =>
    intro k j w hj hk hw
    obtain ⟨k, rfl⟩ : ∃ z, k = z + 1 := ⟨k - 1, by omega⟩
    have hp : τ.1 47 (7 + (j + 1)) = ppC σ m (j + 1) := (hg (j + 1) (by omega)).2.1.symm
    rw [lp_X6_fliesFrom_4_s, h.t0, if_neg (by rw [lt_nI (by omega) (by omega)]; omega), h.alarmM hg n (by omega) (by omega)]
    simp only [Option.bind_some, ix7]
    rw [fl, add1_nI, show k + 1 - (d + 1) = k - d by omega]
    by_cases c2 : alC σ m (j + 1) = 0
    · rw [if_pos c2, if_pos c2]
      have := ih k (j + 1) w (by omega) (by omega) (by omega)
      split
      · exact this
      · exact this
    rw [if_neg c2, if_neg c2, if_pos (inR_nI (by omega) (by omega))]
    simp only [nI_cl (show 7 + (j + 1) < 100000 by omega), rfm_11, hp]
    by_cases c1 : ppC σ m (j + 1) ≤ 0
    · rw [if_pos c1, if_pos c1]
      exact ih k (j + 1) w (by omega) (by omega) (by omega)
    rw [if_neg c1, if_neg c1]
    by_cases c3 : w = 0
    · rw [if_pos (by rw [c3]; rfl), if_pos c3]
      exact ih k (j + 1) (j + 1) (by omega) (by omega) (by omega)
    rw [if_neg (by rw [n0, eq_nI (by omega) (by omega)]; exact c3), if_neg c3, h.shareM hg n (by omega) (by omega)]
    simp only [Option.bind_some]
    rw [h.shareM hg n (by omega) (by omega)]
    simp only [Option.bind_some]
    by_cases c4 : shC σ m (j + 1) ≤ shC σ m w
    · rw [if_pos c4, if_pos c4]
      exact ih k (j + 1) w (by omega) (by omega) (by omega)
    · rw [if_neg c4, if_neg c4]
      exact ih k (j + 1) (j + 1) (by omega) (by omega) (by omega)
theorem min_com (a b : Int32) : (if a < b then a else b) = if b < a then b else a := by
  by_cases h : a < b
  · rw [if_pos h, if_neg (Int32.not_lt.mpr (Int32.le_of_lt h))]
  · by_cases g : b < a
    · rw [if_neg h, if_pos g]
    · rw [if_neg h, if_neg g]
      exact Int32.le_antisymm (Int32.not_lt.mp h) (Int32.not_lt.mp g)
theorem flight_sim {n n' : Nat} (hn : 10 < n) (hn' : 10 < n') {σ τ : Mem} {m L : Nat} {W : Nat → Nat} {u N Q : Nat} (h : RR σ τ m L W u N Q) (hoff : σ.1 (10 * m + 8) 0 = 45) :
    ∃ r σ' τ', sp_X1_startFlight n σ (10 * m + 7) = some (r, σ') ∧ sp_X6_fliesFrom n' τ 41 = some (r, τ') ∧ RR σ' τ' m L W u N Q ∧ FrC σ σ' m ∧ FrM τ τ' ∧ (r = 0 ∧ σ' = σ ∧ τ' = τ ∨ r = 1 ∧ σ'.1 (10 * m + 8) 0 = 102) ∧ σ'.1 (10 * m + 7) 15 = σ.1 (10 * m + 7) 15 ∧ XC σ σ' m L := by
  have hS := h.1
  have hL := hS.lv
  have hw : fl (ppC σ m) (alC σ m) (shC σ m) L 0 0 ≤ 0 + L := fl_le (Nat.le_refl _)
  unfold sp_X1_startFlight sp_X6_fliesFrom
  rw [n0, n1, show nI 1 = nI (0 + 1) from rfl, lp_startFlight n hS L n 0 0 (by omega) (by omega) (by omega), lp_fliesFrom n' hS h.2.1 L n' 0 0 (by omega) (by omega) (by omega)]
  obtain ⟨k, hk⟩ : ∃ z, n - L = z + 1 := ⟨n - L - 1, by omega⟩
  obtain ⟨k', hk'⟩ : ∃ z, n' - L = z + 1 := ⟨n' - L - 1, by omega⟩
  have hpos : fl (ppC σ m) (alC σ m) (shC σ m) L 0 0 ≠ 0 → ¬ ppC σ m (fl (ppC σ m) (alC σ m) (shC σ m) L 0 0) ≤ 0 := fl_pos (fun h => absurd rfl h)
  generalize fl (ppC σ m) (alC σ m) (shC σ m) L 0 0 = w at hw hpos
  rw [hk, hk', lp_X1_startFlight_4_s, lp_X6_fliesFrom_4_s, hS.c4, hS.t0, if_pos ((lt_nI (by omega) (by omega)).mpr (by omega)), if_pos ((lt_nI (by omega) (by omega)).mpr (by omega))]
  by_cases c : w = 0
  · subst c
    rw [if_pos ((eq0_nI (by omega)).mpr rfl), if_pos ((le0_nI (by omega)).mpr rfl), if_pos ((le0_nI (by omega)).mpr rfl)]
    exact ⟨_, _, _, rfl, rfl, h, FrC.rfl' _ _, FrM.rfl' _, Or.inl ⟨rfl, rfl, rfl⟩, rfl, XC.rfl' _ _ _⟩
  · have hle : ¬ nI w ≤ 0 := by rw [le0_nI (by omega)]; exact c
    rw [if_neg (by rw [eq0_nI (by omega)]; exact c), if_neg hle, ev_place n hS.sh (by omega)]
    simp only [Option.bind_some, ix7]
    rw [if_pos (ok_lv hS.m2 (by omega)), if_pos (inR_nI (by omega) (by omega))]
    simp only [nI_cl (show 7 + w < 100000 by omega), rfm_11]
    rw [← (h.2.1 w (by omega)).2.1, min_com _ 12]
    obtain ⟨σ', τ', e1, e2, e3, e4, e5, e6, e7, e8⟩ := begin_sim n n' (c := 102) (k := w) (y := if (12 : Int32) < σ.1 (10 * m + w) 8 then 12 else σ.1 (10 * m + w) 8) (q := -1) h hoff (Or.inr (Or.inr (Or.inr rfl))) (by omega) (by omega) (min_nI (x := 12) (by omega) (fun q => hpos c (Int32.le_of_lt q))) (min_pos (by decide) (hpos c)) (fun e => absurd e (by decide)) (Or.inl rfl) (fun p hp => by
      obtain ⟨-, a2, -, -, a5, -⟩ := h.2.2.2.2.1
      obtain ⟨⟨r, r1, r2, -⟩, -⟩ := a5 p hp
      rw [r2]
      intro e
      have := nI_pos (n := r) (by omega)
      rw [e] at this
      exact this (by decide)) (fun _ => rfl)
    rw [e1, e2]
    simp only [Option.bind_some]
    rw [if_neg hle]
    exact ⟨1, σ', τ', rfl, rfl, e3, e4, e5, Or.inr ⟨rfl, e6⟩, e7, e8⟩
