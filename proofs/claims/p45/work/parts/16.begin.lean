/-! PURE. the relation behind a trip's beginning and its end -/
theorem acc_x {f : Nat → Int32} {x d : Int32} : ∀ j, acc (x + d) f j = acc x f j + d
  | 0 => rfl
  | j + 1 => by rw [acc, acc, acc_x j, Int32.add_assoc, Int32.add_assoc, Int32.add_comm d]
theorem acc_upd {f g : Nat → Int32} {x d : Int32} {i : Nat} (hi : g i = f i + d) (h1 : 1 ≤ i) : ∀ {j : Nat}, (∀ k, k ≠ i → k ≤ j → g k = f k) → i ≤ j → acc x g j = acc x f j + d
  | 0, _, h => by omega
  | j + 1, h0, h => by
    rw [acc, acc]
    by_cases e : i = j + 1
    · rw [acc_cong (g := f) (fun k k1 k2 => h0 k (by omega) (by omega)), ← e, hi, Int32.add_assoc]
    · rw [acc_upd hi h1 (j := j) (fun k k1 k2 => h0 k k1 (by omega)) (by omega), h0 (j + 1) (by omega) (by omega), Int32.add_assoc, Int32.add_assoc, Int32.add_comm d]
theorem i_rot (a b c : Int32) : a + b + c = a + c + b := by rw [Int32.add_assoc, Int32.add_comm b, ← Int32.add_assoc]
/-- the people of a mine: the trip's t, the surface's and the levels' -/
def pplS (t : Int32) (f : Nat → Int32) (L : Nat) : Int32 := acc (t + f 0) f L
theorem ppl_upd {f g : Nat → Int32} {t t' d : Int32} {i L : Nat} (h0 : ∀ k, k ≠ i → k ≤ L → g k = f k) (hi : g i = f i + -d) (ht : t' = t + d) (hL : i ≤ L) : pplS t' g L = pplS t f L := by
  unfold pplS
  by_cases e : i = 0
  · subst e
    rw [hi, ht, acc_cong (g := f) (fun k k1 k2 => h0 k (by omega) k2), ← Int32.add_assoc, i_rot t d, Int32.add_assoc _ d, Int32.add_right_neg, Int32.add_zero]
  · rw [acc_upd hi (by omega) h0 hL, h0 0 (by omega) (by omega), ht, i_rot t d, acc_x, Int32.add_assoc, Int32.add_right_neg, Int32.add_zero]
theorem ppl_cong {f g : Nat → Int32} {t : Int32} {L : Nat} (h0 : ∀ k, k ≤ L → g k = f k) : pplS t g L = pplS t f L := by
  unfold pplS
  rw [h0 0 (by omega)]
  exact acc_cong (fun k k1 k2 => h0 k k2)
theorem RP_iff {σ τ : Mem} {m L : Nat} : RP σ τ m L ↔ (pplS (onT σ m) (fun k => σ.1 (10 * m + k) 8) L = τ.1 41 10 ∧ ∀ k, L < k → k < 7 → σ.1 (10 * m + k) 8 = 0) := Iff.rfl
theorem kd_ne {c : Int32} (h : kd4 c) : c ≠ 45 := by
  rcases h with h | h | h | h <;> subst h <;> decide
theorem begin_R {σ τ σ' τ' : Mem} {m L : Nat} {W : Nat → Nat} {u N Q k f r : Nat} {c y q : Int32} (h : RR σ τ m L W u N Q) (hoff : σ.1 (10 * m + 8) 0 = 45) (hc : kd4 c) (hk1 : 1 ≤ k) (hk2 : k ≤ L) (hf : f ≤ L) (hr : 1 ≤ r) (hr2 : r ≤ 10000) (hy : ∃ y', y' ≤ 20 ∧ y = nI y') (hq : nO N q) (hq1 : ∀ p, p < Q → σ.1 (rw_ σ m p) 0 ≠ q) (hq2 : σ.1 (10 * m + 7) 15 = q → q = -1)
    (e2 : σ'.2 = σ.2) (eo : ∀ a b, (a ≠ 10 * m + f ∨ b ≠ slC c) → a ≠ 10 * m + 8 → σ'.1 a b = σ.1 a b) (es : σ'.1 (10 * m + f) (slC c) = σ.1 (10 * m + f) (slC c) + -y) (t0 : σ'.1 (10 * m + 8) 0 = c) (t1 : σ'.1 (10 * m + 8) 1 = nI k) (t2 : σ'.1 (10 * m + 8) 2 = y) (t3 : σ'.1 (10 * m + 8) 3 = nI r) (t4 : σ'.1 (10 * m + 8) 4 = q)
    (em : τ' = bgM τ c k f y q (nI r)) : RR σ' τ' m L W u N Q := by
  obtain ⟨hS, hG, hK, hT, hQ, hP, hB⟩ := h
  have hL := hS.lv
  have hsl := slC_le c
  have hsm : slM c = 7 ∨ slM c = 14 := by unfold slM; split <;> simp
  have mo : ∀ a b, (a ≠ 47 ∨ ((b < 63 ∨ 67 < b) ∧ b ≠ 72 ∧ b ≠ slM c + f)) → τ'.1 a b = τ.1 a b := by
    intro a b hab
    rw [em]
    unfold bgM
    rw [wi_o (by omega), wi_o (by omega), wi_o (by omega), wi_o (by omega), wi_o (by omega), wi_o (by omega), wi_o (by omega)]
  have ms : τ'.1 47 (slM c + f) = τ.1 47 (slM c + f) - y := by
    rw [em]
    exact wi_eq rfl rfl
  have m63 : τ'.1 47 63 = c := by
    rw [em]
    unfold bgM
    rw [wi_o (by omega), wi_o (by omega), wi_o (by omega), wi_o (by omega), wi_o (by omega), wi_o (by omega), wi_eq rfl rfl]
  have m64 : τ'.1 47 64 = nI k := by
    rw [em]
    unfold bgM
    rw [wi_o (by omega), wi_o (by omega), wi_o (by omega), wi_o (by omega), wi_o (by omega), wi_eq rfl rfl]
  have m65 : τ'.1 47 65 = y := by
    rw [em]
    unfold bgM
    rw [wi_o (by omega), wi_o (by omega), wi_o (by omega), wi_o (by omega), wi_eq rfl rfl]
  have m67 : τ'.1 47 67 = q := by
    rw [em]
    unfold bgM
    rw [wi_o (by omega), wi_o (by omega), wi_o (by omega), wi_eq rfl rfl]
  have m72 : τ'.1 47 72 = q := by
    rw [em]
    unfold bgM
    rw [wi_o (by omega), wi_o (by omega), wi_eq rfl rfl]
  have m66 : τ'.1 47 66 = nI r := by
    rw [em]
    unfold bgM
    rw [wi_o (by omega), wi_eq rfl rfl]
  refine ⟨?_, ?_, ?_, ?_, ?_, ?_, ?_⟩
  · exact hS.to (hS.sh.to e2) (fun k b k1 b1 => eo _ _ (by omega) (by omega)) (fun b b1 b2 => eo _ _ (by omega) (by omega)) (fun a b hab => mo a b (by omega))
  · intro i hi
    obtain ⟨g1, g2, g3, g4⟩ := hG i hi
    rw [eo _ 7 (by omega) (by omega), eo _ 10 (by omega) (by omega), mo 47 i (by omega), mo 47 (21 + i) (by omega)]
    refine ⟨g1, ?_, ?_, g4⟩
    · by_cases e : c = 111
      · rw [eo _ 8 (by unfold slC; rw [if_pos e]; omega) (by omega), mo 47 (7 + i) (by unfold slM; rw [if_pos e]; omega)]
        exact g2
      · by_cases ei : i = f
        · subst ei
          have a1 : slC c = 8 := if_neg e
          have a2 : slM c = 7 := if_neg e
          rw [a1] at es
          rw [a2] at ms
          rw [es, ms, g2, Int32.sub_eq_add_neg]
        · rw [eo _ 8 (by omega) (by omega), mo 47 (7 + i) (by unfold slM; rw [if_neg e]; omega)]
          exact g2
    · by_cases e : c = 111
      · by_cases ei : i = f
        · subst ei
          have a1 : slC c = 9 := if_pos e
          have a2 : slM c = 14 := if_pos e
          rw [a1] at es
          rw [a2] at ms
          rw [es, ms, g3, Int32.sub_eq_add_neg]
        · rw [eo _ 9 (by omega) (by omega), mo 47 (14 + i) (by unfold slM; rw [if_pos e]; omega)]
          exact g3
      · rw [eo _ 9 (by unfold slC; rw [if_neg e]; omega) (by omega), mo 47 (14 + i) (by unfold slM; rw [if_neg e]; omega)]
        exact g3
  · exact hK.to (fun b b1 b2 => eo _ _ (by omega) (by omega)) (fun b hb => mo _ _ (by omega)) (mo _ _ (by omega))
  · have hne := kd_ne hc
    unfold RT
    rw [t0, t1, t2, t3, t4, m63, m64, m65, m66, m67, m72]
    exact ⟨rfl, rfl, Or.inr hc, fun q => absurd q hne, fun _ => ⟨⟨k, hk1, hk2, rfl, rfl⟩, hy.imp (fun y' h => ⟨h.1, h.2, h.2⟩), ⟨r, hr, hr2, rfl, rfl⟩, rfl⟩⟩
  · obtain ⟨a1, a2, a3, a4, a5, a6, a7, a8, a9, a10, a11⟩ := hQ
    have er : ∀ p b, p < 8 → σ'.1 (rw_ σ' m p) b = σ.1 (rw_ σ m p) b := by
      intro p b hp
      have hh := hS.sh.2.2.1 p hp
      have hm2 := hS.m2
      show σ'.1 (σ'.2 (38 + m) p) b = _
      rw [e2, eo _ _ (by omega) (by omega)]
    have e15 : σ'.1 (10 * m + 7) 15 = σ.1 (10 * m + 7) 15 := eo _ _ (by omega) (by omega)
    refine ⟨a1, a2, by rw [eo _ _ (by omega) (by omega)]; exact a3, by rw [mo _ _ (by omega)]; exact a4, fun p hp => ?_, fun p q hp hq => ?_, by rw [t4]; exact hq, by rw [e15]; exact a8, fun p hp => ?_, ?_, fun p hp => ?_⟩
    · rw [er p 0 (by omega), er p 1 (by omega), er p 2 (by omega), er p 3 (by omega), mo 47 (28 + 4 * p) (by omega), mo 47 (29 + 4 * p) (by omega), mo 47 (30 + 4 * p) (by omega), mo 47 (31 + 4 * p) (by omega)]
      exact a5 p hp
    · rw [er p 0 (by omega), er q 0 (by omega)]
      exact a6 p q hp hq
    · rw [er p 0 (by omega), t4, e15]
      exact ⟨hq1 p hp, (a9 p hp).2⟩
    · rw [e15, t4]
      intro e
      rw [e]
      exact hq2 e
    · rw [er p 1 hp]
      exact a11 p hp
  · rw [RP_iff] at hP ⊢
    have hT2 := (hT.2.2.2.1 hoff).1
    have on0 : onT σ m = 0 := by
      unfold onT
      rw [hoff, if_neg (by decide), hT2]
    have on1 : onT σ' m = if c = 111 then 0 else y := by
      unfold onT
      rw [t0, t2]
    rw [mo 41 10 (by omega), ← hP.1, on0, on1]
    by_cases e : c = 111
    · have a1 : slC c = 9 := if_pos e
      rw [if_pos e]
      exact ⟨ppl_cong (fun i hi => eo _ _ (by omega) (by omega)), fun i i1 i2 => by rw [eo _ _ (by omega) (by omega)]; exact hP.2 i i1 i2⟩
    · have a1 : slC c = 8 := if_neg e
      rw [if_neg e]
      rw [a1] at es
      exact ⟨ppl_upd (i := f) (d := y) (fun i hi hi2 => eo _ _ (by omega) (by omega)) es (Int32.zero_add y).symm hf, fun i i1 i2 => by rw [eo _ _ (by omega) (by omega)]; exact hP.2 i i1 i2⟩
  · exact hB.to hL (fun k k1 => eo _ _ (by omega) (by omega)) (eo _ _ (by omega) (by omega)) (eo _ _ (by omega) (by omega))
/-! what a minute leaves as it was: the gas, the ore in all, a load -/
def onO (σ : Mem) (m : Nat) : Int32 := if σ.1 (10 * m + 8) 0 = 111 then σ.1 (10 * m + 8) 2 else 0
def oT (σ : Mem) (m : Nat) : Int32 := pplS (onO σ m) (fun k => σ.1 (10 * m + k) 9) 6
def LD (σ : Mem) (m : Nat) : Prop := σ.1 (10 * m + 8) 0 ≠ 45 → 0 < σ.1 (10 * m + 8) 2
/-- the people above are a number, b at most -/
def SP (σ : Mem) (m b : Nat) : Prop := ∃ p, p ≤ b ∧ σ.1 (10 * m) 8 = nI p
def XC (σ σ' : Mem) (m L : Nat) : Prop := (∀ k, k ≤ 6 → σ'.1 (10 * m + k) 7 = σ.1 (10 * m + k) 7) ∧ oT σ' m = oT σ m ∧ (∀ k, L < k → k ≤ 6 → σ'.1 (10 * m + k) 9 = σ.1 (10 * m + k) 9) ∧ (LD σ m → LD σ' m) ∧ (∀ b, b ≤ 50000 → SP σ m b → SP σ' m b) ∧ σ'.1 (10 * m + 7) 8 = σ.1 (10 * m + 7) 8
/-- the second half of a minute -/
def XH (σ σ' : Mem) (m L : Nat) : Prop := (∀ k, k ≤ 6 → σ'.1 (10 * m + k) 7 = σ.1 (10 * m + k) 7) ∧ oT σ' m = oT σ m ∧ (∀ k, L < k → k ≤ 6 → σ'.1 (10 * m + k) 9 = σ.1 (10 * m + k) 9) ∧ (LD σ m → LD σ' m) ∧ (∀ b, b ≤ 50000 → SP σ m b → SP σ' m (b + 20)) ∧ σ'.1 (10 * m + 7) 8 = σ.1 (10 * m + 7) 8 + 1
theorem XC.rfl' (σ : Mem) (m L : Nat) : XC σ σ m L := ⟨fun _ _ => rfl, rfl, fun _ _ _ => rfl, id, fun _ _ h => h, rfl⟩
theorem XC.trans {σ σ1 σ2 : Mem} {m L : Nat} (h : XC σ σ1 m L) (g : XC σ1 σ2 m L) : XC σ σ2 m L := ⟨fun k hk => (g.1 k hk).trans (h.1 k hk), g.2.1.trans h.2.1, fun k h1 h2 => (g.2.2.1 k h1 h2).trans (h.2.2.1 k h1 h2), fun x => g.2.2.2.1 (h.2.2.2.1 x), fun b hb x => g.2.2.2.2.1 b hb (h.2.2.2.2.1 b hb x), g.2.2.2.2.2.trans h.2.2.2.2.2⟩
theorem oT_cong {σ σ' : Mem} {m m' : Nat} (h9 : ∀ k, k ≤ 6 → σ'.1 (10 * m' + k) 9 = σ.1 (10 * m + k) 9) (h0 : σ'.1 (10 * m' + 8) 0 = σ.1 (10 * m + 8) 0) (h2 : σ'.1 (10 * m' + 8) 2 = σ.1 (10 * m + 8) 2) : oT σ' m' = oT σ m := by
  unfold oT onO
  rw [h0, h2]
  exact ppl_cong h9
theorem LD.to {σ σ' : Mem} {m : Nat} (h0 : σ'.1 (10 * m + 8) 0 = σ.1 (10 * m + 8) 0) (h2 : σ'.1 (10 * m + 8) 2 = σ.1 (10 * m + 8) 2) (x : LD σ m) : LD σ' m := by
  unfold LD at x ⊢
  rw [h0, h2]
  exact x
theorem SP.to {σ σ' : Mem} {m b b' : Nat} (h : σ'.1 (10 * m) 8 = σ.1 (10 * m) 8) (hb : b ≤ b') (x : SP σ m b) : SP σ' m b' := by
  obtain ⟨p, h1, h2⟩ := x
  exact ⟨p, by omega, h.trans h2⟩
theorem XC.fr {σ σ' : Mem} {m L : Nat} (h : ∀ k b, k ≤ 6 → (b = 7 ∨ b = 8 ∨ b = 9) → σ'.1 (10 * m + k) b = σ.1 (10 * m + k) b) (h0 : σ'.1 (10 * m + 8) 0 = σ.1 (10 * m + 8) 0) (h2 : σ'.1 (10 * m + 8) 2 = σ.1 (10 * m + 8) 2) (hc : σ'.1 (10 * m + 7) 8 = σ.1 (10 * m + 7) 8) : XC σ σ' m L :=
  ⟨fun k hk => h k 7 hk (Or.inl rfl), oT_cong (fun k hk => h k 9 hk (Or.inr (Or.inr rfl))) h0 h2, fun k _ hk => h k 9 hk (Or.inr (Or.inr rfl)), LD.to h0 h2, fun _ _ x => x.to (h 0 8 (by omega) (Or.inr (Or.inl rfl))) (Nat.le_refl _), hc⟩
theorem XH.fr {σ σ' : Mem} {m L : Nat} (h : ∀ k b, k ≤ 6 → (b = 7 ∨ b = 8 ∨ b = 9) → σ'.1 (10 * m + k) b = σ.1 (10 * m + k) b) (h0 : σ'.1 (10 * m + 8) 0 = σ.1 (10 * m + 8) 0) (h2 : σ'.1 (10 * m + 8) 2 = σ.1 (10 * m + 8) 2) (hc : σ'.1 (10 * m + 7) 8 = σ.1 (10 * m + 7) 8 + 1) : XH σ σ' m L :=
  ⟨fun k hk => h k 7 hk (Or.inl rfl), oT_cong (fun k hk => h k 9 hk (Or.inr (Or.inr rfl))) h0 h2, fun k _ hk => h k 9 hk (Or.inr (Or.inr rfl)), LD.to h0 h2, fun _ _ x => x.to (h 0 8 (by omega) (Or.inr (Or.inl rfl))) (Nat.le_add_right _ _), hc⟩
theorem XC.beg {σ σ' : Mem} {m L f : Nat} {c y : Int32} (hL : L ≤ 6) (hoff : σ.1 (10 * m + 8) 0 = 45) (hc : kd4 c) (hy : 0 < y) (hy2 : c = 100 → y ≤ σ.1 (10 * m) 8) (hf : f ≤ L) (hf0 : c = 100 → f = 0) (hf1 : c ≠ 100 → 1 ≤ f) (eo : ∀ a b, (a ≠ 10 * m + f ∨ b ≠ slC c) → a ≠ 10 * m + 8 → σ'.1 a b = σ.1 a b) (es : σ'.1 (10 * m + f) (slC c) = σ.1 (10 * m + f) (slC c) + -y) (t0 : σ'.1 (10 * m + 8) 0 = c) (t2 : σ'.1 (10 * m + 8) 2 = y) : XC σ σ' m L := by
  have hsl := slC_le c
  refine ⟨fun k hk => eo _ _ (by omega) (by omega), ?_, fun k k1 k2 => eo _ _ (by omega) (by omega), fun _ _ => by rw [t2]; exact hy, fun b hb x => ?_, eo _ _ (by omega) (by omega)⟩
  · have on0 : onO σ m = 0 := by
      unfold onO
      rw [hoff, if_neg (by decide)]
    have on1 : onO σ' m = if c = 111 then y else 0 := by
      unfold onO
      rw [t0, t2]
    unfold oT
    rw [on0, on1]
    by_cases e : c = 111
    · have a1 : slC c = 9 := if_pos e
      rw [if_pos e]
      rw [a1] at es
      exact ppl_upd (i := f) (d := y) (fun i hi hi2 => eo _ _ (by omega) (by omega)) es (Int32.zero_add y).symm (by omega)
    · have a1 : slC c = 8 := if_neg e
      rw [if_neg e]
      exact ppl_cong (fun i hi => eo _ _ (by omega) (by omega))
  · by_cases e : c = 100
    · have hf' := hf0 e
      have h2 := hy2 e
      subst hf'
      obtain ⟨p, p1, p2⟩ := x
      rw [p2] at h2
      obtain ⟨j, j1, rfl⟩ := nI_of2 (nI_toInt (show p < 2 ^ 31 by omega)) (fun q => absurd (Int32.lt_trans q hy) (Int32.lt_irrefl)) h2
      have a1 : slC c = 8 := by rw [e]; rfl
      rw [a1, Nat.add_zero, p2] at es
      exact ⟨p - j, by omega, by rw [es, ← Int32.sub_eq_add_neg, pk_sub j1]⟩
    · have := hf1 e
      exact x.to (eo _ _ (by omega) (by omega)) (Nat.le_refl _)
theorem XH.fin {σ σ' : Mem} {m L t y' : Nat} {c y : Int32} (hL : L ≤ 6) (hyy : y = nI y') (hy' : y' ≤ 20) (h0 : σ.1 (10 * m + 8) 0 = c) (h2 : σ.1 (10 * m + 8) 2 = y) (ht : t ≤ L) (eo : ∀ a b, (a ≠ 10 * m + 7) → (a ≠ 10 * m + t ∨ b ≠ slC c) → a ≠ 10 * m + 8 → σ'.1 a b = σ.1 a b) (es : σ'.1 (10 * m + t) (slC c) = σ.1 (10 * m + t) (slC c) + y) (t0 : σ'.1 (10 * m + 8) 0 = 45) (hk : σ'.1 (10 * m + 7) 8 = σ.1 (10 * m + 7) 8 + 1) : XH σ σ' m L := by
  have hsl := slC_le c
  refine ⟨fun k hk => eo _ _ (by omega) (by omega) (by omega), ?_, fun k k1 k2 => eo _ _ (by omega) (by omega) (by omega), fun _ hn => absurd t0 hn, fun b hb x => ?_, hk⟩
  · have on0 : onO σ m = if c = 111 then y else 0 := by
      unfold onO
      rw [h0, h2]
    have on1 : onO σ' m = 0 := by
      unfold onO
      rw [t0, if_neg (by decide)]
    unfold oT
    rw [on0, on1]
    by_cases e : c = 111
    · have a1 : slC c = 9 := if_pos e
      rw [if_pos e]
      rw [a1] at es
      exact ppl_upd (i := t) (d := -y) (fun i hi hi2 => eo _ _ (by omega) (by omega) (by omega)) (by rw [Int32.neg_neg]; exact es) (Int32.add_right_neg _).symm (by omega)
    · have a1 : slC c = 8 := if_neg e
      rw [if_neg e]
      exact ppl_cong (fun i hi => eo _ _ (by omega) (by omega) (by omega))
  · by_cases e : t = 0 ∧ slC c = 8
    · obtain ⟨e1, e2⟩ := e
      subst e1
      obtain ⟨p, p1, p2⟩ := x
      rw [e2, Nat.add_zero, p2, hyy, add_nI] at es
      exact ⟨p + y', by omega, es⟩
    · exact x.to (eo _ _ (by omega) (by omega) (by omega)) (Nat.le_add_right _ _)
/-- both systems begin the same trip -/
theorem begin_sim (n n' : Nat) {σ τ : Mem} {m L : Nat} {W : Nat → Nat} {u N Q k : Nat} {c y q : Int32} (h : RR σ τ m L W u N Q) (hoff : σ.1 (10 * m + 8) 0 = 45) (hc : kd4 c) (hk1 : 1 ≤ k) (hk2 : k ≤ L) (hy : ∃ y', y' ≤ 20 ∧ y = nI y') (hy1 : 0 < y) (hy2 : c = 100 → y ≤ σ.1 (10 * m) 8) (hq : nO N q) (hq1 : ∀ p, p < Q → σ.1 (rw_ σ m p) 0 ≠ q) (hq2 : σ.1 (10 * m + 7) 15 = q → q = -1) :
    ∃ σ' τ', sp_X1_beginTrip n σ (10 * m + 7) c (nI k) y q = some ((), σ') ∧ sp_X6_begins n' τ 41 c (nI k) y q = some ((), τ') ∧ RR σ' τ' m L W u N Q ∧ FrC σ σ' m ∧ FrM τ τ' ∧ σ'.1 (10 * m + 8) 0 = c ∧ σ'.1 (10 * m + 7) 15 = σ.1 (10 * m + 7) 15 ∧ XC σ σ' m L := by
  have hS := h.1
  have hL := hS.lv
  have hm2 := hS.m2
  obtain ⟨v, v1, v2, v3, v4⟩ := hS.spd
  obtain ⟨c0, c1, c2, c3⟩ := h.2.2.1.2.2.2.2.2.1
  have hfk := fr_le c k
  have htk := to_le c k
  obtain ⟨dc, p1, p2, p3⟩ := hS.dep c1
  obtain ⟨df, q1, q2, q3⟩ := hS.dep (k := fr_ c k) (by omega)
  obtain ⟨dt, r1, r2, r3⟩ := hS.dep (k := to_ c k) (by omega)
  have w1 := wyN_le v1 p1 q1
  have w2 := wyN_le v1 q1 r1
  have hsl := slC_le c
  have hsm : slM c = 7 ∨ slM c = 14 := by unfold slM; split <;> simp
  refine ⟨_, _, ev_beginTrip n hS.sh hc (by omega) (by omega) c2 v1 v2 v3 p1 q1 r1 p2 q2 r2, ev_begins n' (c := c) (y := y) (q := q) (by omega) (by omega) c3 v1 v2 v4 p1 q1 r1 p3 q3 r3, ?_, ⟨fun a b h1 h2 => ?_, fun a ha => rfl⟩, ⟨fun a b h1 => ?_, rfl⟩, ?_, ?_, ?_⟩
  · refine begin_R (f := fr_ c k) (r := 1 + wyN v dc df + wyN v df dt) h hoff hc hk1 hk2 (by omega) (by omega) (by omega) hy hq hq1 hq2 rfl (fun a b h1 h2 => ?_) ?_ ?_ ?_ ?_ ?_ ?_ rfl
    · rw [wi_o (by omega), wi_o (by omega), wi_o (by omega), wi_o (by omega), wi_o (by omega), wi_o (by omega)]
    · rw [wi_o (by omega), wi_o (by omega), wi_o (by omega), wi_o (by omega), wi_o (by omega), wi_eq rfl rfl]
    · rw [wi_o (by omega), wi_o (by omega), wi_o (by omega), wi_o (by omega), wi_eq rfl rfl]
    · rw [wi_o (by omega), wi_o (by omega), wi_o (by omega), wi_eq rfl rfl]
    · rw [wi_o (by omega), wi_o (by omega), wi_eq rfl rfl]
    · rw [wi_o (by omega), wi_eq rfl rfl]
    · rw [wi_eq rfl rfl]
  · rw [wi_o (by omega), wi_o (by omega), wi_o (by omega), wi_o (by omega), wi_o (by omega), wi_o (by omega)]
  · unfold bgM
    rw [wi_o (by omega), wi_o (by omega), wi_o (by omega), wi_o (by omega), wi_o (by omega), wi_o (by omega), wi_o (by omega)]
  · rw [wi_o (by omega), wi_o (by omega), wi_o (by omega), wi_o (by omega), wi_eq rfl rfl]
  · rw [wi_o (by omega), wi_o (by omega), wi_o (by omega), wi_o (by omega), wi_o (by omega), wi_o (by omega)]
  · refine XC.beg (f := fr_ c k) (y := y) hL hoff hc hy1 hy2 (by omega) (fun e => if_pos e) (fun e => by rw [show fr_ c k = k from if_neg e]; exact hk1) (fun a b h1 h2 => ?_) ?_ ?_ ?_
    · rw [wi_o (by omega), wi_o (by omega), wi_o (by omega), wi_o (by omega), wi_o (by omega), wi_o (by omega)]
    · rw [wi_o (by omega), wi_o (by omega), wi_o (by omega), wi_o (by omega), wi_o (by omega), wi_eq rfl rfl]
    · rw [wi_o (by omega), wi_o (by omega), wi_o (by omega), wi_o (by omega), wi_eq rfl rfl]
    · rw [wi_o (by omega), wi_o (by omega), wi_eq rfl rfl]
