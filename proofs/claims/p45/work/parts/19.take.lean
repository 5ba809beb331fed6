/-! PURE. a request goes; what it would take; the search for one -/
def rpi (q p : Nat) : Nat := if p < q then p else if p < 7 then p + 1 else q
theorem rpi_lt {q p : Nat} (hq : q < 8) (hp : p < 8) : rpi q p < 8 := by
  unfold rpi
  split
  · exact hp
  · split <;> omega
theorem rpi_inj {q a b : Nat} (hq : q < 8) (ha : a < 8) (hb : b < 8) (h : rpi q a = rpi q b) : a = b := by
  unfold rpi at h
  split at h <;> split at h <;> (try split at h) <;> (try split at h) <;> omega
theorem rpi_ne {q p Q : Nat} (hp : p < Q - 1) (hq : q < Q) (hQ : Q ≤ 8) : rpi q p ≠ q ∧ rpi q p < Q := by
  unfold rpi
  split
  · omega
  · split <;> omega
theorem remove_R {σ τ σ' τ' : Mem} {m L : Nat} {W : Nat → Nat} {u N Q q : Nat} (h : RR σ τ m L W u N Q) (hq : q < Q)
    (e1 : ∀ a b, (a ≠ 10 * m + 9 ∨ b ≠ 1) → σ'.1 a b = σ.1 a b) (es : σ'.1 (10 * m + 9) 1 = nI (Q - 1)) (e2 : ∀ a, a ≠ 38 + m → σ'.2 a = σ.2 a) (er : ∀ p, p < 8 → rw_ σ' m p = rw_ σ m (rpi q p))
    (m1 : ∀ a b, a ≠ 47 → τ'.1 a b = τ.1 a b) (ms : τ'.1 47 60 = nI (Q - 1)) (m2 : ∀ b, b ≠ 60 → (b < 28 + 4 * q ∨ 28 + 4 * (Q - 1) ≤ b) → τ'.1 47 b = τ.1 47 b) (m3 : ∀ b, 28 + 4 * q ≤ b → b < 28 + 4 * (Q - 1) → τ'.1 47 b = τ.1 47 (b + 4)) :
    RR σ' τ' m L W u N (Q - 1) := by
  obtain ⟨hS, hG, hK, hT, hQ, hP, hB⟩ := h
  have hL := hS.lv
  have hm2 := hS.m2
  obtain ⟨a1, a2, a3, a4, a5, a6, a7, a8, a9, a10, a11⟩ := hQ
  have hsh : ShM σ' m := by
    obtain ⟨s1, s2, s3, s4⟩ := hS.sh
    refine ⟨s1, fun j hj => by rw [e2 _ (by omega)]; exact s2 j hj, fun p hp => ?_, fun p p' hp hp' he => ?_⟩
    · rw [show σ'.2 (38 + m) p = rw_ σ' m p from rfl, er p hp]
      exact s3 _ (rpi_lt (by omega) hp)
    · rw [show σ'.2 (38 + m) p = rw_ σ' m p from rfl, show σ'.2 (38 + m) p' = rw_ σ' m p' from rfl, er p hp, er p' hp'] at he
      exact rpi_inj (by omega) hp hp' (s4 _ _ (rpi_lt (by omega) hp) (rpi_lt (by omega) hp') he)
  have mf : ∀ p j, p < Q - 1 → j < 4 → τ'.1 47 (28 + j + 4 * p) = τ.1 47 (28 + j + 4 * rpi q p) := by
    intro p j hp hj
    unfold rpi
    by_cases c : p < q
    · rw [if_pos c, m2 _ (by omega) (by omega)]
    · rw [if_neg c, if_pos (by omega), m3 _ (by omega) (by omega), show 28 + j + 4 * p + 4 = 28 + j + 4 * (p + 1) by omega]
  have ef : ∀ p b, p < 8 → σ'.1 (rw_ σ' m p) b = σ.1 (rw_ σ m (rpi q p)) b := by
    intro p b hp
    have hh := hS.sh.2.2.1 (rpi q p) (rpi_lt (by omega) hp)
    rw [er p hp, e1 _ _ (Or.inl (by show σ.2 (38 + m) _ ≠ _; omega))]
  have mo : ∀ b, b < 28 ∨ 60 < b → τ'.1 47 b = τ.1 47 b := fun b hb => m2 b (by omega) (by omega)
  refine ⟨hS.to hsh (fun k b k1 b1 => e1 _ _ (by omega)) (fun b b1 b2 => e1 _ _ (by omega)) (fun a b hab => m1 _ _ (by omega)), hG.to (fun k b k1 b1 b2 => e1 _ _ (by omega)) (fun b hb => mo _ (by omega)), hK.to (fun b b1 b2 => e1 _ _ (by omega)) (fun b hb => mo _ (by omega)) (m1 _ _ (by omega)), hT.to (fun b hb => e1 _ _ (by omega)) (e1 _ _ (by omega)) (fun b b1 b2 => mo _ (by omega)) (mo _ (by omega)), ?_, hP.to hL (fun k k1 => e1 _ _ (by omega)) (onT_cong (e1 _ _ (by omega)) (e1 _ _ (by omega))) (m1 _ _ (by omega)), hB.to hL (fun k k1 => e1 _ _ (by omega)) (e1 _ _ (by omega)) (e1 _ _ (by omega))⟩
  refine ⟨by omega, a2, es, ms, fun p hp => ?_, fun p p' hp hp' hne => ?_, by rw [e1 _ _ (by omega)]; exact a7, by rw [e1 _ _ (by omega)]; exact a8, fun p hp => ?_, ?_, fun p hp => ?_⟩
  · have hr := rpi_ne hp hq a1
    rw [ef p 0 (by omega), ef p 1 (by omega), ef p 2 (by omega), ef p 3 (by omega), mf p 0 hp (by omega), mf p 1 hp (by omega), mf p 2 hp (by omega), mf p 3 hp (by omega)]
    exact a5 _ hr.2
  · have hr := rpi_ne hp hq a1
    have hr' := rpi_ne hp' hq a1
    rw [ef p 0 (by omega), ef p' 0 (by omega)]
    exact a6 _ _ hr.2 hr'.2 (fun e => hne (rpi_inj (by omega) (by omega) (by omega) e))
  · have hr := rpi_ne hp hq a1
    rw [ef p 0 (by omega), e1 _ _ (by omega), e1 _ _ (by omega)]
    exact a9 _ hr.2
  · rw [e1 _ _ (by omega), e1 _ _ (by omega)]
    exact a10
  · rw [ef p 1 hp]
    exact a11 _ (rpi_lt (by omega) hp)
theorem sr_at {g : Nat → Int32} {x : Int32} {Q q : Nat} (hq : q < Q) (h1 : g q = x) (h2 : ∀ p, p < q → g p ≠ x) : sr g x Q 0 = q := by
  obtain ⟨-, b, c, e⟩ := sr_spec g x Q 0
  rcases Nat.lt_trichotomy (sr g x Q 0) q with h | h | h
  · exact absurd (e (by omega)) (h2 _ h)
  · exact h
  · exact absurd h1 (c q (by omega) h)
theorem RQ.num {σ τ : Mem} {m L N Q q : Nat} (h : RQ σ τ m L N Q) (hq : q < Q) : sr (fun p => σ.1 (rw_ σ m p) 0) (σ.1 (rw_ σ m q) 0) Q 0 = q :=
  sr_at hq rfl (fun p hp => h.2.2.2.2.2.1 p q (by omega) hq (by omega))
/-- both systems let request q go -/
theorem remove_sim {n n' : Nat} (hn : 10 < n) (hn' : 40 < n') {σ τ : Mem} {m L : Nat} {W : Nat → Nat} {u N Q q : Nat} (h : RR σ τ m L W u N Q) (hq : q < Q) :
    ∃ σ' τ', sp_X4_remove n σ (10 * m + 9) (σ.1 (rw_ σ m q) 0) = some ((), σ') ∧ sp_X6_goes n' τ 41 (nI q) = some ((), τ') ∧ RR σ' τ' m L W u N (Q - 1) ∧ FrC σ σ' m ∧ FrM τ τ' ∧ (∀ a b, (a ≠ 10 * m + 9 ∨ b ≠ 1) → σ'.1 a b = σ.1 a b) ∧ (∀ p, p < 8 → rw_ σ' m p = rw_ σ m (rpi q p)) := by
  have hQ := h.2.2.2.2.1
  have hS := h.1
  obtain ⟨a1, a2, a3, a4, -⟩ := hQ
  obtain ⟨σ', e0, e1, e2, e3, e4, e5, e6⟩ := ev_remove hn hS.sh a3 a1 (h.2.2.2.2.1.num hq) hq
  obtain ⟨τ', f0, f1, f2, f3, f4, f5⟩ := ev_goes hn' (σ := τ) (W := Q - 1) (q := q) (by rw [a4, show Q - 1 + 1 = Q by omega]) (by omega) (by omega)
  have er : ∀ p, p < 8 → rw_ σ' m p = rw_ σ m (rpi q p) := by
    intro p hp
    unfold rpi
    by_cases c : p < q
    · rw [if_pos c]
      exact e4 p c
    · rw [if_neg c]
      by_cases c2 : p < 7
      · rw [if_pos c2]
        exact e5 p (by omega) c2
      · rw [if_neg c2, show p = 7 by omega]
        exact e6
  refine ⟨σ', τ', e0, f0, remove_R h hq e1 e2 e3 er f2 f3 f4 f5, ⟨fun a b h1 h2 => e1 a b (by omega), e3⟩, ⟨fun a b h1 => f2 a b h1, f1⟩, e1, er⟩
def ldC (σ : Mem) (m k : Nat) (c x : Int32) : Int32 :=
  if c = 111 then (if x < σ.1 (10 * m + k) 9 then x else σ.1 (10 * m + k) 9) else if c = 117 then (if x < σ.1 (10 * m + k) 8 then x else σ.1 (10 * m + k) 8) else if alC σ m k = 0 then if cdC σ m k = 0 then (if x < σ.1 (10 * m) 8 then x else σ.1 (10 * m) 8) else 0 else 0
theorem ev_loadOf (n : Nat) {σ τ : Mem} {m L : Nat} {W : Nat → Nat} {u : Nat} (h : RS σ τ m L W u) {o k : Nat} (hk1 : 1 ≤ k) (hk2 : k ≤ L) (ho : σ.1 o 2 = nI k) : sp_X1_loadOf n σ (10 * m + 7) o = some (ldC σ m k (σ.1 o 1) (σ.1 o 3), σ) := by
  have hL := h.lv
  unfold sp_X1_loadOf ldC
  rw [ho, ev_place n h.sh (by omega)]
  simp only [Option.bind_some]
  rw [if_pos (ok_lv h.m2 (by omega))]
  by_cases c1 : σ.1 o 1 = 111
  · rw [if_pos c1, if_pos c1]
  rw [if_neg c1, if_neg c1]
  by_cases c2 : σ.1 o 1 = 117
  · rw [if_pos c2, if_pos c2]
  rw [if_neg c2, if_neg c2, h.alarm n hk1 hk2]
  simp only [Option.bind_some]
  by_cases c3 : alC σ m k = 0
  · rw [if_pos c3, if_pos c3, ev_isShut]
    simp only [Option.bind_some]
    by_cases c4 : cdC σ m k = 0
    · rw [if_pos c4, if_pos c4, rf_0 h.m2]
    · rw [if_neg c4, if_neg c4]
  · rw [if_neg c3, if_neg c3]
theorem ev_loadOfM (n : Nat) {σ τ : Mem} {m L : Nat} {W : Nat → Nat} {u N : Nat} (h : RS σ τ m L W u) (hg : RG σ τ m) (hkk : RK σ τ m L N) {k : Nat} (hk1 : 1 ≤ k) (hk2 : k ≤ L) (c : Int32) {x y : Int32} (hx : c = 111 → x = 20) (hx2 : c ≠ 111 → x = y) : sp_X6_loadOf n τ 41 c (nI k) y = some (ldC σ m k c x, τ) := by
  have hL := h.lv
  have h7 : inR (7 : Int32) 73 := by decide
  have c7 : (7 : Int32).toNatClampNeg = 7 := by decide
  unfold sp_X6_loadOf ldC
  simp only [ix14, ix7, rfm_11, nI_cl (show 14 + k < 100000 by omega), nI_cl (show 7 + k < 100000 by omega), c7]
  by_cases c1 : c = 111
  · rw [if_pos c1, if_pos c1, if_pos (inR_nI (by omega) (by omega)), hx c1, (hg k (by omega)).2.2.1, min_com _ 20]
  rw [if_neg c1, if_neg c1, hx2 c1]
  by_cases c2 : c = 117
  · rw [if_pos c2, if_pos c2, if_pos (inR_nI (by omega) (by omega)), (hg k (by omega)).2.1, min_com _ y]
  rw [if_neg c2, if_neg c2, h.alarmM hg n hk1 hk2]
  simp only [Option.bind_some]
  by_cases c3 : alC σ m k = 0
  · rw [if_pos c3, if_pos c3, ev_closedM n hg hkk (by omega)]
    simp only [Option.bind_some]
    by_cases c4 : cdC σ m k = 0
    · rw [if_pos c4, if_pos c4, if_pos h7, show σ.1 (10 * m) 8 = τ.1 47 7 from (hg 0 (by omega)).2.1, min_com _ y]
    · rw [if_neg c4, if_neg c4]
  · rw [if_neg c3, if_neg c3]
/-- is the request at p for ore? -/
def mtC (σ : Mem) (m p : Nat) : Int32 := if σ.1 (rw_ σ m p) 1 = 111 then 1 else 0
theorem lp_oldest (n : Nat) {σ : Mem} {m Q : Nat} {b a1 : Int32} (hb : b = 0 ∨ b = 1) (h : ShM σ m) (hs : σ.1 (10 * m + 9) 1 = nI Q) (hQ : Q ≤ 8) : ∀ (d k j : Nat), j + d = Q → d < k →
    lp_X4_oldest_2 n (10 * m + 9) a1 k σ b (nI j) = some (if sr (mtC σ m) b d j = Q then none else some (rw_ σ m (sr (mtC σ m) b d j)), σ) := by
  intro d
  induction d with
  | zero =>
    intro k j hj hk
    obtain ⟨k, rfl⟩ : ∃ z, k = z + 1 := ⟨k - 1, by omega⟩
    rw [lp_X4_oldest_2_s, hs, if_pos ((le_nI (by omega) (by omega)).mpr (by omega)), sr, if_pos (by omega)]
  | succ d ih =>
    intro k j hj hk
    obtain ⟨k, rfl⟩ : ∃ z, k = z + 1 := ⟨k - 1, by omega⟩
    have hr := h.2.2.1 j (by omega)
    have hi : inR (nI j) 8 ∧ Ok (rw_ σ m j) 2 := ⟨inR_nI (by omega) (by omega), ok_rq h.1 hr.1 hr.2⟩
    rw [lp_X4_oldest_2_s, hs, if_neg (by rw [le_nI (by omega) (by omega)]; omega), if_neg (show ¬ (8 : Int32) ≤ nI j by rw [n8, le_nI (by omega) (by omega)]; omega)]
    simp only [nI_cl (show j < 100000 by omega), rf_w h.1, add1_nI]
    rw [if_pos hi, sr]
    have ih' := ih k (j + 1) (by omega) (by omega)
    by_cases c : σ.1 (rw_ σ m j) 1 = 111
    · have em : mtC σ m j = 1 := if_pos c
      rw [if_pos c, em]
      by_cases c2 : (1 : Int32) = b
      · rw [if_pos c2, if_pos c2, if_pos hi, if_neg (by omega)]
      · rw [if_neg c2, if_neg c2]
        exact ih'
    · have em : mtC σ m j = 0 := if_neg c
      rw [if_neg c, em]
      by_cases c2 : (0 : Int32) = b
      · rw [if_pos c2, if_pos c2, if_pos hi, if_neg (by omega)]
      · rw [if_neg c2, if_neg c2]
        exact ih'
theorem ev_oldest {n : Nat} (hn : 10 < n) {σ : Mem} {m Q : Nat} {b : Int32} (hb : b = 0 ∨ b = 1) (h : ShM σ m) (hs : σ.1 (10 * m + 9) 1 = nI Q) (hQ : Q ≤ 8) : sp_X4_oldest n σ (10 * m + 9) b = some (if sr (mtC σ m) b Q 0 = Q then none else some (rw_ σ m (sr (mtC σ m) b Q 0)), σ) := by
  unfold sp_X4_oldest
  rw [n0]
  exact lp_oldest n hb h hs hQ Q n 0 (by omega) (by omega)
