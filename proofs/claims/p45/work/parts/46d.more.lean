/-! PURE. minutes; a new level; the looks ahead; the air by paths -/
section MO
variable {σ τ : Mem} {L N g n : Nat} {O : Int32}
theorem airN_le [Inhabited Bl] (W : Nat → Nat) (L u : Nat) {k : Nat} (h1 : 1 ≤ k) (h2 : k ≤ L) : airN W L u k ≤ u := by
  have h := arN_le W L u (k - 1)
  have hg : gN (arN W L u (k - 1)) (W k) (sF W L (k - 1)) ≤ arN W L u (k - 1) := gN_le (by have := sF_w (W := W) (L := L) (j := k - 1) (by omega); rwa [show k - 1 + 1 = k by omega] at this)
  unfold airN
  omega
theorem tkG_nI [Inhabited Bl] {y a z : Nat} (hy : y ≤ 60000) (ha : a ≤ 1000) (hz : 1 ≤ z) (hz2 : z ≤ 500) : ∃ t, t ≤ y ∧ tkG (nI y) (nI a) (nI z) = nI t := by
  have e : ∃ w, w ≤ z ∧ (if nI z < nI a then nI z else nI a) = nI w := by
    by_cases c : z < a
    · exact ⟨z, Nat.le_refl z, if_pos ((lt_nI (by omega) (by omega)).mpr c)⟩
    · exact ⟨a, by omega, if_neg (by rw [lt_nI (by omega) (by omega)]; exact c)⟩
  obtain ⟨w, w1, w2⟩ := e
  have hyw : y * w ≤ 60000 * 500 := Nat.mul_le_mul hy (by omega)
  refine ⟨y * w / z, ?_, ?_⟩
  · exact Nat.div_le_of_le_mul (by rw [Nat.mul_comm z y]; exact Nat.mul_le_mul_left y w1)
  · unfold tkG
    rw [w2, pk_mul, pk_div (by omega) (by omega) (by omega)]
theorem IV.minute [Inhabited Bl] {τ' σ' σa σb : Mem} {W : Nat → Nat} {u Q Q' : Nat} (hR : RR σ τ 0 L W u N Q) (hR' : RR σ' τ' 0 L W u N Q') (hM : FrM τ τ') (hI : IV σ L g O) (hg : g ≤ 49000) {c : Nat} (hc : c ≤ 4999) (hclk : σ.1 7 8 = nI c) (p1 : PGc σ σa 0 L) (p2 : XC σa σb 0 L) (p3 : XH σb σ' 0 L) (h40 : σ'.2 40 2 = σ.2 40 2) : IV σ' L (g + 50) O ∧ σ'.1 7 8 = nI (c + 1) := by
  have hL := hR.1.lv
  obtain ⟨a1, a2, a3, a4, a5, a6, a7, a8, a9, a10⟩ := hI
  obtain ⟨b1, b2, b3, b4, b5⟩ := p1
  obtain ⟨x1, x2, x3, x4, x5, x6⟩ := p2
  obtain ⟨y1, y2, y3, y4, y5, y6⟩ := p3
  have dep : ∀ k, k ≤ L → σ'.1 k 0 = σ.1 k 0 := fun k hk => by
    obtain ⟨d, -, d1, d2⟩ := hR.1.dep hk
    obtain ⟨e, -, e1, e2⟩ := hR'.1.dep hk
    rw [at0] at d1 e1
    rw [hM.1 42 k (by omega), d2] at e2
    rw [e1, d1, e2]
  have inf : ∀ k, 1 ≤ k → k ≤ L → σ'.1 k 3 = σ.1 k 3 := fun k k1 k2 => by
    have d := (hR.1.row k1 k2).2.1
    have e := (hR'.1.row k1 k2).2.1
    rw [at0] at d e
    rw [e, d, hM.1 45 k (by omega)]
  have hclk' : σ'.1 7 8 = nI (c + 1) := by
    have e1 : σa.1 (10 * 0 + 7) 8 = σ.1 (10 * 0 + 7) 8 := b5 _ _ (by omega) (by omega)
    have e2 : σ'.1 (10 * 0 + 7) 8 = nI c + 1 := by rw [y6, x6, e1]; exact congrArg (· + 1) hclk
    rw [← add1_nI]
    exact e2
  refine ⟨⟨fun k k1 k2 => ?_, fun k k1 k2 => ?_, fun k k1 => ?_, ?_, fun k k1 k2 => ?_, ?_, ?_, ?_, ⟨c + 1, by omega, hclk'⟩, ?_⟩, hclk'⟩
  · rw [dep (k - 1) (by omega), dep k k2]
    exact a1 k k1 k2
  · rw [inf k k1 k2]
    exact a2 k k1 k2
  · obtain ⟨y, yy1, yy2⟩ := a3 k k1
    have e : σ'.1 k 7 = σa.1 k 7 := by
      have := (y1 k k1).trans (x1 k k1)
      rwa [at0, at0] at this
    by_cases ck : 1 ≤ k ∧ k ≤ L
    · obtain ⟨i, i1, i2⟩ := a2 k ck.1 ck.2
      obtain ⟨⟨z, z1, z2, z3, -⟩, -, -, -, z5⟩ := hR.1.row ck.1 ck.2
      have hu := hR.1.2.2.2.2.2.2.1
      have ha := airN_le W L u ck.1 ck.2
      have hb := b2 k ck.1 ck.2
      rw [at0] at z3 z5
      rw [at0, at0, at0, at0, at0, yy2, i2, z5, z3] at hb
      unfold gIn at hb
      rw [add_nI] at hb
      obtain ⟨t, t1, t2⟩ := tkG_nI (y := y + i) (a := airN W L u k) (z := z) (by omega) (by omega) z1 z2
      rw [t2, pk_sub t1] at hb
      exact ⟨y + i - t, by omega, e.trans hb⟩
    · have e2 : σa.1 (10 * 0 + k) 7 = σ.1 (10 * 0 + k) 7 := b5 _ _ (by omega) (by omega)
      rw [at0, at0] at e2
      exact ⟨y, by omega, by rw [e, e2]; exact yy2⟩
  · rw [y2, x2, ← a4]
    exact oT_cong (fun k hk => b5 _ _ (by omega) (by omega)) (b5 _ _ (by omega) (by omega)) (b5 _ _ (by omega) (by omega))
  · have e1 := y3 k k1 k2
    have e2 := x3 k k1 k2
    have e3 : σa.1 (10 * 0 + k) 9 = σ.1 (10 * 0 + k) 9 := b5 _ _ (by omega) (by omega)
    rw [at0, at0] at e1 e2 e3
    rw [e1, e2, e3]
    exact a5 k k1 k2
  · exact y4 (x4 (LD.to (m := 0) (b5 _ _ (by omega) (by omega)) (b5 _ _ (by omega) (by omega)) a6))
  · have s1 : SP σa 0 g := SP.to (m := 0) (b5 _ _ (by omega) (by omega)) (Nat.le_refl g) a7
    have s2 := y5 g (by omega) (x5 g (by omega) s1)
    exact SP.to (m := 0) rfl (by omega) s2
  · have e1 : σ.1 7 6 = τ.1 41 7 := hR.1.lim
    have e2 : σ'.1 7 6 = τ'.1 41 7 := hR'.1.lim
    rw [e2, hM.1 41 7 (by omega), ← e1]
    exact a8
  · exact ⟨(dep 0 (by omega)).trans a10.1, h40.trans a10.2⟩
theorem pass_inv [Inhabited Bl] (hn : 20 < n) {W : Nat → Nat} {u M : Nat} {a1 : Int32} (hM : M ≤ 60) : ∀ (d k i Q g c : Nat) (σ τ : Mem), i + d = M → d < k → RR σ τ 0 L W u N Q → ShM σ 1 → IV σ L g O → σ.1 7 8 = nI c → c + d ≤ 5000 → g + 50 * d ≤ 49000 →
    ∃ σ' τ' Q', lp_X5_pass_34 n 40 a1 k σ (nI M) (nI i) = some (.inl (nI (c + d)), σ') ∧ RR σ' τ' 0 L W u N Q' ∧ ShM σ' 1 ∧ IV σ' L (g + 50 * d) O := by
  intro d
  induction d with
  | zero =>
    intro k i Q g c σ τ hi hk h hs hI hc hc5 hg
    obtain ⟨k, rfl⟩ : ∃ z, k = z + 1 := ⟨k - 1, by omega⟩
    refine ⟨σ, τ, Q, ?_, h, hs, hI⟩
    rw [lp_X5_pass_34_s, if_pos ((le_nI (by omega) (by omega)).mpr (by omega)), show σ.1 (rf 40 0) 8 = nI c from hc]
    rfl
  | succ d ih =>
    intro k i Q g c σ τ hi hk h hs hI hc hc5 hg
    obtain ⟨k, rfl⟩ : ∃ z, k = z + 1 := ⟨k - 1, by omega⟩
    obtain ⟨σ1, τ1, Q1, a2, a3, a4, a5, a6, -, -, σa, σb, p1, p2, p3⟩ := minute_sim (n := n) (n' := 50) (by omega) (by omega) h
    obtain ⟨hI1, hc1⟩ := hI.minute h a4 a6 (by omega) (show c ≤ 4999 by omega) hc p1 p2 p3 (congrFun (a5.2 40 (by omega)) 2)
    have hs1 : ShM σ1 1 := by
      unfold ShM at hs ⊢
      rw [a5.2 _ (by omega), a5.2 _ (by omega)]
      exact hs
    obtain ⟨σ', τ', Q', b1, b2, b3, b4⟩ := ih k (i + 1) Q1 (g + 50) (c + 1) σ1 τ1 (by omega) (by omega) a4 hs1 hI1 hc1 (by omega) (by omega)
    refine ⟨σ', τ', Q', ?_, b2, b3, by rw [show g + 50 * (d + 1) = g + 50 + 50 * d by omega]; exact b4⟩
    rw [lp_X5_pass_34_s, if_neg (by rw [le_nI (by omega) (by omega)]; omega), show sp_X1_passMinute n σ (rf 40 0) = some ((), σ1) from a2]
    simp only [Option.bind_some, add1_nI]
    rw [b1, show c + 1 + d = c + (d + 1) by omega]
theorem w_pass [Inhabited Bl] (hn : 70 < n) {M : Nat} (h : INV σ L N g O) (h1 : 1 ≤ M) (h2 : M ≤ 60) (hg : g + 50 * M ≤ 49000) : sp_L_pass n σ 40 (nI M) = some (-1002, σ) ∨ ∃ c σ1, c ≤ 5000 ∧ σ.1 7 8 = nI c ∧ sp_L_pass n σ 40 (nI M) = some (nI (c + M), σ1) ∧ INV σ1 L N (g + 50 * M) O := by
  obtain ⟨τ, W, u, Q, hR, hs, hI⟩ := h
  obtain ⟨c, e1, e2⟩ := hI.2.2.2.2.2.2.2.2.1
  have c1 : sp_X5_checkRange n σ (nI M) 1 60 = some (.inl (), σ) := ckR (lo := 1) (hi := 60) h1 h2 (by omega) n σ
  by_cases cc : c + M ≤ 5000
  · obtain ⟨σ', τ', Q', b1, b2, b3, b4⟩ := pass_inv (n := n) (a1 := nI M) (by omega) h2 M n 0 Q g c σ τ (by omega) (by omega) hR hs hI e2 cc hg
    refine Or.inr ⟨c, σ', e1, e2, ?_, τ', W, u, Q', b2, b3, b4⟩
    unfold sp_L_pass sp_X5_pass
    rw [c1]
    simp only [Option.bind_some]
    rw [show σ.1 (rf 40 0) 8 = nI c from e2, add_nI, if_pos (show nI (c + M) ≤ 5000 from (le_nI (a := c + M) (b := 5000) (by omega) (by omega)).mpr cc), show lp_X5_pass_34 n 40 (nI M) n σ (nI M) 0 = some (.inl (nI (c + M)), σ') from b1]
    rfl
  · left
    unfold sp_L_pass sp_X5_pass
    rw [c1]
    simp only [Option.bind_some]
    rw [show σ.1 (rf 40 0) 8 = nI c from e2, add_nI, if_neg (show ¬ nI (c + M) ≤ 5000 from fun q => cc ((le_nI (a := c + M) (b := 5000) (by omega) (by omega)).mp q))]
    simp
/-! the looks ahead leave the mine as it is -/
theorem INV.trial [Inhabited Bl] {σ' : Mem} (h : INV σ L N g O) (hf : FrC σ σ' 1) (hs : ShM σ' 1) : INV σ' L N g O := by
  have hL := h.lv.1
  obtain ⟨τ, W, u, Q, hR, -, hI⟩ := h
  have o : ∀ a b, a < 10 → σ'.1 a b = σ.1 a b := fun a b ha => hf.1 a b (by omega) (by omega)
  exact ⟨τ, W, u, Q, hR.to0 (fun a b hab => hf.1 a b (by omega) (by omega)) (fun a ha => hf.2 a (by omega)), hs, hI.rd (Nat.le_refl g) (fun k b k1 hb => o _ _ (by omega)) (o _ _ (by omega)) (o _ _ (by omega)) (o _ _ (by omega)) (o _ _ (by omega)) (o _ _ (by omega)) hL (congrFun (hf.2 40 (by omega)) 2)⟩
theorem r_alarm [Inhabited Bl] (hn : 510 < n) (h : INV σ L N g O) {k : Nat} (hk1 : 1 ≤ k) (hk : k ≤ L) : ∃ v σ1, sp_L_of n σ 40 (nI k) 6 = some (v, σ1) ∧ INV σ1 L N g O ∧ FrC σ σ1 1 ∧ (v = 0 ↔ ¬ alC σ 0 k = 0) := by
  obtain ⟨hL, hN, h4, h11⟩ := h.lv
  have h' := h
  obtain ⟨τ, W, u, Q, hR, hs, hI⟩ := h
  obtain ⟨σ1, c0, c1, c2, c3⟩ := copy_sim (n := n) (by omega) hR hs
  have eal : alC σ1 1 k = alC σ 0 k := by
    have g1 := c1.1.alarmM c1.2.1 n hk1 hk
    have g2 := hR.1.alarmM hR.2.1 n hk1 hk
    rw [g1] at g2
    exact (Prod.mk.inj (Option.some.inj g2)).1
  have ha : sp_X1_hasAlarm n σ1 17 (10 + k) = some (alC σ1 1 k, σ1) := c1.1.alarm n hk1 hk
  have hcl : ∀ v σ', lp_X1_passToAlarm_2 n 17 (10 + k) n σ1 0 = some (v, σ') → sp_X5_minutesToAlarm n σ 40 (nI k) = if v = -1 then some (.inr "java/util/NoSuchElementException", σ') else some (.inl v, σ') := fun v σ' b1 => by
    unfold sp_X5_minutesToAlarm
    rw [ckL_ok n h4 hL hk1 hk]
    simp only [Option.bind_some]
    rw [show sp_X1_copyFrom n σ (rf 40 1) (rf 40 0) = some ((), σ1) from c0]
    simp only [Option.bind_some]
    rw [show sp_X1_place n σ1 (rf 40 1) (nI k) = some (10 + k, σ1) from ev_place (m := 1) n c1.1.sh (by omega)]
    simp only [Option.bind_some]
    rw [if_pos (ok_lv (m := 1) (by omega) (by omega)), show sp_X1_passToAlarm n σ1 (rf 40 1) (10 + k) = some (v, σ') from b1]
    rfl
  obtain ⟨m, rfl⟩ : ∃ z, n = z + 1 := ⟨n - 1, by omega⟩
  have hof : ∀ X, sp_X5_minutesToAlarm (m + 1) σ 40 (nI k) = X → sp_L_of (m + 1) σ 40 (nI k) 6 = (X.bind fun q => match q with | (.inl r51, σ52) => some (r51, σ52) | (.inr E, σ52) => (if E = "java/lang/IndexOutOfBoundsException" then some ((-1001 : Int32), σ52) else (if E = "java/util/NoSuchElementException" then some ((-1002 : Int32), σ52) else none))) := fun X hX => by
    unfold sp_L_of
    rw [if_neg (by decide), if_neg (by decide), if_neg (by decide), if_neg (by decide), if_neg (by decide), if_neg (by decide), if_pos rfl, hX] <;> rfl
  have nlt : ¬ (500 : Int32) < 0 := by decide
  by_cases ca : alC σ 0 k = 0
  · obtain ⟨z, z1, z2, z3, -⟩ := (c1.1.row hk1 hk).1
    obtain ⟨σ2, e0, e1, e2, e3, e4, e5⟩ := ev_moveGas (m + 1) (σ := σ1) (m := 1) (k := k) (by omega) z1 z2 z3
    obtain ⟨-, -, -, s4, -, s6, s7, -, s9, -⟩ := id c1.1
    obtain ⟨τ1, f1, m1, m2, -, -, m5⟩ := ev_gases (n := 50) (by omega) s4 hL s6 s7 s9 (fun k k1 k2 => by
      obtain ⟨z, z1, z2, z3, z4⟩ := (c1.1.row k1 k2).1
      exact ⟨z, z1, z2, z4⟩)
    have hS1 : RS σ2 τ1 1 L W u := c1.1.to (c1.1.sh.to e1) (fun k b k1 b1 => e5 _ _ (by omega) (by omega)) (fun b b1 b2 => e5 _ _ (by omega) (by omega)) (fun a b hab => m5 _ _ (by omega))
    have hg1 : σ2.1 (10 * 1 + k) 7 = τ1.1 47 k := by
      rw [e2, m2 k hk1 hk, (c1.2.1 k (by omega)).1, (c1.1.row hk1 hk).2.1, (c1.1.row hk1 hk).2.2.2.2, c1.1.siz hk1 hk]
      rfl
    obtain ⟨v, σ', τ2, b1, b2, b3, b4, b5⟩ := alarm_sim (n := m + 1) (n' := 600) (a1 := 0) (by omega) (by omega) hk1 hk 499 m 600 1 σ2 τ1 (by omega) (by omega) (by omega) hS1 hg1
    have hrun : lp_X1_passToAlarm_2 (m + 1) 17 (10 + k) (m + 1) σ1 0 = some (v, σ') := by
      rw [lp_X1_passToAlarm_2_s, if_neg nlt, ha]
      simp only [Option.bind_some]
      rw [if_pos (eal.trans ca), show sp_X1_moveGas (m + 1) σ1 17 (10 + k) = some ((), σ2) from e0]
      exact b1
    have hfc : FrC σ σ' 1 := c2.trans (FrC.trans ⟨fun a b h1 h2 => e5 _ _ (by omega) (by omega), fun a _ => by rw [e1]⟩ b2)
    have v0 : v ≠ 0 := by
      have key : ∀ (d q j : Nat) (σ : Mem) (v : Int32) (σ' : Mem), j + d = 501 → lp_X1_passToAlarm_2 (m + 1) 17 (10 + k) q σ (nI (j + 1)) = some (v, σ') → v ≠ 0 := by
        intro d
        induction d with
        | zero =>
          intro q j σ v σ' hj hq
          cases q with
          | zero => cases hq
          | succ q =>
            rw [lp_X1_passToAlarm_2_s, if_pos (show (500 : Int32) < nI (j + 1) by rw [show (500 : Int32) = nI 500 from rfl, lt_nI (by omega) (by omega)]; omega)] at hq
            cases hq
            decide
        | succ d ih =>
          intro q j σ v σ' hj hq
          cases q with
          | zero => cases hq
          | succ q =>
            rw [lp_X1_passToAlarm_2_s] at hq
            by_cases c5 : (500 : Int32) < nI (j + 1)
            · rw [if_pos c5] at hq
              cases hq
              decide
            · rw [if_neg c5] at hq
              obtain ⟨⟨r1, s1⟩, -, hq⟩ := ob hq
              dsimp only at hq
              by_cases c6 : r1 = 0
              · rw [if_pos c6] at hq
                obtain ⟨⟨r2, s2⟩, -, hq⟩ := ob hq
                dsimp only at hq
                rw [add1_nI] at hq
                exact ih q (j + 1) s2 v σ' (by omega) hq
              · rw [if_neg c6] at hq
                cases hq
                intro e
                rw [eq0_nI (by omega)] at e
                omega
      exact key 501 m 0 σ2 v σ' (by omega) b1
    have hX := hcl v σ' hrun
    rw [hof _ hX]
    rcases b5 with ⟨b6, b7⟩ | ⟨⟨w, w1, w2⟩, b7⟩
    · refine ⟨-1002, σ', ?_, h'.trial hfc b4, hfc, ⟨fun e => absurd e (by decide), fun e => absurd ca e⟩⟩
      rw [if_pos b6]
      simp
    · refine ⟨v, σ', ?_, h'.trial hfc b4, hfc, ⟨fun e => absurd e v0, fun e => absurd ca e⟩⟩
      rw [if_neg (by rw [w2]; exact nI_m1 (by omega))]
      rfl
  · have hrun : lp_X1_passToAlarm_2 (m + 1) 17 (10 + k) (m + 1) σ1 0 = some (0, σ1) := by
      rw [lp_X1_passToAlarm_2_s, if_neg nlt, ha]
      simp only [Option.bind_some]
      rw [if_neg (by rw [eal]; exact ca)]
    have hX := hcl 0 σ1 hrun
    refine ⟨0, σ1, ?_, h'.trial c2 c1.1.sh, c2, ⟨fun _ => ca, fun _ => rfl⟩⟩
    rw [hof _ hX, if_neg (by decide)]
    rfl
theorem r_wait [Inhabited Bl] (hn : 510 < n) (h : INV σ L N g O) {r : Nat} (hr : r < 90000) (hp : ∃ τ W u Q, RR σ τ 0 L W u N Q ∧ inq σ 0 Q (nI r)) : ∃ v σ1, sp_L_asked n σ 40 (nI r) 2 = some (v, σ1) ∧ INV σ1 L N g O ∧ v ≠ -1001 := by
  have h' := h
  obtain ⟨-, -, -, -, -, hs, -⟩ := h
  obtain ⟨τ, W, u, Q, hR, hp⟩ := hp
  have hS := hR.1
  have hQ := hR.2.2.2.2.1
  obtain ⟨σ1, c0, c1, c2, c3⟩ := copy_sim (n := n) (by omega) hR hs
  have hp1 : inq σ1 1 Q (nI r) ∨ σ1.1 18 4 = nI r := by
    have q0 := hQ.2.2.2.2.1
    have q1 := c1.2.2.2.2.1.2.2.2.2.1
    obtain ⟨p, hp, ep⟩ := hp
    obtain ⟨⟨x, -, x1, x2⟩, -⟩ := q0 p hp
    obtain ⟨⟨y, -, y1, y2⟩, -⟩ := q1 p hp
    exact Or.inl ⟨p, hp, by rw [y1, ← y2, x2, ← x1]; exact ep⟩
  obtain ⟨v, σ', τ2, l3, l4, l5, b1, b2, b3, b4, b5, b6⟩ := wait_sim (n := n) (n' := 600) (a1 := nI r) (l2 := 0) (by omega) (by omega) hr 500 n 600 0 Q σ1 τ (by omega) (by omega) (by omega) c1 hp1
  have hcl : sp_X5_waitFor n σ 40 (nI r) = if v = -1 then some (.inr "java/lang/UnsupportedOperationException", σ') else some (.inl v, σ') := by
    unfold sp_X5_waitFor
    rw [show sp_X1_isPending n σ (rf 40 0) (nI r) = some (1, σ) from isPending_yes (by omega) hS.sh hQ (Or.inl hp)]
    simp only [Option.bind_some]
    rw [if_neg (by decide), show sp_X1_copyFrom n σ (rf 40 1) (rf 40 0) = some ((), σ1) from c0]
    simp only [Option.bind_some]
    rw [show sp_X1_passToEndOf n σ1 (rf 40 1) (nI r) = some (v, σ') from b1]
    rfl
  have hfc : FrC σ σ' 1 := c2.trans b3
  have hINV := h'.trial hfc b5
  rcases b6 with ⟨b6, b7⟩ | ⟨⟨w, w1, w2⟩, b7⟩
  · refine ⟨-1002, σ', ?_, hINV, by decide⟩
    unfold sp_L_asked
    rw [if_neg (by decide), if_neg (by decide), hcl, if_pos b6]
    simp
  · refine ⟨v, σ', ?_, hINV, ?_⟩
    · unfold sp_L_asked
      rw [if_neg (by decide), if_neg (by decide), hcl, if_neg (by rw [w2]; exact nI_m1 (by omega))]
      rfl
    · rw [w2]
      intro e
      have := nI_pos (n := w) (by omega)
      rw [e] at this
      exact this (by decide)
theorem INV.fol [Inhabited Bl] {σ' : Mem} {W : Nat → Nat} {u : Nat} (h : INV σ L N g O) (hf : FA σ σ' 0 L W u) : INV σ' L N g O := by
  obtain ⟨hL, hN, h4, h11⟩ := h.lv
  obtain ⟨τ, W', u', Q, hR, hs, hI⟩ := h
  have o : ∀ a b, b ≠ 6 ∨ 6 < a → σ'.1 a b = σ.1 a b := fun a b hb => hf.2.1 a b (by omega)
  have hX : RX N σ' τ := RX.fol ⟨L, W', u', N, Q, hR, hs, Nat.le_refl N⟩ hf
  exact INV.of hX (by rw [o _ _ (by omega)]; exact h4) hL (by rw [o _ _ (by omega)]; exact h11) hN (hI.rd (Nat.le_refl g) (fun k b k1 hb => o _ _ (by omega)) (o _ _ (by omega)) (o _ _ (by omega)) (o _ _ (by omega)) (o _ _ (by omega)) (o _ _ (by omega)) hL (by rw [hf.1]))
theorem r_paths [Inhabited Bl] (hn : 1010 < n) (h : INV σ L N g O) {k : Nat} (hk1 : 1 ≤ k) (hk : k ≤ L) : ∃ σ1, sp_L_of n σ 40 (nI k) 2 = some (σ.1 k 5, σ1) ∧ INV σ1 L N g O ∧ ∀ a b, b ≠ 6 ∨ 6 < a → σ1.1 a b = σ.1 a b := by
  have h' := h
  obtain ⟨τ, W, u, Q, hR, hs, hI⟩ := h
  have hS := hR.1
  have hL := hS.lv
  obtain ⟨-, -, -, -, r5, -, s7, r8, -⟩ := id hS
  obtain ⟨σ', f0, f1⟩ := ev_followAir hn hS.sh hS.c4 hL r5 s7 r8
  have f6 := f1.2.2 k hk1 hk
  have f5 := (hS.row hk1 hk).2.2.2.2
  rw [at0] at f6 f5
  refine ⟨σ', ?_, h'.fol f1, fun a b hb => f1.2.1 a b (by omega)⟩
  unfold sp_L_of sp_X5_airByPaths
  rw [if_neg (by decide), if_neg (by decide), if_pos rfl, ckL_ok n hS.c4 hL hk1 hk]
  simp only [Option.bind_some]
  rw [show sp_X1_followAir n σ (rf 40 0) = some ((), σ') from f0]
  simp only [Option.bind_some]
  rw [pl_0 n (hS.sh.to f1.1) (by omega)]
  simp only [Option.bind_some]
  rw [if_pos (ok_0 (by omega)), f6, f5]
  rfl
theorem r_consist [Inhabited Bl] (hn : 1010 < n) (h : INV σ L N g O) : ∃ σ1, sp_X5_isConsistent n σ 40 = some (1, σ1) ∧ INV σ1 L N g O := by
  have h' := h
  obtain ⟨τ, W, u, Q, hR, hs, hI⟩ := h
  have hS := hR.1
  have hL := hS.lv
  obtain ⟨-, -, r3, -, r5, -, r7, r8, -⟩ := id hS
  obtain ⟨σ', f0, f1⟩ := ev_followAir hn hS.sh hS.c4 hL r5 r7 r8
  have hB := hR.2.2.2.2.2.2.1
  refine ⟨σ', ?_, h'.fol f1⟩
  unfold sp_X5_isConsistent
  rw [show sp_X1_followAir n σ (rf 40 0) = some ((), σ') from f0]
  simp only [Option.bind_some]
  refine lp_consist n (L := L) (hS.sh.to f1.1) hL (by rw [f1.2.1 _ _ (by omega)]; exact r3) (fun k k1 k2 => ?_) ?_ L n 0 (by omega) (by omega)
  · have e6 := f1.2.2 k k1 k2
    have e5 := (hS.row k1 k2).2.2.2.2
    rw [Nat.mul_zero, Nat.zero_add] at e6 e5
    rw [e6, f1.2.1 _ _ (by omega), e5]
  · rw [show rf 40 0 = 7 from rfl, f1.2.1 7 10 (by omega), f1.2.1 7 9 (by omega)]
    exact (acc_cong (fun i i1 i2 => f1.2.1 _ _ (by omega))).trans hB
/-! a new level -/
theorem lev_c0 [Inhabited Bl] (n : Nat) {W : Nat → Nat} {u Q da sb wc dd dl : Nat} (hR : RR σ τ 0 L W u N Q) (a1 : 10 ≤ da) (a2 : da ≤ 2000) (b1 : 1 ≤ sb) (b2 : sb ≤ 500) (c1 : 1 ≤ wc) (c2 : wc ≤ 20) (d2 : dd ≤ 50) (p1 : σ.1 L 0 = nI dl) (hd : dl < da) : sp_X5_addLevel n σ 40 (nI da) (nI sb) (nI wc) (nI dd) = (if 6 ≤ nI L then some (.inr "java/lang/IllegalStateException", σ) else if σ.1 7 8 ≤ 0 then (lm (wi σ (rf 40 0) 4 (nI L + 1)) fun σ20 => ((sp_X1_place n σ20 ((rf 40 0)) ((σ20.1 (rf 40 0) 4))).bind fun q => match q with | (r22, σ23) => if Ok r22 0 then ((sp_X0_open n σ23 r22 (nI da) (nI sb) (nI wc) (nI dd)).bind fun q => match q with | (_, σ27) => ((sp_X1_spreadAir n σ27 ((rf 40 0))).bind fun q => match q with | (_, σ30) => some (.inl ((σ30.1 (rf 40 0) 4)), σ30))) else none)) else some (.inr "java/lang/IllegalStateException", σ)) := by
  have hS := hR.1
  have hL := hS.lv
  have h4 : σ.1 7 4 = nI L := hS.c4
  unfold sp_X5_addLevel
  rw [show sp_X5_checkRange n σ (nI da) 10 2000 = some (.inl (), σ) from ckR a1 a2 (by omega) n σ]
  simp only [Option.bind_some]
  rw [show sp_X5_checkRange n σ (nI sb) 1 500 = some (.inl (), σ) from ckR b1 b2 (by omega) n σ]
  simp only [Option.bind_some]
  rw [show sp_X5_checkRange n σ (nI wc) 1 20 = some (.inl (), σ) from ckR c1 c2 (by omega) n σ]
  simp only [Option.bind_some]
  rw [show sp_X5_checkRange n σ (nI dd) 0 50 = some (.inl (), σ) from ckR (Nat.zero_le dd) d2 (by omega) n σ]
  simp only [Option.bind_some]
  rw [show σ.1 (rf 40 0) 4 = nI L from h4, pl_0 n hS.sh (by omega)]
  simp only [Option.bind_some]
  rw [if_pos (ok_0 (by omega)), p1, if_pos ((lt_nI (by omega) (by omega)).mpr hd), show σ.1 (rf 40 0) 4 = nI L from h4, show σ.1 (rf 40 0) 8 = σ.1 7 8 from rfl]
theorem lev_ise [Inhabited Bl] {X : Option ((Int32 ⊕ String) × Mem)} {a b c d : Int32} (h : sp_X5_addLevel n σ 40 a b c d = some (.inr "java/lang/IllegalStateException", σ)) : sp_L_level n σ 40 a b c d = some (-1002, σ) := by
  unfold sp_L_level
  rw [h]
  simp
theorem w_level [Inhabited Bl] (hn : 10 < n) {da sb wc dd dl : Nat} (h : INV σ L N g O) (a1 : 10 ≤ da) (a2 : da ≤ 2000) (b1 : 1 ≤ sb) (b2 : sb ≤ 500) (c1 : 1 ≤ wc) (c2 : wc ≤ 20) (d2 : dd ≤ 50) (p1 : σ.1 L 0 = nI dl) (hd : dl < da) (hda : da ≤ 210 * (L + 1)) : sp_L_level n σ 40 (nI da) (nI sb) (nI wc) (nI dd) = some (-1002, σ) ∨ L < 6 ∧ ∃ σ1, sp_L_level n σ 40 (nI da) (nI sb) (nI wc) (nI dd) = some (nI (L + 1), σ1) ∧ INV σ1 (L + 1) N g O := by
  obtain ⟨hL, hN, h4, h11⟩ := h.lv
  obtain ⟨τ, W, u, Q, hR, hs, hI⟩ := h
  have hS := hR.1
  have hc0 := lev_c0 n hR a1 a2 b1 b2 c1 c2 d2 p1 hd
  by_cases c6 : L = 6
  · exact Or.inl (lev_ise (X := none) (by rw [hc0, if_pos (by rw [c6]; decide)]))
  · have n6 : ¬ (6 : Int32) ≤ nI L := by rw [show (6 : Int32) = nI 6 from rfl, le_nI (by omega) (by omega)]; omega
    by_cases cm : σ.1 7 8 ≤ 0
    · right
      refine ⟨by omega, ?_⟩
      obtain ⟨s1, s2, s3, s4, s5, s6, s7, s8, s9, s10, s11, s12, s13, s14⟩ := id hS
      have q0 : (nlC σ (L + 1) (nI da) (nI sb) (nI wc) (nI dd)).1 (L + 1) 0 = nI da := by unfold nlC; rw [wi_o (by omega), wi_o (by omega), wi_o (by omega), wi_o (by omega), wi_eq rfl rfl]
      have q2 : (nlC σ (L + 1) (nI da) (nI sb) (nI wc) (nI dd)).1 (L + 1) 2 = nI wc := by unfold nlC; rw [wi_o (by omega), wi_o (by omega), wi_eq rfl rfl]
      have q3 : (nlC σ (L + 1) (nI da) (nI sb) (nI wc) (nI dd)).1 (L + 1) 3 = nI dd := by unfold nlC; rw [wi_o (by omega), wi_eq rfl rfl]
      have q4 : (nlC σ (L + 1) (nI da) (nI sb) (nI wc) (nI dd)).1 (L + 1) 4 = 1 := by unfold nlC; rw [wi_eq rfl rfl]
      have q7 : (nlC σ (L + 1) (nI da) (nI sb) (nI wc) (nI dd)).1 7 4 = nI (L + 1) := by unfold nlC; rw [wi_o (by omega), wi_o (by omega), wi_o (by omega), wi_o (by omega), wi_o (by omega), wi_eq rfl rfl]
      have oC := fun i j g1 g2 => nlC_o (σ := σ) (k := L + 1) (a := nI da) (b := nI sb) (c := nI wc) (d := nI dd) i j g1 g2
      have hev : lm (wi σ (rf 40 0) 4 (nI L + 1)) (fun σ20 => ((sp_X1_place n σ20 ((rf 40 0)) ((σ20.1 (rf 40 0) 4))).bind fun q => match q with | (r22, σ23) => if Ok r22 0 then ((sp_X0_open n σ23 r22 (nI da) (nI sb) (nI wc) (nI dd)).bind fun q => match q with | (_, σ27) => ((sp_X1_spreadAir n σ27 ((rf 40 0))).bind fun q => match q with | (_, σ30) => some (.inl ((σ30.1 (rf 40 0) 4)), σ30))) else none)) = ((sp_X1_spreadAir n (nlC σ (L + 1) (nI da) (nI sb) (nI wc) (nI dd)) (rf 40 0)).bind fun q => match q with | (_, σ30) => some ((.inl ((σ30.1 (rf 40 0) 4)) : Int32 ⊕ String), σ30)) := by
        dsimp only [lm]
        rw [wi_eq rfl rfl, add1_nI, pl_0 n (show ShM (wi σ (rf 40 0) 4 (nI (L + 1))) 0 from s1.to rfl) (by omega)]
        simp only [Option.bind_some]
        rw [if_pos (ok_0 (by omega))]
        rfl
      have hcv := hc0.trans ((if_neg n6).trans ((if_pos cm).trans hev))
      have hb2 : (nlC σ (L + 1) (nI da) (nI sb) (nI wc) (nI dd)).2 = σ.2 := rfl
      generalize nlC σ (L + 1) (nI da) (nI sb) (nI wc) (nI dd) = σb at q0 q2 q3 q4 q7 oC hcv hb2
      have eW : NW σb 0 (L + 1) (fun i => if i = L + 1 then wc else W i) := fun i i1 i2 => by
        by_cases e : i = L + 1
        · subst e
          simp only [if_pos]
          unfold owC
          rw [show 10 * 0 + (L + 1) = L + 1 by omega, q4, q2, if_neg (by decide)]
          exact ⟨rfl, c2⟩
        · simp only [if_neg e]
          rw [owC_cong (σ := σ) (oC _ _ (by omega) (by omega)) (oC _ _ (by omega) (by omega))]
          exact s5 i i1 (by omega)
      have q5 : σb.1 7 5 = nI u := by rw [oC _ _ (by omega) (by omega)]; exact s8
      have hsp := ev_spread0 hn (s1.to hb2) q7 (show L + 1 ≤ 6 by omega) eW s7 q5
      have hX : sp_X5_addLevel n σ 40 (nI da) (nI sb) (nI wc) (nI dd) = some (.inl (nI (L + 1)), spA σb 0 (L + 1) (fun i => if i = L + 1 then wc else W i) u (L + 1)) := by
        rw [hcv, hsp]
        simp only [Option.bind_some]
        rw [show rf 40 0 = 7 from rfl, spA_o (by omega), q7]
      have o5 : ∀ a b, b ≠ 5 → (spA σb 0 (L + 1) (fun i => if i = L + 1 then wc else W i) u (L + 1)).1 a b = σb.1 a b := fun a b hb => spA_o (by omega)
      have o40 : (spA σb 0 (L + 1) (fun i => if i = L + 1 then wc else W i) u (L + 1)).2 = σ.2 := by rw [spA_2]; exact hb2
      generalize spA σb 0 (L + 1) (fun i => if i = L + 1 then wc else W i) u (L + 1) = σ1 at hX o5 o40
      obtain ⟨τ', hX'⟩ := opg_w (op_addLevel (n := n) (n' := 0) hn (nI da) (nI sb) (nI wc) (nI dd) ⟨L, W, u, N, Q, hR, hs, Nat.le_refl N⟩) (σ1 := σ1) (t := 0) (v := nI (L + 1)) (by unfold spg_L_addLevel; rw [hX]; rfl)
      have o : ∀ a b, b ≠ 5 → (a ≠ 7 ∨ b ≠ 4) → (a ≠ L + 1 ∨ 4 < b) → σ1.1 a b = σ.1 a b := fun a b g0 g1 g2 => by rw [o5 a b g0, oC a b g1 g2]
      refine ⟨σ1, by unfold sp_L_level; rw [hX]; rfl, INV.of hX' (by rw [o5 _ _ (by omega)]; exact q7) (by omega) (by rw [o _ _ (by omega) (by omega) (by omega)]; exact h11) hN ?_⟩
      obtain ⟨v1, v2, v3, v4, v5, v6, v7, v8, v9, v10⟩ := hI
      refine ⟨fun i i1 i2 => ?_, fun i i1 i2 => ?_, fun i i1 => ?_, ?_, fun i i1 i2 => ?_, ?_, ?_, ?_, ?_, ?_⟩
      · by_cases e : i = L + 1
        · subst e
          exact ⟨dl, da, hd, hda, by rw [show L + 1 - 1 = L by omega, o _ _ (by omega) (by omega) (by omega)]; exact p1, by rw [o5 _ _ (by omega)]; exact q0⟩
        · rw [o _ _ (by omega) (by omega) (by omega), o _ _ (by omega) (by omega) (by omega)]
          exact v1 i i1 (by omega)
      · by_cases e : i = L + 1
        · subst e
          exact ⟨dd, d2, by rw [o5 _ _ (by omega)]; exact q3⟩
        · rw [o _ _ (by omega) (by omega) (by omega)]
          exact v2 i i1 (by omega)
      · rw [o _ _ (by omega) (by omega) (by omega)]
        exact v3 i i1
      · rw [← v4]
        exact oT_cong (m := 0) (m' := 0) (fun k hk => by rw [at0, at0]; exact o _ _ (by omega) (by omega) (by omega)) (o _ _ (by omega) (by omega) (by omega)) (o _ _ (by omega) (by omega) (by omega))
      · rw [o _ _ (by omega) (by omega) (by omega)]
        exact v5 i (by omega) i2
      · exact LD.to (m := 0) (o _ _ (by omega) (by omega) (by omega)) (o _ _ (by omega) (by omega) (by omega)) v6
      · exact SP.to (m := 0) (o _ _ (by omega) (by omega) (by omega)) (Nat.le_refl g) v7
      · rw [o _ _ (by omega) (by omega) (by omega)]
        exact v8
      · rw [o _ _ (by omega) (by omega) (by omega)]
        exact v9
      · exact ⟨(o _ _ (by omega) (by omega) (by omega)).trans v10.1, by rw [o40]; exact v10.2⟩
    · exact Or.inl (lev_ise (X := none) (by rw [hc0, if_neg n6, if_neg cm]))
end MO
