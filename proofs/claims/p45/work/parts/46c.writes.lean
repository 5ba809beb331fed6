/-! PURE. blast, cancel, requests, minutes, a new level -/
section WR
variable {σ τ : Mem} {L N g n : Nat} {O : Int32}
theorem blC_X [Inhabited Bl] (n : Nat) {W : Nat → Nat} {u Q k : Nat} {b : Int32} (hR : RR σ τ 0 L W u N Q) (hk1 : 1 ≤ k) (hk : k ≤ L) (c1 : sp_X5_checkRange n σ b 1 20 = some (.inl (), σ)) (cd : cdC σ 0 k = 0) (cp : ¬ 0 < σ.1 k 8) (ct : ¬ (σ.1 8 0 ≠ 45 ∧ σ.1 8 1 = nI k)) : sp_X5_blast n σ 40 (nI k) b = some (.inl (σ.1 7 8 + 30), blC σ k b) := by
  have hS := hR.1
  have hL := hS.lv
  have h4 : σ.1 7 4 = nI L := hS.c4
  have hd := ev_isShut n σ 0 k
  rw [Nat.mul_zero, Nat.zero_add, Nat.zero_add] at hd
  have hto := isTo_0 n σ k
  unfold sp_X5_blast blC
  rw [ckL_ok n h4 hL hk1 hk]
  simp only [Option.bind_some]
  rw [c1]
  simp only [Option.bind_some]
  rw [pl_0 n hS.sh (by omega)]
  simp only [Option.bind_some]
  rw [if_pos (ok_0 (by omega)), show rf 40 0 = 7 from rfl, hd]
  simp only [Option.bind_some]
  rw [if_pos cd, if_neg cp, hto]
  simp only [Option.bind_some]
  rw [if_neg ct, if_pos rfl]
  unfold sp_X1_letGasIn
  simp only [lm, Option.bind_some]
  rw [wi_o (a := 7) (b := 9) (by omega), wi_o (a := k) (b := 9) (by omega), wi_o (a := k) (b := 9) (by omega), wi_o (a := 7) (b := 8) (by omega), wi_o (a := 7) (b := 8) (by omega), wi_o (a := 7) (b := 8) (by omega), wi_eq rfl rfl]
/-- a number that says: refused -/
def rfs (v : Int32) : Prop := v = -1001 ∨ v = -1002 ∨ v = -1003 ∨ v = -1004
theorem w_blast [Inhabited Bl] {k b : Nat} (h : INV σ L N g O) (hk1 : 1 ≤ k) (hk7 : k ≤ 6) (hb1 : 1 ≤ b) (hb2 : b ≤ 20) (hg : g ≤ 50000) : (∃ v, rfs v ∧ sp_L_blast n σ 40 (nI k) (nI b) = some (v, σ)) ∨ (k ≤ L ∧ ∃ c σ1, c ≤ 5000 ∧ sp_L_blast n σ 40 (nI k) (nI b) = some (nI (c + 30), σ1) ∧ INV σ1 L N (g + 100) (O + 3 * nI b) ∧ σ1.1 7 9 = σ.1 7 9 + 5 * nI b ∧ cdC σ1 0 k = 1) := by
  obtain ⟨hL, hN, h4, h11⟩ := h.lv
  obtain ⟨τ, W, u, Q, hR, hs, hI⟩ := h
  have hS := hR.1
  have c1 : sp_X5_checkRange n σ (nI b) 1 20 = some (.inl (), σ) := ckR (lo := 1) (hi := 20) hb1 hb2 (by omega) n σ
  by_cases hk : k ≤ L
  · have hd := ev_isShut n σ 0 k
    rw [Nat.mul_zero, Nat.zero_add, Nat.zero_add] at hd
    by_cases cd : cdC σ 0 k = 0
    · by_cases cp : 0 < σ.1 k 8
      · refine Or.inl ⟨-1004, Or.inr (Or.inr (Or.inr rfl)), ?_⟩
        unfold sp_L_blast sp_X5_blast
        rw [ckL_ok n h4 hL hk1 hk]
        simp only [Option.bind_some]
        rw [c1]
        simp only [Option.bind_some]
        rw [pl_0 n hS.sh (by omega)]
        simp only [Option.bind_some]
        rw [if_pos (ok_0 (by omega)), show rf 40 0 = 7 from rfl, hd]
        simp only [Option.bind_some]
        rw [if_pos cd, if_pos cp]
        simp
      · have hto := isTo_0 n σ k
        by_cases ct : σ.1 8 0 ≠ 45 ∧ σ.1 8 1 = nI k
        · refine Or.inl ⟨-1004, Or.inr (Or.inr (Or.inr rfl)), ?_⟩
          unfold sp_L_blast sp_X5_blast
          rw [ckL_ok n h4 hL hk1 hk]
          simp only [Option.bind_some]
          rw [c1]
          simp only [Option.bind_some]
          rw [pl_0 n hS.sh (by omega)]
          simp only [Option.bind_some]
          rw [if_pos (ok_0 (by omega)), show rf 40 0 = 7 from rfl, hd]
          simp only [Option.bind_some]
          rw [if_pos cd, if_neg cp, hto]
          simp only [Option.bind_some]
          rw [if_pos ct, if_neg (by decide)]
          simp
        · right
          obtain ⟨c, e1, e2⟩ := hI.2.2.2.2.2.2.2.2.1
          have hX := blC_X n hR hk1 hk c1 cd cp ct
          have o := fun a b' g1 g2 => blC_o (σ := σ) (k := k) (b := nI b) a b' g1 g2
          have s7 : (blC σ k (nI b)).1 k 7 = σ.1 k 7 + 5 * nI b := by unfold blC; rw [wi_o (by omega), wi_o (by omega), wi_o (by omega), wi_eq rfl rfl]
          have s9 : (blC σ k (nI b)).1 k 9 = σ.1 k 9 + 3 * nI b := by unfold blC; rw [wi_o (by omega), wi_eq rfl rfl]
          have s10 : (blC σ k (nI b)).1 k 10 = σ.1 7 8 + 30 := by unfold blC; rw [wi_eq rfl rfl]
          have s79 : (blC σ k (nI b)).1 7 9 = σ.1 7 9 + 5 * nI b := by unfold blC; rw [wi_o (by omega), wi_o (by omega), wi_eq rfl rfl]
          have e30 : nI c + 30 = nI (c + 30) := by rw [show (30 : Int32) = nI 30 from rfl, add_nI]
          obtain ⟨τ', hX'⟩ : ∃ τ', RX N (blC σ k (nI b)) τ' := ⟨_, L, W, u, N, Q, blast_R hR hk1 hk, hs.to rfl, Nat.le_refl N⟩
          refine ⟨hk, c, blC σ k (nI b), e1, ?_, INV.of hX' (by rw [o _ _ (by omega) (by omega)]; exact h4) hL (by rw [o _ _ (by omega) (by omega)]; exact h11) hN ?_, s79, ?_⟩
          · unfold sp_L_blast
            rw [hX, e2, e30]
            rfl
          · obtain ⟨a1, a2, a3, a4, a5, a6, a7, a8, a9, a10⟩ := hI
            refine ⟨fun i i1 i2 => ?_, fun i i1 i2 => ?_, fun i i1 => ?_, ?_, fun i i1 i2 => ?_, ?_, ?_, ?_, ?_, ?_⟩
            · rw [o _ _ (by omega) (by omega), o _ _ (by omega) (by omega)]
              exact a1 i i1 i2
            · rw [o _ _ (by omega) (by omega)]
              exact a2 i i1 i2
            · obtain ⟨y, y1, y2⟩ := a3 i i1
              by_cases e : i = k
              · subst e
                exact ⟨y + 5 * b, by omega, by rw [s7, y2, show (5 : Int32) = nI 5 from rfl, pk_mul, add_nI]⟩
              · exact ⟨y, by omega, by rw [o _ _ (by omega) (by omega)]; exact y2⟩
            · rw [← a4]
              have on : onO (blC σ k (nI b)) 0 = onO σ 0 := by
                unfold onO
                rw [o _ _ (by omega) (by omega), o _ _ (by omega) (by omega)]
              unfold oT pplS
              rw [on]
              have e0 : (blC σ k (nI b)).1 (10 * 0 + 0) 9 = σ.1 (10 * 0 + 0) 9 := o _ _ (by omega) (by omega)
              show acc (onO σ 0 + (blC σ k (nI b)).1 (10 * 0 + 0) 9) (fun i => (blC σ k (nI b)).1 (10 * 0 + i) 9) 6 = acc (onO σ 0 + σ.1 (10 * 0 + 0) 9) (fun i => σ.1 (10 * 0 + i) 9) 6 + 3 * nI b
              rw [e0]
              exact acc_upd (i := k) (by rw [at0, at0]; exact s9) hk1 (fun i h1 h2 => by rw [at0, at0]; exact o _ _ (by omega) (by omega)) (by omega)
            · rw [o _ _ (by omega) (by omega)]
              exact a5 i i1 i2
            · exact LD.to (m := 0) (o _ _ (by omega) (by omega)) (o _ _ (by omega) (by omega)) a6
            · exact SP.to (m := 0) (o _ _ (by omega) (by omega)) (by omega) a7
            · rw [o _ _ (by omega) (by omega)]
              exact a8
            · rw [o _ _ (by omega) (by omega)]
              exact a9
            · exact ⟨(o _ _ (by omega) (by omega)).trans a10.1, a10.2⟩
          · unfold cdC
            rw [at0, s10, show (blC σ k (nI b)).1 (10 * 0 + 7) 8 = σ.1 7 8 from o _ _ (by omega) (by omega), e2, e30, if_neg (by rw [le_nI (by omega) (by omega)]; omega)]
    · refine Or.inl ⟨-1003, Or.inr (Or.inr (Or.inl rfl)), ?_⟩
      unfold sp_L_blast sp_X5_blast
      rw [ckL_ok n h4 hL hk1 hk]
      simp only [Option.bind_some]
      rw [c1]
      simp only [Option.bind_some]
      rw [pl_0 n hS.sh (by omega)]
      simp only [Option.bind_some]
      rw [if_pos (ok_0 (by omega)), show rf 40 0 = 7 from rfl, hd]
      simp only [Option.bind_some]
      rw [if_neg cd]
      simp
  · refine Or.inl ⟨-1001, Or.inl rfl, ?_⟩
    unfold sp_L_blast sp_X5_blast
    rw [ckL_bad n h4 (Or.inr (Or.inr ⟨not_neg (by omega), (lt_nI (by omega) (by omega)).mpr (by omega)⟩))]
    simp
theorem w_cancel [Inhabited Bl] (hn : 10 < n) (a : Int32) (h : INV σ L N g O) : sp_L_asked n σ 40 a 0 = some (-1001, σ) ∨ ∃ Q σ1, 1 ≤ Q ∧ Q ≤ 8 ∧ sp_X5_waitingCount n σ 40 = some (nI Q, σ) ∧ sp_L_asked n σ 40 a 0 = some (nI (Q - 1), σ1) ∧ INV σ1 L N g O := by
  obtain ⟨hL, hN, h4, h11⟩ := h.lv
  obtain ⟨τ, W, u, Q, hR, hs, hI⟩ := h
  have hS := hR.1
  have hQ := hR.2.2.2.2.1
  by_cases c : inq σ 0 Q a
  · right
    obtain ⟨q, hq, -, e2⟩ := place_yes (n := 20) (by omega) hQ c
    obtain ⟨σ', τ', f1, f2, f3, f4, f5, f6, f7⟩ := remove_sim (n := n) (n' := 50) hn (by omega) hR hq
    rw [e2] at f1
    have g3 : σ'.1 9 1 = nI (Q - 1) := f3.2.2.2.2.1.2.2.1
    have hs' : ShM σ' 1 := by
      unfold ShM at hs ⊢
      rw [f4.2 _ (by omega), f4.2 _ (by omega)]
      exact hs
    refine ⟨Q, σ', by omega, hQ.1, x_waitingCount n hR, ?_, τ', W, u, Q - 1, f3, hs', hI.rd (Nat.le_refl g) (fun k b k1 hb => f6 _ _ (by omega)) (f6 _ _ (by omega)) (f6 _ _ (by omega)) (f6 _ _ (by omega)) (f6 _ _ (by omega)) (f6 _ _ (by omega)) hL (congrFun (f4.2 40 (by omega)) 2)⟩
    unfold sp_L_asked sp_X5_cancel
    rw [if_pos rfl, show sp_X4_holds n σ (rf (rf 40 0) 2) a = some (1, σ) from holds_yes hn hS.sh hQ c]
    simp only [Option.bind_some]
    rw [if_neg (by decide), show sp_X4_remove n σ (rf (rf 40 0) 2) a = some ((), σ') from f1]
    simp only [Option.bind_some]
    rw [show σ'.1 (rf (rf 40 0) 2) 1 = nI (Q - 1) from g3]
  · left
    unfold sp_L_asked sp_X5_cancel
    rw [if_pos rfl, show sp_X4_holds n σ (rf (rf 40 0) 2) a = some (0, σ) from holds_no hn hS.sh hQ c]
    simp
theorem asked_made [Inhabited Bl] (hn : 10 < n) (h : INV σ L N g O) : sp_L_asked n σ 40 (nI N) 0 = some (-1001, σ) := by
  obtain ⟨hL, hN, h4, h11⟩ := h.lv
  obtain ⟨τ, W, u, Q, hR, hs, hI⟩ := h
  have hQ := hR.2.2.2.2.1
  have c : ¬ inq σ 0 Q (nI N) := fun ⟨p, hp, ep⟩ => by
    obtain ⟨⟨r, r1, r2, -⟩, -⟩ := hQ.2.2.2.2.1 p hp
    have := (eq_nI (by omega) (by omega)).mp (r2.symm.trans ep)
    omega
  unfold sp_L_asked sp_X5_cancel
  rw [if_pos rfl, show sp_X4_holds n σ (rf (rf 40 0) 2) (nI N) = some (0, σ) from holds_no hn hR.1.sh hQ c]
  simp
/-! a request -/
theorem ev_req [Inhabited Bl] (n : Nat) {W : Nat → Nat} {u Q k : Nat} {c x : Int32} (hR : RR σ τ 0 L W u N Q) (hc : c = 100 ∨ c = 117 ∨ c = 111) (hq8 : Q < 8) : sp_X5_request n σ 40 c (nI k) x = some (.inl (nI N), wi (wi (wi (wi (wi (wi σ (rw_ σ 0 Q) 0 (nI N)) (rw_ σ 0 Q) 1 c) (rw_ σ 0 Q) 2 (nI k)) (rw_ σ 0 Q) 3 x) 9 1 (nI (Q + 1))) 7 11 (nI (N + 1))) := by
  obtain ⟨hS, hG, hK, hT, hQ, hP, hB2⟩ := id hR
  have hL := hS.lv
  obtain ⟨q1, q2, q3, q4, q5, q6, q7, q8, q9, q10, q11⟩ := hQ
  have q3' : σ.1 (rf (rf 40 0) 2) 1 = nI Q := q3
  have q3'' : σ.1 9 1 = nI Q := q3
  have hr := hS.sh.2.2.1 Q hq8
  have hn11 : σ.1 (rf 40 0) 11 = nI N := hK.2.2.2.1
  have hch : 0 ≤ c ∧ c ≤ 65535 := by rcases hc with e | e | e <;> subst e <;> decide
  have hne7 : rw_ σ 0 Q ≠ 7 := rw_ne (j := 7) hS.sh hq8 (by omega)
  have hne9 : rw_ σ 0 Q ≠ 9 := rw_ne (j := 9) hS.sh hq8 (by omega)
  unfold sp_X5_request sp_X4_add sp_X2_set
  rw [q3', if_pos (show nI Q < (8 : Int32) by rw [n8, lt_nI (by omega) (by omega)]; omega), if_neg (not_neg (by omega)), if_neg (show ¬ (8 : Int32) ≤ nI Q by rw [n8, le_nI (by omega) (by omega)]; omega)]
  simp only [nI_cl (show Q < 100000 by omega)]
  rw [if_pos ⟨inR_nI (by omega) (by omega), ok_rq hS.m2 hr.1 hr.2⟩]
  simp only [lm]
  rw [if_pos hch]
  simp only [Option.bind_some]
  rw [show σ.2 (rf (rf (rf 40 0) 2) 0) Q = rw_ σ 0 Q from rfl, show rf (rf 40 0) 2 = 9 from rfl, show rf 40 0 = 7 from rfl, show σ.1 7 11 = nI N from hn11]
  rw [wi_o (a := 9) (Or.inl hne9.symm), wi_o (a := 9) (Or.inl hne9.symm), wi_o (a := 9) (Or.inl hne9.symm), wi_o (a := 9) (Or.inl hne9.symm), q3'', add1_nI]
  rw [wi_o (a := 7) (b := 11) (by omega), wi_o (a := 7) (Or.inl hne7.symm), wi_o (a := 7) (Or.inl hne7.symm), wi_o (a := 7) (Or.inl hne7.symm), wi_o (a := 7) (Or.inl hne7.symm), show σ.1 7 11 = nI N from hn11, add1_nI]
/-- behind a request that is taken: it waits last -/
def rqD [Inhabited Bl] (n : Nat) (σ σ1 : Mem) (L N g : Nat) (O : Int32) : Prop := INV σ1 L (N + 1) g O ∧ ∃ τ W u Q, RR σ1 τ 0 L W u (N + 1) (Q + 1) ∧ σ1.1 (rw_ σ1 0 Q) 0 = nI N
theorem req_out [Inhabited Bl] {k : Nat} {c x : Int32} (h : INV σ L N g O) (hN : N < 80000) (hk1 : 1 ≤ k) (hk : k ≤ L) (hc : c = 100 ∨ c = 117 ∨ c = 111) (hx : ∃ x', x' ≤ 20 ∧ x = nI x') (hx2 : c = 111 → x = 20) : sp_X5_request n σ 40 c (nI k) x = some (.inr "java/lang/IllegalStateException", σ) ∨ ∃ σ1, sp_X5_request n σ 40 c (nI k) x = some (.inl (nI N), σ1) ∧ rqD n σ σ1 L N g O := by
  obtain ⟨hL, -, h4, h11⟩ := h.lv
  obtain ⟨τ, W, u, Q, hR, hs, hI⟩ := h
  have hX0 : RX N σ τ := ⟨L, W, u, N, Q, hR, hs, Nat.le_refl N⟩
  rcases request_sim (n := n) (n' := 0) (k := k) (c := c) (x := x) (y := x) hN hX0 hc hx2 (fun _ => rfl) hx (fun L' e1 e2 => by
    obtain rfl := t4_L h4 hL e1 e2
    exact ⟨hk1, hk⟩) with ⟨Q', g0, g1, g2, g3⟩ | ⟨Q', r, σ', τ', g0, g1, g2, g3, g4, g5, g6, g7⟩
  · exact Or.inl g3
  · right
    have hQq : τ.1 47 60 = nI Q := hR.2.2.2.2.1.2.2.2.1
    have hQ8 := hR.2.2.2.2.1.1
    obtain rfl : Q' = Q := (eq_nI (by omega) (by omega)).mp (g1.symm.trans hQq)
    have hev := ev_req n (k := k) (x := x) hR hc g0
    rw [g2] at hev
    obtain ⟨er, es⟩ := Prod.mk.inj (Option.some.inj hev)
    have er := Sum.inl.inj er
    subst er
    have hne7 : rw_ σ 0 Q' ≠ 7 := rw_ne (j := 7) hR.1.sh g0 (by omega)
    have hne9 : rw_ σ 0 Q' ≠ 9 := rw_ne (j := 9) hR.1.sh g0 (by omega)
    have hlow : ∀ j, j ≤ 9 → j ≠ rw_ σ 0 Q' := fun j hj => (rw_ne (j := j) hR.1.sh g0 hj |> fun e => by rw [Nat.mul_zero, Nat.zero_add] at e; exact e.symm)
    have o1 : ∀ a b, a ≤ 8 → (a ≠ 7 ∨ b ≠ 11) → σ'.1 a b = σ.1 a b := fun a b ha g3 => by
      have := hlow a (by omega)
      rw [es, wi_o (by omega), wi_o (by omega), wi_o (by omega), wi_o (by omega), wi_o (by omega), wi_o (by omega)]
    have f7 : σ'.1 7 11 = nI (N + 1) := by rw [es, wi_eq rfl rfl]
    have f0 : σ'.1 (rw_ σ 0 Q') 0 = nI N := by rw [es, wi_o (by omega), wi_o (by omega), wi_o (by omega), wi_o (by omega), wi_o (by omega), wi_eq rfl rfl]
    have f9 : σ'.1 9 1 = nI (Q' + 1) := by rw [es, wi_o (by omega), wi_eq rfl rfl]
    have e2 : rw_ σ' 0 Q' = rw_ σ 0 Q' := by unfold rw_; rw [es]; rfl
    have hI' : INV σ' L (N + 1) g O := INV.of g5 (by rw [o1 _ _ (by omega) (by omega)]; exact h4) hL f7 (by omega) (hI.rd (Nat.le_refl g) (fun k b k1 hb => o1 _ _ (by omega) (by omega)) (o1 _ _ (by omega) (by omega)) (o1 _ _ (by omega) (by omega)) (o1 _ _ (by omega) (by omega)) (o1 _ _ (by omega) (by omega)) (o1 _ _ (by omega) (by omega)) hL (by rw [es]; rfl))
    refine ⟨σ', g2, hI', ?_⟩
    obtain ⟨τ2, W2, u2, Q2, hR2, -, -⟩ := hI'
    have e9 : nI Q2 = nI (Q' + 1) := (show σ'.1 9 1 = nI Q2 from hR2.2.2.2.2.1.2.2.1).symm.trans f9
    have hQ2 := hR2.2.2.2.2.1.1
    obtain rfl := (eq_nI (by omega) (by omega)).mp e9
    exact ⟨τ2, W2, u2, Q', hR2, by rw [e2]; exact f0⟩
theorem w_request [Inhabited Bl] {k x : Nat} {c : Int32} (h : INV σ L N g O) (hN : N < 80000) (hk1 : 1 ≤ k) (hk7 : k ≤ 6) (hx1 : 1 ≤ x) (hx2 : x ≤ 12) (hc : c = 100 ∨ c = 117 ∨ c = 111) : (∃ v, rfs v ∧ sp_L_request n σ 40 c (nI k) (nI x) = some (v, σ)) ∨ ∃ σ1, sp_L_request n σ 40 c (nI k) (nI x) = some (nI N, σ1) ∧ rqD n σ σ1 L N g O := by
  obtain ⟨hL, -, h4, h11⟩ := h.lv
  have h' := h
  obtain ⟨τ, W, u, Q, hR, hs, hI⟩ := h
  have hS := hR.1
  have c1 : sp_X5_checkRange n σ (nI x) 1 12 = some (.inl (), σ) := ckR (lo := 1) (hi := 12) hx1 hx2 (by omega) n σ
  by_cases hk : k ≤ L
  · rcases hc with e | e | e
    · subst e
      have ha := hS.alarm n hk1 hk
      rw [Nat.mul_zero, Nat.zero_add, Nat.zero_add] at ha
      have hd := ev_isShut n σ 0 k
      rw [Nat.mul_zero, Nat.zero_add, Nat.zero_add] at hd
      by_cases ca : alC σ 0 k = 0
      · by_cases cd : cdC σ 0 k = 0
        · have hX : ∀ X, sp_X5_request n σ 40 100 (nI k) (nI x) = some X → sp_X5_sendDown n σ 40 (nI k) (nI x) = some X := fun X hX => by
            unfold sp_X5_sendDown
            rw [ckL_ok n h4 hL hk1 hk]
            simp only [Option.bind_some]
            rw [c1]
            simp only [Option.bind_some]
            rw [pl_0 n hS.sh (by omega)]
            simp only [Option.bind_some]
            rw [if_pos (ok_0 (by omega)), show rf 40 0 = 7 from rfl, ha]
            simp only [Option.bind_some]
            rw [if_pos ca, hd]
            simp only [Option.bind_some]
            rw [if_pos cd, hX]
            obtain ⟨r | E, s⟩ := X <;> rfl
          rcases req_out (n := n) (x := nI x) h' hN hk1 hk (Or.inl rfl) ⟨x, by omega, rfl⟩ (fun e => absurd e (by decide)) with e | ⟨σ1, e, hD⟩
          · refine Or.inl ⟨-1004, Or.inr (Or.inr (Or.inr rfl)), ?_⟩
            unfold sp_L_request
            rw [if_pos rfl, hX _ e]
            simp
          · refine Or.inr ⟨σ1, ?_, hD⟩
            unfold sp_L_request
            rw [if_pos rfl, hX _ e]
            rfl
        · refine Or.inl ⟨-1003, Or.inr (Or.inr (Or.inl rfl)), ?_⟩
          unfold sp_L_request sp_X5_sendDown
          rw [if_pos rfl, ckL_ok n h4 hL hk1 hk]
          simp only [Option.bind_some]
          rw [c1]
          simp only [Option.bind_some]
          rw [pl_0 n hS.sh (by omega)]
          simp only [Option.bind_some]
          rw [if_pos (ok_0 (by omega)), show rf 40 0 = 7 from rfl, ha]
          simp only [Option.bind_some]
          rw [if_pos ca, hd]
          simp only [Option.bind_some]
          rw [if_neg cd]
          simp
      · refine Or.inl ⟨-1003, Or.inr (Or.inr (Or.inl rfl)), ?_⟩
        unfold sp_L_request sp_X5_sendDown
        rw [if_pos rfl, ckL_ok n h4 hL hk1 hk]
        simp only [Option.bind_some]
        rw [c1]
        simp only [Option.bind_some]
        rw [pl_0 n hS.sh (by omega)]
        simp only [Option.bind_some]
        rw [if_pos (ok_0 (by omega)), show rf 40 0 = 7 from rfl, ha]
        simp only [Option.bind_some]
        rw [if_neg ca]
        simp
    · subst e
      have hX : ∀ X, sp_X5_request n σ 40 117 (nI k) (nI x) = some X → sp_X5_callUp n σ 40 (nI k) (nI x) = some X := fun X hX => by
        unfold sp_X5_callUp
        rw [ckL_ok n h4 hL hk1 hk]
        simp only [Option.bind_some]
        rw [c1]
        simp only [Option.bind_some]
        rw [hX]
        obtain ⟨r | E, s⟩ := X <;> rfl
      rcases req_out (n := n) (x := nI x) h' hN hk1 hk (Or.inr (Or.inl rfl)) ⟨x, by omega, rfl⟩ (fun e => absurd e (by decide)) with e | ⟨σ1, e, hD⟩
      · refine Or.inl ⟨-1004, Or.inr (Or.inr (Or.inr rfl)), ?_⟩
        unfold sp_L_request
        rw [if_neg (by decide), if_pos rfl, hX _ e]
        simp
      · refine Or.inr ⟨σ1, ?_, hD⟩
        unfold sp_L_request
        rw [if_neg (by decide), if_pos rfl, hX _ e]
        rfl
    · subst e
      have hX : ∀ X, sp_X5_request n σ 40 111 (nI k) 20 = some X → sp_X5_hoistOre n σ 40 (nI k) = some X := fun X hX => by
        unfold sp_X5_hoistOre
        rw [ckL_ok n h4 hL hk1 hk]
        simp only [Option.bind_some]
        rw [hX]
        obtain ⟨r | E, s⟩ := X <;> rfl
      rcases req_out (n := n) (x := 20) h' hN hk1 hk (Or.inr (Or.inr rfl)) ⟨20, by omega, rfl⟩ (fun _ => rfl) with e | ⟨σ1, e, hD⟩
      · refine Or.inl ⟨-1004, Or.inr (Or.inr (Or.inr rfl)), ?_⟩
        unfold sp_L_request
        rw [if_neg (by decide), if_neg (by decide), hX _ e]
        simp
      · refine Or.inr ⟨σ1, ?_, hD⟩
        unfold sp_L_request
        rw [if_neg (by decide), if_neg (by decide), hX _ e]
        rfl
  · have hbad : noL L (nI k) := Or.inr (Or.inr ⟨not_neg (by omega), (lt_nI (by omega) (by omega)).mpr (by omega)⟩)
    refine Or.inl ⟨-1001, Or.inl rfl, ?_⟩
    rcases hc with e | e | e
    · subst e
      unfold sp_L_request sp_X5_sendDown
      rw [if_pos rfl, ckL_bad n h4 hbad]
      simp
    · subst e
      unfold sp_L_request sp_X5_callUp
      rw [if_neg (by decide), if_pos rfl, ckL_bad n h4 hbad]
      simp
    · subst e
      unfold sp_L_request sp_X5_hoistOre
      rw [if_neg (by decide), if_neg (by decide), ckL_bad n h4 hbad]
      simp
end WR
