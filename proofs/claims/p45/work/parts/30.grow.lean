/-! PURE. a blast, a new level, the mean share -/
def blC (σ : Mem) (k : Nat) (b : Int32) : Mem := wi (wi (wi (wi σ k 7 (σ.1 k 7 + 5 * b)) 7 9 (σ.1 7 9 + 5 * b)) k 9 (σ.1 k 9 + 3 * b)) k 10 (σ.1 7 8 + 30)
def blM (τ : Mem) (k : Nat) (b : Int32) : Mem := wi (wi (wi (wi (wi τ 41 14 0) 47 k (τ.1 47 k + 5 * b)) 47 70 (τ.1 47 70 + 5 * b)) 47 (14 + k) (τ.1 47 (14 + k) + 3 * b)) 47 (21 + k) (τ.1 47 61 + 30)
theorem blC_o {σ : Mem} {k : Nat} {b : Int32} (a b' : Nat) (g1 : a ≠ 7 ∨ b' ≠ 9) (g2 : a ≠ k ∨ (b' ≠ 7 ∧ b' ≠ 9 ∧ b' ≠ 10)) : (blC σ k b).1 a b' = σ.1 a b' := by
  unfold blC
  rw [wi_o (by omega), wi_o (by omega), wi_o (by omega), wi_o (by omega)]
theorem blM_o {τ : Mem} {k : Nat} {b : Int32} (a b' : Nat) (g1 : a ≠ 41 ∨ b' ≠ 14) (g2 : a ≠ 47 ∨ (b' ≠ k ∧ b' ≠ 70 ∧ b' ≠ 14 + k ∧ b' ≠ 21 + k)) : (blM τ k b).1 a b' = τ.1 a b' := by
  unfold blM
  rw [wi_o (by omega), wi_o (by omega), wi_o (by omega), wi_o (by omega), wi_o (by omega)]
theorem blast_R {σ τ : Mem} {L : Nat} {W : Nat → Nat} {u N Q k : Nat} {b : Int32} (hR : RR σ τ 0 L W u N Q) (hk1 : 1 ≤ k) (hk : k ≤ L) : RR (blC σ k b) (blM τ k b) 0 L W u N Q := by
  have hL := hR.1.lv
  have o1 := fun a b' g1 g2 => blC_o (σ := σ) (k := k) (b := b) a b' g1 g2
  have o2 := fun a b' g1 g2 => blM_o (τ := τ) (k := k) (b := b) a b' g1 g2
  generalize hσ' : blC σ k b = σ' at o1 ⊢
  generalize hτ' : blM τ k b = τ' at o2 ⊢
  have s7 : σ'.1 k 7 = σ.1 k 7 + 5 * b := by rw [← hσ']; unfold blC; rw [wi_o (by omega), wi_o (by omega), wi_o (by omega), wi_eq rfl rfl]
  have s9 : σ'.1 k 9 = σ.1 k 9 + 3 * b := by rw [← hσ']; unfold blC; rw [wi_o (by omega), wi_eq rfl rfl]
  have s10 : σ'.1 k 10 = σ.1 7 8 + 30 := by rw [← hσ']; unfold blC; rw [wi_eq rfl rfl]
  have s79 : σ'.1 7 9 = σ.1 7 9 + 5 * b := by rw [← hσ']; unfold blC; rw [wi_o (by omega), wi_o (by omega), wi_eq rfl rfl]
  have m7 : τ'.1 47 k = τ.1 47 k + 5 * b := by rw [← hτ']; unfold blM; rw [wi_o (by omega), wi_o (by omega), wi_o (by omega), wi_eq rfl rfl]
  have m9 : τ'.1 47 (14 + k) = τ.1 47 (14 + k) + 3 * b := by rw [← hτ']; unfold blM; rw [wi_o (by omega), wi_eq rfl rfl]
  have m10 : τ'.1 47 (21 + k) = τ.1 47 61 + 30 := by rw [← hτ']; unfold blM; rw [wi_eq rfl rfl]
  have m70 : τ'.1 47 70 = τ.1 47 70 + 5 * b := by rw [← hτ']; unfold blM; rw [wi_o (by omega), wi_o (by omega), wi_eq rfl rfl]
  have e2 : σ'.2 = σ.2 := by rw [← hσ']; rfl
  obtain ⟨hS, hG, hK, hT, hQ, hP, hB⟩ := hR
  refine ⟨hS.to (hS.sh.to e2) (fun k b k1 b1 => o1 _ _ (by omega) (by omega)) (fun b b1 b2 => o1 _ _ (by omega) (by omega)) (fun a b hab => o2 _ _ (by omega) (by omega)), ?_, ?_, hT.to (fun b hb => o1 _ _ (by omega) (by omega)) (o1 _ _ (by omega) (by omega)) (fun b b1 b2 => o2 _ _ (by omega) (by omega)) (o2 _ _ (by omega) (by omega)), hQ.to (o1 _ _ (by omega) (by omega)) (fun p b hp hb => ?_) (o1 _ _ (by omega) (by omega)) (o1 _ _ (by omega) (by omega)) (fun b b1 b2 => o2 _ _ (by omega) (by omega)), hP.to hL (fun k k1 => o1 _ _ (by omega) (by omega)) (onT_cong (o1 _ _ (by omega) (by omega)) (o1 _ _ (by omega) (by omega))) (o2 _ _ (by omega) (by omega)), ?_⟩
  · intro i hi
    have g := hG i hi
    rw [show 10 * 0 + i = i by omega] at g ⊢
    by_cases e : i = k
    · subst e
      rw [s7, s9, s10, m7, m9, m10, o1 _ 8 (by omega) (by omega), o2 47 (7 + i) (by omega) (by omega), g.1, g.2.2.1, show σ.1 7 8 = τ.1 47 61 from hK.1]
      exact ⟨rfl, g.2.1, rfl, rfl⟩
    · rw [o1 _ 7 (by omega) (by omega), o1 _ 8 (by omega) (by omega), o1 _ 9 (by omega) (by omega), o1 _ 10 (by omega) (by omega), o2 47 i (by omega) (by omega), o2 47 (7 + i) (by omega) (by omega), o2 47 (14 + i) (by omega) (by omega), o2 47 (21 + i) (by omega) (by omega)]
      exact g
  · obtain ⟨w1, w2, w3, w4, w5, w6, w7, w8⟩ := hK
    refine ⟨?_, ?_, ?_, ?_, ?_, ?_, ?_, ?_⟩
    · rw [o1 _ _ (by omega) (by omega), o2 _ _ (by omega) (by omega)]; exact w1
    · rw [show σ'.1 (10 * 0 + 7) 9 = σ.1 7 9 + 5 * b from s79, m70, show σ.1 7 9 = τ.1 47 70 from w2]
    · rw [o1 _ _ (by omega) (by omega), o2 _ _ (by omega) (by omega)]; exact w3
    · rw [o1 _ _ (by omega) (by omega)]; exact w4
    · rw [o2 _ _ (by omega) (by omega)]; exact w5
    · rw [o1 _ _ (by omega) (by omega), o2 _ _ (by omega) (by omega)]; exact w6
    · rw [o1 _ _ (by omega) (by omega), o2 _ _ (by omega) (by omega)]; exact w7
    · rw [o1 _ _ (by omega) (by omega), o2 _ _ (by omega) (by omega)]; exact w8
  · show σ'.1 (σ'.2 (38 + 0) p) b = _
    have hh := hS.sh.2.2.1 p hp
    rw [e2]
    exact o1 _ _ (by omega) (by omega)
  · refine ⟨?_, fun i i1 i2 => by rw [o1 _ _ (by omega) (by omega)]; exact hB.2 i i1 i2⟩
    rw [show σ'.1 (10 * 0 + 7) 9 = σ.1 7 9 + 5 * b from s79, o1 (10 * 0 + 7) 10 (by omega) (by omega), show σ.1 7 9 = σ.1 (10 * 0 + 7) 9 from rfl, ← hB.1]
    refine acc_upd (i := k) (f := fun i => σ.1 (10 * 0 + i) 7) ?_ hk1 (fun i i1 i2 => ?_) hk
    · show σ'.1 (10 * 0 + k) 7 = σ.1 (10 * 0 + k) 7 + 5 * b
      rw [show 10 * 0 + k = k by omega, s7]
    · exact o1 _ _ (by omega) (by omega)
theorem isTo_0 (n : Nat) (σ : Mem) (k : Nat) : sp_X3_isTo n σ (rf 7 3) (nI k) = some (if σ.1 8 0 ≠ 45 ∧ σ.1 8 1 = nI k then 1 else 0, σ) := by
  unfold sp_X3_isTo
  rw [show rf 7 3 = 8 from rfl, ev_isOn]
  simp only [Option.bind_some]
  by_cases x1 : σ.1 8 0 = 45
  · rw [if_pos x1, if_pos rfl, if_neg (fun q => q.1 x1)]
  · rw [if_neg x1, if_neg (by decide)]
    by_cases x2 : σ.1 8 1 = nI k
    · rw [if_pos x2, if_pos ⟨x1, x2⟩]
    · rw [if_neg x2, if_neg (fun q => x2 q.2)]
theorem isTo_M {σ τ : Mem} {L k : Nat} (hT : RT σ τ 0 L) (e63 : τ.1 47 63 = σ.1 8 0) : ∀ X Y : Option (Int32 × Mem), (if τ.1 47 63 = 45 then X else if inR (64 : Int32) 73 then (if τ.1 47 64 = nI k then Y else X) else none) = if σ.1 8 0 ≠ 45 ∧ σ.1 8 1 = nI k then Y else X := by
  intro X Y
  rw [e63]
  by_cases x1 : σ.1 8 0 = 45
  · rw [if_pos x1, if_neg (fun q => q.1 x1)]
  · obtain ⟨⟨kk, -, -, y1, y2⟩, -⟩ := hT.2.2.2.2 x1
    have y1' : σ.1 8 1 = nI kk := y1
    rw [if_neg x1, if_pos i64, y2, y1']
    by_cases x2 : nI kk = nI k
    · rw [if_pos x2, if_pos ⟨x1, x2⟩]
    · rw [if_neg x2, if_neg (fun q => x2 q.2)]
theorem blast_C (n : Nat) {σ τ : Mem} {L : Nat} {W : Nat → Nat} {u N Q k : Nat} {b : Int32} (hR : RR σ τ 0 L W u N Q) (hk1 : 1 ≤ k) (hk : k ≤ L) (c1 : ∀ (n : Nat) (σ : Mem), sp_X5_checkRange n σ b 1 20 = some (.inl (), σ)) (cd : cdC σ 0 k = 0) (cp : ¬ 0 < σ.1 k 8) (ct : ¬ (σ.1 8 0 ≠ 45 ∧ σ.1 8 1 = nI k)) : spg_L_blast n σ 40 (nI k) b 49 = some (0, wi (blC σ k b) 49 0 (τ.1 47 61 + 30)) := by
  have hS := hR.1
  have hL := hS.lv
  have h4 : σ.1 7 4 = nI L := hS.c4
  have hd := ev_isShut n σ 0 k
  rw [Nat.mul_zero, Nat.zero_add, Nat.zero_add] at hd
  have hto := isTo_0 n σ k
  unfold spg_L_blast sp_X5_blast blC
  rw [ckL_ok n h4 hL hk1 hk]
  simp only [Option.bind_some]
  rw [c1]
  simp only [Option.bind_some]
  rw [pl_0 n hS.sh (by omega)]
  simp only [Option.bind_some]
  rw [if_pos (ok_0 (by omega)), show rf 40 0 = 7 from rfl, hd]
  simp only [Option.bind_some]
  rw [if_pos cd, if_neg cp, hto]
  simp only [Option.bind_some]
  rw [if_neg ct, if_pos rfl]
  unfold sp_X1_letGasIn
  simp only [lm, Option.bind_some]
  rw [wi_o (a := 7) (b := 9) (by omega), wi_o (a := k) (b := 9) (by omega), wi_o (a := k) (b := 9) (by omega), wi_o (a := 7) (b := 8) (by omega), wi_o (a := 7) (b := 8) (by omega), wi_o (a := 7) (b := 8) (by omega), wi_eq rfl rfl, show σ.1 7 8 = τ.1 47 61 from hR.2.2.1.1]
  rfl
theorem blast_79 (n : Nat) {τ : Mem} {a1 a2 : Int32} {k : Nat} {b : Int32} (hk : k < 7) : lp_X6_blast_79 n 41 a1 a2 τ (nI k) b 0 = some (τ.1 47 61 + 30, blM τ k b) := by
  have i0 : inR (0 + nI k) 73 := by rw [ix_0 (by omega)]; exact inR_nI (by omega) (by omega)
  have i14 : inR (14 + nI k) 73 := by rw [ix14]; exact inR_nI (by omega) (by omega)
  have i21 : inR (21 + nI k) 73 := by rw [ix21]; exact inR_nI (by omega) (by omega)
  have c0 : (0 + nI k).toNatClampNeg = k := by rw [ix_0 (by omega)]; exact nI_cl (by omega)
  have c14 : (14 + nI k).toNatClampNeg = 14 + k := by rw [ix14]; exact nI_cl (by omega)
  have c21 : (21 + nI k).toNatClampNeg = 21 + k := by rw [ix21]; exact nI_cl (by omega)
  unfold lp_X6_blast_79
  dsimp only [lm]
  rw [wi_eq rfl rfl, if_pos (show (0 : Int32) ≤ 0 by decide), if_pos i0, if_pos i0, if_pos i70, if_pos i70, if_pos i14, if_pos i14, if_pos i61, if_pos i21, if_pos i21]
  rw [c0, c14, c21, c70, c61, rfm_11]
  have e1 : (wi τ 41 14 0).1 47 k = τ.1 47 k := wi_o (by omega)
  have e2 : (wi (wi τ 41 14 0) 47 k (τ.1 47 k + 5 * b)).1 47 70 = τ.1 47 70 := by rw [wi_o (by omega), wi_o (by omega)]
  have e3 : (wi (wi (wi τ 41 14 0) 47 k (τ.1 47 k + 5 * b)) 47 70 (τ.1 47 70 + 5 * b)).1 47 (14 + k) = τ.1 47 (14 + k) := by rw [wi_o (by omega), wi_o (by omega), wi_o (by omega)]
  have e4 : (wi (wi (wi (wi τ 41 14 0) 47 k (τ.1 47 k + 5 * b)) 47 70 (τ.1 47 70 + 5 * b)) 47 (14 + k) (τ.1 47 (14 + k) + 3 * b)).1 47 61 = τ.1 47 61 := by rw [wi_o (by omega), wi_o (by omega), wi_o (by omega), wi_o (by omega)]
  rw [e1, e2, e3, e4, wi_eq rfl rfl]
  rfl
theorem blast_M (n' : Nat) {σ τ : Mem} {L : Nat} {W : Nat → Nat} {u N Q k : Nat} {b : Int32} (hR : RR σ τ 0 L W u N Q) (hk1 : 1 ≤ k) (hk : k ≤ L) (c2 : ∀ (n : Nat) (τ : Mem), sp_X6_in n τ b 1 20 = some (1, τ)) (cd : cdC σ 0 k = 0) (cp : ¬ 0 < σ.1 k 8) (ct : ¬ (σ.1 8 0 ≠ 45 ∧ σ.1 8 1 = nI k)) : sp_X6_blast n' τ 41 (nI k) b = some (τ.1 47 61 + 30, blM τ k b) := by
  have hS := hR.1
  have hL := hS.lv
  have hT := hR.2.2.2.1
  have hdM := ev_closedM n' (k := k) hR.2.1 hR.2.2.1 (by omega)
  have hg := hR.2.1 k (by omega)
  rw [Nat.mul_zero, Nat.zero_add] at hg
  have hmt := isTo_M (k := k) hT hT.1.symm
  unfold sp_X6_blast
  rw [isL_ok n' hS.t0 hL hk1 hk]
  simp only [Option.bind_some]
  rw [if_neg (by decide), c2]
  simp only [Option.bind_some]
  rw [if_neg (by decide), hdM]
  simp only [Option.bind_some, ix7, nI_cl (show 7 + k < 100000 by omega), rfm_11, ix63, ix64]
  rw [if_pos cd, if_pos (inR_nI (by omega) (by omega)), ← hg.2.1, if_neg cp, if_pos i63, hmt, if_neg ct]
  exact blast_79 n' (by omega)
theorem op_blast {n n' B : Nat} {σ τ : Mem} (a b : Int32) (h : RX B σ τ) : OpG B σ τ (spg_L_blast n σ 40 a b 49) (sp_X6_blast n' τ 41 a b) := by
  obtain ⟨L, W, u, N, Q, hR, h1, hN⟩ := id h
  have hS := hR.1
  have hL := hS.lv
  have h4 : σ.1 7 4 = nI L := hS.c4
  have hT := hR.2.2.2.1
  rcases lvl_or1 L hL a with ⟨k, hk1, hk, rfl⟩ | hbad
  · rcases rng b 1 20 with ⟨-, -, c1, c2⟩ | ⟨c1, c2⟩
    · have hd := ev_isShut n σ 0 k
      rw [Nat.mul_zero, Nat.zero_add, Nat.zero_add] at hd
      have hdM := ev_closedM n' (k := k) hR.2.1 hR.2.2.1 (by omega)
      have hg := hR.2.1 k (by omega)
      rw [Nat.mul_zero, Nat.zero_add] at hg
      have e63 : τ.1 47 63 = σ.1 8 0 := hT.1.symm
      by_cases cd : cdC σ 0 k = 0
      · by_cases cp : 0 < σ.1 k 8
        · refine op_bad (t := 4) (r := 0) h (by decide) ?_ ?_
          · unfold spg_L_blast sp_X5_blast
            rw [ckL_ok n h4 hL hk1 hk]
            simp only [Option.bind_some]
            rw [c1]
            simp only [Option.bind_some]
            rw [pl_0 n hS.sh (by omega)]
            simp only [Option.bind_some]
            rw [if_pos (ok_0 (by omega)), show rf 40 0 = 7 from rfl, hd]
            simp only [Option.bind_some]
            rw [if_pos cd, if_pos cp]
            simp
          · unfold sp_X6_blast lp_X6_blast_79
            rw [isL_ok n' hS.t0 hL hk1 hk]
            simp only [Option.bind_some]
            rw [if_neg (by decide), c2]
            simp only [Option.bind_some]
            rw [if_neg (by decide), hdM]
            simp only [Option.bind_some, ix7, nI_cl (show 7 + k < 100000 by omega), rfm_11, lm]
            rw [if_pos cd, if_pos (inR_nI (by omega) (by omega)), ← hg.2.1, if_pos cp, wi_eq rfl rfl, if_neg (by decide)]
        · -- is the trip to it?
          have hto := isTo_0 n σ k
          have hmt := isTo_M (k := k) hT e63
          by_cases ct : σ.1 8 0 ≠ 45 ∧ σ.1 8 1 = nI k
          · refine op_bad (t := 4) (r := 0) h (by decide) ?_ ?_
            · unfold spg_L_blast sp_X5_blast
              rw [ckL_ok n h4 hL hk1 hk]
              simp only [Option.bind_some]
              rw [c1]
              simp only [Option.bind_some]
              rw [pl_0 n hS.sh (by omega)]
              simp only [Option.bind_some]
              rw [if_pos (ok_0 (by omega)), show rf 40 0 = 7 from rfl, hd]
              simp only [Option.bind_some]
              rw [if_pos cd, if_neg cp, hto]
              simp only [Option.bind_some]
              rw [if_pos ct, if_neg (by decide)]
              simp
            · unfold sp_X6_blast lp_X6_blast_79
              rw [isL_ok n' hS.t0 hL hk1 hk]
              simp only [Option.bind_some]
              rw [if_neg (by decide), c2]
              simp only [Option.bind_some]
              rw [if_neg (by decide), hdM]
              simp only [Option.bind_some, ix7, nI_cl (show 7 + k < 100000 by omega), rfm_11, ix63, ix64]
              rw [if_pos cd, if_pos (inR_nI (by omega) (by omega)), ← hg.2.1, if_neg cp, if_pos i63, hmt, if_pos ct]
              simp only [lm]
              rw [wi_eq rfl rfl, if_neg (by decide)]
          · exact op_put (B := B) (Nat.le_refl _) (blast_C n hR hk1 hk c1 cd cp ct) (blast_M n' hR hk1 hk c2 cd cp ct) (by unfold blM; rw [wi_o (by omega), wi_o (by omega), wi_o (by omega), wi_o (by omega), wi_eq rfl rfl]) ⟨L, W, u, N, Q, blast_R hR hk1 hk, h1.to rfl, hN⟩ ⟨fun a b h1 h2 => blC_o _ _ (by omega) (by omega), fun _ _ => rfl⟩ ⟨fun a b h1 => blM_o _ _ (by omega) (by omega), rfl⟩
      · refine op_bad (t := 3) (r := 0) h (by decide) ?_ ?_
        · unfold spg_L_blast sp_X5_blast
          rw [ckL_ok n h4 hL hk1 hk]
          simp only [Option.bind_some]
          rw [c1]
          simp only [Option.bind_some]
          rw [pl_0 n hS.sh (by omega)]
          simp only [Option.bind_some]
          rw [if_pos (ok_0 (by omega)), show rf 40 0 = 7 from rfl, hd]
          simp only [Option.bind_some]
          rw [if_neg cd]
          simp
        · unfold sp_X6_blast lp_X6_blast_79
          rw [isL_ok n' hS.t0 hL hk1 hk]
          simp only [Option.bind_some]
          rw [if_neg (by decide), c2]
          simp only [Option.bind_some]
          rw [if_neg (by decide), hdM]
          simp only [Option.bind_some, lm]
          rw [if_neg cd, wi_eq rfl rfl, if_neg (by decide)]
    · refine op_bad (t := 2) (r := 0) h (by decide) ?_ ?_
      · unfold spg_L_blast sp_X5_blast
        rw [ckL_ok n h4 hL hk1 hk]
        simp only [Option.bind_some]
        rw [c1]
        simp
      · unfold sp_X6_blast lp_X6_blast_79
        rw [isL_ok n' hS.t0 hL hk1 hk]
        simp only [Option.bind_some]
        rw [if_neg (by decide), c2]
        simp only [Option.bind_some, lm]
        rw [if_pos trivial, wi_eq rfl rfl, if_neg (by decide)]
  · refine op_bad (t := 1) (r := 0) h (by decide) ?_ ?_
    · unfold spg_L_blast sp_X5_blast
      rw [ckL_bad n h4 hbad]
      simp
    · unfold sp_X6_blast lp_X6_blast_79
      rw [isL_bad n' hS.t0 hbad]
      simp only [Option.bind_some, lm]
      rw [if_pos trivial, wi_eq rfl rfl, if_neg (by decide)]
/-- meanShare: a double, told by its two ints -/
def OpD (B : Nat) (σ τ : Mem) (c : Option (Int32 × Mem)) (d : Option ((Int32 × Int32) × Mem)) : Prop := ∃ t σ' r τ', c = some (t, σ') ∧ d = some (r, τ') ∧ τ'.1 41 14 = t ∧ (t = 0 → σ'.1 50 0 = r.1 ∧ σ'.1 50 1 = r.2 ∧ ¬ r.2 = 0) ∧ RX B σ' τ' ∧ FC σ σ' ∧ FM τ τ'
theorem lp_mean (n : Nat) {σ : Mem} {τ0 : Mem} {L : Nat} {W : Nat → Nat} {u : Nat} (h : RS σ τ0 0 L W u) : ∀ (d k j : Nat) (x : Int32), j + d = L → d < k → 1 ≤ L → ∃ y, lp_X5_meanShare_24 n 40 k σ x (nI (j + 1)) = some (.inl (y, nI L), σ) ∧ ∀ (n' k' : Nat) (τ : Mem), d < k' → RS σ τ 0 L W u → RG σ τ 0 → τ.1 41 14 = 0 → lp_X6_meanShare_20 n' 41 k' τ x (nI (j + 1)) = some ((y, nI L), τ) := by
  intro d
  have hL := h.lv
  have h4 : σ.1 (rf 40 0) 4 = nI L := h.c4
  induction d with
  | zero =>
    intro k j x hj hk h1
    obtain ⟨k, rfl⟩ : ∃ z, k = z + 1 := ⟨k - 1, by omega⟩
    have nz : ¬ nI L = 0 := by rw [eq0_nI (by omega)]; omega
    refine ⟨x, ?_, fun n' k' τ hk' hS' hG' ht => ?_⟩
    · rw [lp_X5_meanShare_24_s, h4, if_pos ((lt_nI (by omega) (by omega)).mpr (by omega)), if_pos nz]
    · obtain ⟨k', rfl⟩ : ∃ z, k' = z + 1 := ⟨k' - 1, by omega⟩
      rw [lp_X6_meanShare_20_s, hS'.t0, if_pos ((lt_nI (by omega) (by omega)).mpr (by omega)), ht, if_pos (by decide), if_pos nz]
  | succ d ih =>
    intro k j x hj hk h1
    obtain ⟨k, rfl⟩ : ∃ z, k = z + 1 := ⟨k - 1, by omega⟩
    have hs := h.share n (k := j + 1) (by omega) (by omega)
    rw [Nat.mul_zero, Nat.zero_add] at hs
    obtain ⟨y, y1, y2⟩ := ih k (j + 1) (x + shC σ 0 (j + 1)) (by omega) (by omega) h1
    refine ⟨y, ?_, fun n' k' τ hk' hS' hG' ht => ?_⟩
    · rw [lp_X5_meanShare_24_s, h4, if_neg (by rw [lt_nI (by omega) (by omega)]; omega), pl_0 n h.sh (by omega)]
      simp only [Option.bind_some]
      rw [if_pos (ok_0 (by omega)), hs]
      simp only [Option.bind_some, add1_nI]
      exact y1
    · obtain ⟨k', rfl⟩ : ∃ z, k' = z + 1 := ⟨k' - 1, by omega⟩
      rw [lp_X6_meanShare_20_s, hS'.t0, if_neg (by rw [lt_nI (by omega) (by omega)]; omega), hS'.shareM hG' n' (by omega) (by omega)]
      simp only [Option.bind_some, add1_nI]
      exact y2 n' k' τ (by omega) hS' hG' ht
theorem op_meanShare {n n' B : Nat} (hn : 10 < n) (hn' : 10 < n') {σ τ : Mem} (h : RX B σ τ) : OpD B σ τ (spg_L_meanShare n σ 40 50) (sp_X6_meanShare n' τ 41) := by
  obtain ⟨L, W, u, N, Q, hR, h1, hN⟩ := id h
  have hS := hR.1
  have hL := hS.lv
  have h4 : σ.1 (rf 40 0) 4 = nI L := hS.c4
  by_cases c : L = 0
  · subst c
    refine ⟨1, σ, (0, 1), wi τ 41 14 1, ?_, ?_, wi_eq rfl rfl, fun e => absurd e (by decide), h.thr 1, FC.rfl' _, FM.thr _ _⟩
    · unfold spg_L_meanShare sp_X5_meanShare
      rw [h4, if_pos (show nI 0 = 0 from rfl)]
      simp
    · obtain ⟨k', rfl⟩ : ∃ z, n' = z + 1 := ⟨n' - 1, by omega⟩
      unfold sp_X6_meanShare
      rw [hS.t0, if_pos (show nI 0 = 0 from rfl)]
      simp only [lm]
      rw [lp_X6_meanShare_20_s, wi_o (a := 41) (b := 0) (by omega), hS.t0, if_pos (show nI 0 < 1 by decide), wi_eq rfl rfl, if_neg (by decide)]
  · obtain ⟨y, y1, y2⟩ := lp_mean n hS L n 0 0 (by omega) (by omega) (by omega)
    have nz : ¬ nI L = 0 := by rw [eq0_nI (by omega)]; omega
    refine ⟨0, wi (wi σ 50 0 y) 50 1 (nI L), (y, nI L), wi τ 41 14 0, ?_, ?_, wi_eq rfl rfl, fun _ => ⟨by rw [wi_o (by omega), wi_eq rfl rfl], wi_eq rfl rfl, nz⟩, ?_, ⟨fun a b h1 h2 => by rw [wi_o (by omega), wi_o (by omega)], fun _ _ => rfl⟩, FM.thr _ _⟩
    · unfold spg_L_meanShare sp_X5_meanShare
      rw [h4, if_neg nz, show lp_X5_meanShare_24 n 40 n σ 0 1 = some (.inl (y, nI L), σ) from y1]
      rfl
    · unfold sp_X6_meanShare
      rw [hS.t0, if_neg nz]
      simp only [lm]
      exact y2 n' n' _ (by omega) (RX.to14 (B := B) hS 0) (hR.2.1.to14 0) (wi_eq rfl rfl)
    · exact (h.thr 0).to (Nat.le_refl _) (fun a b h1 _ _ _ => by rw [wi_o (by omega), wi_o (by omega)]) (fun _ _ => rfl) (fun _ _ _ _ _ _ => rfl)
