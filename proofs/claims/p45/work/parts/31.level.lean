/-! PURE. a new level; both systems joined -/
theorem RR.grow {σ τ σ' τ' : Mem} {L : Nat} {W W' : Nat → Nat} {u N Q : Nat} (h : RR σ τ 0 L W u N Q) (hL6 : L < 6) (hs : RS σ' τ' 0 (L + 1) W' u) (e : ∀ a b, a < 36 → (a ≤ 6 → 7 ≤ b) → (a = 7 → 8 ≤ b) → σ'.1 a b = σ.1 a b) (e2 : σ'.2 = σ.2) (m1 : ∀ b, τ'.1 47 b = τ.1 47 b) (m9 : τ'.1 41 9 = τ.1 41 9) (m10 : τ'.1 41 10 = τ.1 41 10) : RR σ' τ' 0 (L + 1) W' u N Q := by
  obtain ⟨hS, hG, hK, hT, hQ, hP, hB⟩ := h
  have er : ∀ p b, p < 8 → σ'.1 (rw_ σ' 0 p) b = σ.1 (rw_ σ 0 p) b := fun p b hp => by
    have hh := hS.sh.2.2.1 p hp
    show σ'.1 (σ'.2 (38 + 0) p) b = _
    rw [e2]
    exact e _ _ (by omega) (by omega) (by omega)
  have hK' : RK σ τ 0 (L + 1) N := by
    obtain ⟨w1, w2, w3, w4, w5, ⟨c, c1, c2⟩, w7⟩ := hK
    exact ⟨w1, w2, w3, w4, w5, ⟨c, by omega, c2⟩, w7⟩
  have hT' : RT σ τ 0 (L + 1) := by
    obtain ⟨w1, w2, w3, w4, w5⟩ := hT
    refine ⟨w1, w2, w3, w4, fun q => ?_⟩
    obtain ⟨⟨k, k1, k2, k3⟩, v⟩ := w5 q
    exact ⟨⟨k, k1, by omega, k3⟩, v⟩
  have hQ' : RQ σ τ 0 (L + 1) N Q := by
    obtain ⟨w1, w2, w3, w4, w5, w6⟩ := hQ
    refine ⟨w1, w2, w3, w4, fun p hp => ?_, w6⟩
    obtain ⟨v1, v2, v3, ⟨k, k1, k2, k3⟩, v5⟩ := w5 p hp
    exact ⟨v1, v2, v3, ⟨k, k1, by omega, k3⟩, v5⟩
  refine ⟨hs, hG.to (fun k b k1 b1 b2 => e _ _ (by omega) (by omega) (by omega)) (fun b hb => m1 b), hK'.to (fun b b1 b2 => e _ _ (by omega) (by omega) (by omega)) (fun b hb => m1 b) m9, hT'.to (fun b b1 => e _ _ (by omega) (by omega) (by omega)) (e _ _ (by omega) (by omega) (by omega)) (fun b _ _ => m1 b) (m1 _), hQ'.to (e _ _ (by omega) (by omega) (by omega)) (fun p b hp hb => er p b hp) (e _ _ (by omega) (by omega) (by omega)) (e _ _ (by omega) (by omega) (by omega)) (fun b _ _ => m1 b), RP.to (m := 0) (σ := σ) (τ := τ) ?_ (by omega) (fun k k1 => e _ _ (by omega) (by omega) (by omega)) (onT_cong (e _ _ (by omega) (by omega) (by omega)) (e _ _ (by omega) (by omega) (by omega))) m10, RB.to (m := 0) (σ := σ) ?_ (by omega) (fun k k1 => e _ _ (by omega) (by omega) (by omega)) (e _ _ (by omega) (by omega) (by omega)) (e _ _ (by omega) (by omega) (by omega))⟩
  · refine ⟨?_, fun k k1 k2 => hP.2 k (by omega) k2⟩
    rw [acc, hP.1]
    show τ.1 41 10 + σ.1 (10 * 0 + (L + 1)) 8 = τ.1 41 10
    rw [hP.2 (L + 1) (by omega) (by omega), Int32.add_zero]
  · refine ⟨?_, fun k k1 k2 => hB.2 k (by omega) k2⟩
    rw [acc, hB.1]
    show σ.1 (10 * 0 + 7) 9 + σ.1 (10 * 0 + (L + 1)) 7 = σ.1 (10 * 0 + 7) 9
    rw [hB.2 (L + 1) (by omega) (by omega), Int32.add_zero]
def nlC (σ : Mem) (k : Nat) (a b c d : Int32) : Mem := wi (wi (wi (wi (wi (wi σ 7 4 (nI k)) k 0 a) k 1 b) k 2 c) k 3 d) k 4 1
def nlM (τ : Mem) (k : Nat) (a b c d : Int32) : Mem := wi (wi (wi (wi (wi (wi (wi τ 41 14 0) 41 0 (nI k)) 42 k a) 43 k b) 44 k c) 45 k d) 46 k 1
theorem nlC_o {σ : Mem} {k : Nat} {a b c d : Int32} (i j : Nat) (g1 : i ≠ 7 ∨ j ≠ 4) (g2 : i ≠ k ∨ 4 < j) : (nlC σ k a b c d).1 i j = σ.1 i j := by
  unfold nlC
  rw [wi_o (by omega), wi_o (by omega), wi_o (by omega), wi_o (by omega), wi_o (by omega), wi_o (by omega)]
theorem nlM_o {τ : Mem} {k : Nat} {a b c d : Int32} (i j : Nat) (g1 : i ≠ 41 ∨ (j ≠ 14 ∧ j ≠ 0)) (g2 : i < 42 ∨ 46 < i ∨ j ≠ k) : (nlM τ k a b c d).1 i j = τ.1 i j := by
  unfold nlM
  rw [wi_o (by omega), wi_o (by omega), wi_o (by omega), wi_o (by omega), wi_o (by omega), wi_o (by omega), wi_o (by omega)]
theorem add98 (n : Nat) {τ : Mem} {L : Nat} {a b c d x1 x2 x3 x4 x5 : Int32} (t0 : τ.1 41 0 = nI L) (hL : L < 6) : lp_X6_addLevel_98 n 41 x1 x2 x3 x4 τ a b c d x5 0 = some (nI (L + 1), nlM τ (L + 1) a b c d) := by
  have vn : vp_nar .boolean (1 : Int32) = 1 := vp_nar_b (Or.inr rfl)
  have cl : (nI (L + 1)).toNatClampNeg = L + 1 := nI_cl (by omega)
  have ii : inR (nI (L + 1)) 7 := inR_nI (by omega) (by omega)
  have w0 : (wi τ 41 14 0).1 41 0 = nI L := by rw [wi_o (by omega)]; exact t0
  unfold lp_X6_addLevel_98
  dsimp only [lm]
  rw [wi_eq rfl rfl, if_pos (show (0 : Int32) ≤ 0 by decide), w0, add1_nI, wi_eq rfl rfl, if_pos ii, cl, wi_o (a := 41) (b := 0) (i := rf 41 1) (Or.inl (by decide)), wi_eq rfl rfl, if_pos ii, cl, wi_o (a := 41) (b := 0) (i := rf 41 2) (Or.inl (by decide)), wi_o (a := 41) (b := 0) (i := rf 41 1) (Or.inl (by decide)), wi_eq rfl rfl, if_pos ii, cl, wi_o (a := 41) (b := 0) (i := rf 41 3) (Or.inl (by decide)), wi_o (a := 41) (b := 0) (i := rf 41 2) (Or.inl (by decide)), wi_o (a := 41) (b := 0) (i := rf 41 1) (Or.inl (by decide)), wi_eq rfl rfl, if_pos ii, cl, wi_o (a := 41) (b := 0) (i := rf 41 4) (Or.inl (by decide)), wi_o (a := 41) (b := 0) (i := rf 41 3) (Or.inl (by decide)), wi_o (a := 41) (b := 0) (i := rf 41 2) (Or.inl (by decide)), wi_o (a := 41) (b := 0) (i := rf 41 1) (Or.inl (by decide)), wi_eq rfl rfl, if_pos ii, cl, wi_o (a := 41) (b := 0) (i := rf 41 5) (Or.inl (by decide)), wi_o (a := 41) (b := 0) (i := rf 41 4) (Or.inl (by decide)), wi_o (a := 41) (b := 0) (i := rf 41 3) (Or.inl (by decide)), wi_o (a := 41) (b := 0) (i := rf 41 2) (Or.inl (by decide)), wi_o (a := 41) (b := 0) (i := rf 41 1) (Or.inl (by decide)), wi_eq rfl rfl, vn]
  rfl
theorem add98b (n : Nat) {τ : Mem} {a b c d x1 x2 x3 x4 x5 t : Int32} (ht : t = 1 ∨ t = 2) : lp_X6_addLevel_98 n 41 x1 x2 x3 x4 τ a b c d x5 t = some (0, wi τ 41 14 t) := by
  unfold lp_X6_addLevel_98
  dsimp only [lm]
  rw [wi_eq rfl rfl, if_neg (by rcases ht with e | e <;> subst e <;> decide)]
theorem op_addLevel {n n' B : Nat} (hn : 10 < n) {σ τ : Mem} (a b c d : Int32) (h : RX B σ τ) : OpG B σ τ (spg_L_addLevel n σ 40 a b c d 49) (sp_X6_addLevel n' τ 41 a b c d) := by
  obtain ⟨L, W, u, N, Q, hR, h1, hN⟩ := id h
  have hS := hR.1
  have hL := hS.lv
  have h4 : σ.1 7 4 = nI L := hS.c4
  have hmin : σ.1 7 8 = τ.1 47 61 := hR.2.2.1.1
  -- out of range
  have bad1 : ∀ (hc : sp_X5_addLevel n σ 40 a b c d = some (.inr "java/lang/IllegalArgumentException", σ)) (hm : sp_X6_addLevel n' τ 41 a b c d = lp_X6_addLevel_98 n' 41 a b c d τ a b c d 0 1), OpG B σ τ (spg_L_addLevel n σ 40 a b c d 49) (sp_X6_addLevel n' τ 41 a b c d) := fun hc hm => by
    refine op_bad (t := 1) (r := 0) h (by decide) ?_ ?_
    · unfold spg_L_addLevel
      rw [hc]
      simp
    · rw [hm]
      exact add98b n' (Or.inl rfl)
  rcases rng a 10 2000 with ⟨ga, ga2, a1, a2⟩ | ⟨a1, a2⟩
  · rcases rng b 1 500 with ⟨gb, gb2, b1, b2⟩ | ⟨b1, b2⟩
    · rcases rng c 1 20 with ⟨gc, gc2, c1, c2⟩ | ⟨c1, c2⟩
      · rcases rng d 0 50 with ⟨-, -, d1, d2⟩ | ⟨d1, d2⟩
        · obtain ⟨dl, -, p1, p2⟩ := hS.dep (Nat.le_refl L)
          rw [Nat.mul_zero, Nat.zero_add] at p1
          have hm0 : sp_X6_addLevel n' τ 41 a b c d = if a ≤ nI dl then lp_X6_addLevel_62 n' 41 a b c d τ a b c d 0 else lp_X6_addLevel_62 n' 41 a b c d τ a b c d 1 := by
            unfold sp_X6_addLevel
            rw [a2]
            simp only [Option.bind_some]
            rw [if_neg (by decide), b2]
            simp only [Option.bind_some]
            rw [if_neg (by decide), c2]
            simp only [Option.bind_some]
            rw [if_neg (by decide), d2]
            simp only [Option.bind_some, hS.t0, nI_cl (show L < 100000 by omega), rfm_1, p2]
            rw [if_neg (by decide), if_pos (inR_nI (by omega) (by omega))]
          by_cases cg : nI dl < a
          · have hm1 : sp_X6_addLevel n' τ 41 a b c d = if nI L = 6 then lp_X6_addLevel_98 n' 41 a b c d τ a b c d 1 2 else if τ.1 47 61 ≤ 0 then lp_X6_addLevel_98 n' 41 a b c d τ a b c d 1 0 else lp_X6_addLevel_98 n' 41 a b c d τ a b c d 1 2 := by
              rw [hm0, if_neg (Int32.not_le.mpr cg)]
              unfold lp_X6_addLevel_62
              rw [if_neg (by decide), hS.t0, if_pos i61]
              simp only [rfm_11, c61]
            have hc0 : ∀ X, sp_X5_addLevel n σ 40 a b c d = X ↔ (if 6 ≤ nI L then some (.inr "java/lang/IllegalStateException", σ) else if σ.1 7 8 ≤ 0 then (lm (wi σ (rf 40 0) 4 (nI L + 1)) fun σ20 => ((sp_X1_place n σ20 ((rf 40 0)) ((σ20.1 (rf 40 0) 4))).bind fun q => match q with | (r22, σ23) => if Ok r22 0 then ((sp_X0_open n σ23 r22 a b c d).bind fun q => match q with | (_, σ27) => ((sp_X1_spreadAir n σ27 ((rf 40 0))).bind fun q => match q with | (_, σ30) => some (.inl ((σ30.1 (rf 40 0) 4)), σ30))) else none)) else some (.inr "java/lang/IllegalStateException", σ)) = X := fun X => by
              unfold sp_X5_addLevel
              rw [a1]
              simp only [Option.bind_some]
              rw [b1]
              simp only [Option.bind_some]
              rw [c1]
              simp only [Option.bind_some]
              rw [d1]
              simp only [Option.bind_some]
              rw [show σ.1 (rf 40 0) 4 = nI L from h4, pl_0 n hS.sh (by omega)]
              simp only [Option.bind_some]
              rw [if_pos (ok_0 (by omega)), p1, if_pos cg, show σ.1 (rf 40 0) 4 = nI L from h4, show σ.1 (rf 40 0) 8 = σ.1 7 8 from rfl]
            by_cases c6 : L = 6
            · refine op_bad (t := 2) (r := 0) h (by decide) ?_ ?_
              · unfold spg_L_addLevel
                rw [(hc0 _).mpr (if_pos (by rw [c6]; decide))]
                simp
              · rw [hm1, if_pos (by rw [c6]; rfl)]
                exact add98b n' (Or.inr rfl)
            · have n6 : ¬ (6 : Int32) ≤ nI L := by rw [show (6 : Int32) = nI 6 from rfl, le_nI (by omega) (by omega)]; omega
              have n6' : ¬ nI L = (6 : Int32) := by rw [show (6 : Int32) = nI 6 from rfl, eq_nI (by omega) (by omega)]; omega
              by_cases cm : σ.1 7 8 ≤ 0
              · obtain ⟨da, da1, da2, rfl⟩ := rng_nI (lo := 10) (hi := 2000) ga ga2 (by omega) (by omega)
                obtain ⟨sb, sb1, sb2, rfl⟩ := rng_nI (lo := 1) (hi := 500) gb gb2 (by omega) (by omega)
                obtain ⟨wc, wc1, wc2, rfl⟩ := rng_nI (lo := 1) (hi := 20) gc gc2 (by omega) (by omega)
                obtain ⟨s1, s2, s3, s4, s5, s6, s7, s8, s9, s10, s11, s12, s13, s14⟩ := id hS
                have q0 : (nlC σ (L + 1) (nI da) (nI sb) (nI wc) d).1 (L + 1) 0 = nI da := by unfold nlC; rw [wi_o (by omega), wi_o (by omega), wi_o (by omega), wi_o (by omega), wi_eq rfl rfl]
                have q1 : (nlC σ (L + 1) (nI da) (nI sb) (nI wc) d).1 (L + 1) 1 = nI sb := by unfold nlC; rw [wi_o (by omega), wi_o (by omega), wi_o (by omega), wi_eq rfl rfl]
                have q2 : (nlC σ (L + 1) (nI da) (nI sb) (nI wc) d).1 (L + 1) 2 = nI wc := by unfold nlC; rw [wi_o (by omega), wi_o (by omega), wi_eq rfl rfl]
                have q3 : (nlC σ (L + 1) (nI da) (nI sb) (nI wc) d).1 (L + 1) 3 = d := by unfold nlC; rw [wi_o (by omega), wi_eq rfl rfl]
                have q4 : (nlC σ (L + 1) (nI da) (nI sb) (nI wc) d).1 (L + 1) 4 = 1 := by unfold nlC; rw [wi_eq rfl rfl]
                have q7 : (nlC σ (L + 1) (nI da) (nI sb) (nI wc) d).1 7 4 = nI (L + 1) := by unfold nlC; rw [wi_o (by omega), wi_o (by omega), wi_o (by omega), wi_o (by omega), wi_o (by omega), wi_eq rfl rfl]
                have t42 : (nlM τ (L + 1) (nI da) (nI sb) (nI wc) d).1 42 (L + 1) = nI da := by unfold nlM; rw [wi_o (by omega), wi_o (by omega), wi_o (by omega), wi_o (by omega), wi_eq rfl rfl]
                have t43 : (nlM τ (L + 1) (nI da) (nI sb) (nI wc) d).1 43 (L + 1) = nI sb := by unfold nlM; rw [wi_o (by omega), wi_o (by omega), wi_o (by omega), wi_eq rfl rfl]
                have t44 : (nlM τ (L + 1) (nI da) (nI sb) (nI wc) d).1 44 (L + 1) = nI wc := by unfold nlM; rw [wi_o (by omega), wi_o (by omega), wi_eq rfl rfl]
                have t45 : (nlM τ (L + 1) (nI da) (nI sb) (nI wc) d).1 45 (L + 1) = d := by unfold nlM; rw [wi_o (by omega), wi_eq rfl rfl]
                have t46 : (nlM τ (L + 1) (nI da) (nI sb) (nI wc) d).1 46 (L + 1) = 1 := by unfold nlM; rw [wi_eq rfl rfl]
                have t0 : (nlM τ (L + 1) (nI da) (nI sb) (nI wc) d).1 41 0 = nI (L + 1) := by unfold nlM; rw [wi_o (by omega), wi_o (by omega), wi_o (by omega), wi_o (by omega), wi_o (by omega), wi_eq rfl rfl]
                have t14 : (nlM τ (L + 1) (nI da) (nI sb) (nI wc) d).1 41 14 = 0 := by unfold nlM; rw [wi_o (by omega), wi_o (by omega), wi_o (by omega), wi_o (by omega), wi_o (by omega), wi_o (by omega), wi_eq rfl rfl]
                have oC := fun i j g1 g2 => nlC_o (σ := σ) (k := L + 1) (a := nI da) (b := nI sb) (c := nI wc) (d := d) i j g1 g2
                have oM := fun i j g1 g2 => nlM_o (τ := τ) (k := L + 1) (a := nI da) (b := nI sb) (c := nI wc) (d := d) i j g1 g2
                have hev : lm (wi σ (rf 40 0) 4 (nI L + 1)) (fun σ20 => ((sp_X1_place n σ20 ((rf 40 0)) ((σ20.1 (rf 40 0) 4))).bind fun q => match q with | (r22, σ23) => if Ok r22 0 then ((sp_X0_open n σ23 r22 (nI da) (nI sb) (nI wc) d).bind fun q => match q with | (_, σ27) => ((sp_X1_spreadAir n σ27 ((rf 40 0))).bind fun q => match q with | (_, σ30) => some (.inl ((σ30.1 (rf 40 0) 4)), σ30))) else none)) = ((sp_X1_spreadAir n (nlC σ (L + 1) (nI da) (nI sb) (nI wc) d) (rf 40 0)).bind fun q => match q with | (_, σ30) => some ((.inl ((σ30.1 (rf 40 0) 4)) : Int32 ⊕ String), σ30)) := by
                  dsimp only [lm]
                  rw [wi_eq rfl rfl, add1_nI, pl_0 n (show ShM (wi σ (rf 40 0) 4 (nI (L + 1))) 0 from s1.to rfl) (by omega)]
                  simp only [Option.bind_some]
                  rw [if_pos (ok_0 (by omega))]
                  rfl
                have hcv := (hc0 _).mpr ((if_neg n6).trans ((if_pos cm).trans hev))
                have hb2 : (nlC σ (L + 1) (nI da) (nI sb) (nI wc) d).2 = σ.2 := rfl
                have hm2 : (nlM τ (L + 1) (nI da) (nI sb) (nI wc) d).2 = τ.2 := rfl
                have hmv : sp_X6_addLevel n' τ 41 (nI da) (nI sb) (nI wc) d = some (nI (L + 1), nlM τ (L + 1) (nI da) (nI sb) (nI wc) d) := by
                  rw [hm1, if_neg n6', if_pos (by rw [← hmin]; exact cm)]
                  exact add98 n' hS.t0 (by omega)
                generalize nlC σ (L + 1) (nI da) (nI sb) (nI wc) d = σb at q0 q1 q2 q3 q4 q7 oC hcv hb2
                generalize nlM τ (L + 1) (nI da) (nI sb) (nI wc) d = τb at t42 t43 t44 t45 t46 t0 t14 oM hmv hm2
                have eW : NW σb 0 (L + 1) (fun i => if i = L + 1 then wc else W i) := fun i i1 i2 => by
                  by_cases e : i = L + 1
                  · subst e
                    simp only [if_pos]
                    unfold owC
                    rw [show 10 * 0 + (L + 1) = L + 1 by omega, q4, q2, if_neg (by decide)]
                    exact ⟨rfl, wc2⟩
                  · simp only [if_neg e]
                    rw [owC_cong (σ := σ) (oC _ _ (by omega) (by omega)) (oC _ _ (by omega) (by omega))]
                    exact s5 i i1 (by omega)
                have eM : NM τb (L + 1) (fun i => if i = L + 1 then wc else W i) := fun i i1 i2 => by
                  by_cases e : i = L + 1
                  · subst e
                    simp only [if_pos]
                    rw [t46, t44]
                    exact Or.inr ⟨by decide, rfl, wc1, wc2⟩
                  · simp only [if_neg e]
                    rw [oM _ _ (by omega) (by omega), oM _ _ (by omega) (by omega)]
                    exact s6 i i1 (by omega)
                have q5 : σb.1 7 5 = nI u := by rw [oC _ _ (by omega) (by omega)]; exact s8
                have hsp := ev_spread0 hn (s1.to hb2) q7 (show L + 1 ≤ 6 by omega) eW s7 q5
                have hRS := spread_RS (τ := τb) (s1.to hb2) (show L + 1 ≤ 6 by omega) q7 t0 eW eM s7 q5 (by rw [oM _ _ (by omega) (by omega)]; exact s9) (by rw [oC _ _ (by omega) (by omega), oM _ _ (by omega) (by omega)]; exact s10) (by rw [oC _ _ (by omega) (by omega), oM _ _ (by omega) (by omega)]; exact s11) (fun i i1 => by
                  by_cases e : i = L + 1
                  · subst e
                    exact ⟨da, da2, q0, t42⟩
                  · have := s12 i (by omega)
                    rw [show 10 * 0 + i = i by omega] at this
                    rw [oC _ _ (by omega) (by omega), oM _ _ (by omega) (by omega)]
                    exact this) (fun i i1 i2 => by
                  by_cases e : i = L + 1
                  · subst e
                    exact ⟨⟨sb, sb1, sb2, q1, t43⟩, q3.trans t45.symm, ⟨wc, wc1, wc2, q2, t44⟩, q4.trans t46.symm⟩
                  · have := s13 i i1 (by omega)
                    rw [show 10 * 0 + i = i by omega] at this
                    obtain ⟨v1, v2, v3, v4, -⟩ := this
                    rw [oC _ 1 (by omega) (by omega), oC _ 2 (by omega) (by omega), oC _ 3 (by omega) (by omega), oC _ 4 (by omega) (by omega), oM 43 _ (by omega) (by omega), oM 44 _ (by omega) (by omega), oM 45 _ (by omega) (by omega), oM 46 _ (by omega) (by omega)]
                    exact ⟨v1, v2, v3, v4⟩) (fun i i1 => by
                  by_cases e : i = L + 1
                  · subst e
                    exact Or.inr q4
                  · have := s14 i i1
                    rw [show 10 * 0 + i = i by omega] at this
                    rw [oC _ _ (by omega) (by omega)]
                    exact this)
                refine op_put (B := B) (v := nI (L + 1)) (Nat.le_refl _) ?_ hmv t14 ⟨L + 1, _, u, N, Q, hR.grow (by omega) hRS (fun i j g1 g2 g3 => ?_) ((spA_2 _ _ _ _ _ _).trans hb2) (fun j => oM _ _ (by omega) (by omega)) (oM _ _ (by omega) (by omega)) (oM _ _ (by omega) (by omega)), h1.to ((spA_2 _ _ _ _ _ _).trans hb2), hN⟩ ⟨fun i j g1 g2 => ?_, fun _ _ => by rw [spA_2, hb2]⟩ ⟨fun i j g1 => oM _ _ (by omega) (by omega), hm2⟩
                · unfold spg_L_addLevel
                  rw [hcv, hsp]
                  simp only [Option.bind_some]
                  rw [show rf 40 0 = 7 from rfl, spA_o (by omega), q7]
                  rfl
                · rw [spA_o (by omega), oC _ _ (by omega) (by omega)]
                · rw [spA_o (by omega), oC _ _ (by omega) (by omega)]
              · refine op_bad (t := 2) (r := 0) h (by decide) ?_ ?_
                · unfold spg_L_addLevel
                  rw [(hc0 _).mpr ((if_neg n6).trans (if_neg cm))]
                  simp
                · rw [hm1, if_neg n6', if_neg (by rw [← hmin]; exact cm)]
                  exact add98b n' (Or.inr rfl)
          · refine bad1 ?_ (by rw [hm0, if_pos (Int32.not_lt.mp cg)]; unfold lp_X6_addLevel_62; rw [if_pos rfl])
            unfold sp_X5_addLevel
            rw [a1]
            simp only [Option.bind_some]
            rw [b1]
            simp only [Option.bind_some]
            rw [c1]
            simp only [Option.bind_some]
            rw [d1]
            simp only [Option.bind_some]
            rw [show σ.1 (rf 40 0) 4 = nI L from h4, pl_0 n hS.sh (by omega)]
            simp only [Option.bind_some]
            rw [if_pos (ok_0 (by omega)), p1, if_neg cg]
        · refine bad1 ?_ ?_
          · unfold sp_X5_addLevel
            rw [a1]
            simp only [Option.bind_some]
            rw [b1]
            simp only [Option.bind_some]
            rw [c1]
            simp only [Option.bind_some]
            rw [d1]
            rfl
          · unfold sp_X6_addLevel
            rw [a2]
            simp only [Option.bind_some]
            rw [if_neg (by decide), b2]
            simp only [Option.bind_some]
            rw [if_neg (by decide), c2]
            simp only [Option.bind_some]
            rw [if_neg (by decide), d2]
            simp only [Option.bind_some]
            rw [if_pos trivial]
            unfold lp_X6_addLevel_62
            rw [if_pos rfl]
      · refine bad1 ?_ ?_
        · unfold sp_X5_addLevel
          rw [a1]
          simp only [Option.bind_some]
          rw [b1]
          simp only [Option.bind_some]
          rw [c1]
          rfl
        · unfold sp_X6_addLevel
          rw [a2]
          simp only [Option.bind_some]
          rw [if_neg (by decide), b2]
          simp only [Option.bind_some]
          rw [if_neg (by decide), c2]
          simp only [Option.bind_some]
          rw [if_pos trivial]
          unfold lp_X6_addLevel_62
          rw [if_pos rfl]
    · refine bad1 ?_ ?_
      · unfold sp_X5_addLevel
        rw [a1]
        simp only [Option.bind_some]
        rw [b1]
        rfl
      · unfold sp_X6_addLevel
        rw [a2]
        simp only [Option.bind_some]
        rw [if_neg (by decide), b2]
        simp only [Option.bind_some]
        rw [if_pos trivial]
        unfold lp_X6_addLevel_62
        rw [if_pos rfl]
  · refine bad1 ?_ ?_
    · unfold sp_X5_addLevel
      rw [a1]
      rfl
    · unfold sp_X6_addLevel
      rw [a2]
      simp only [Option.bind_some]
      rw [if_pos trivial]
      unfold lp_X6_addLevel_62
      rw [if_pos rfl]
/-! one memory for both: first the class, then the model -/
theorem RX.fm {B : Nat} {σ τ τ' : Mem} (h : RX B σ τ) (e : ∀ a b, 40 ≤ a → a ≤ 48 → τ'.1 a b = τ.1 a b) : RX B σ τ' := h.to (Nat.le_refl _) (fun _ _ _ _ _ _ => rfl) (fun _ _ => rfl) (fun a b h1 h2 _ _ => e _ _ (by omega) (by omega))
theorem RX.both {B : Nat} {σ τ : Mem} (h : RX B σ τ) (hf : FM σ τ) : RX B τ τ := h.to (Nat.le_refl _) (fun a b h1 _ _ _ => hf.1 _ _ (by omega)) (fun a _ => by rw [hf.2]) (fun _ _ _ _ _ _ => rfl)
theorem join_G {B B' : Nat} {c d : Mem → Option (Int32 × Mem)} (hop : ∀ σ τ, RX B σ τ → OpG B' σ τ (c σ) (d τ)) {σ : Mem} (h : RX B σ σ) : ∃ t σ1 r σ2, c σ = some (t, σ1) ∧ d σ1 = some (r, σ2) ∧ σ2.1 41 14 = t ∧ (t = 0 → σ2.1 49 0 = r) ∧ RX B' σ2 σ2 := by
  obtain ⟨t, σ1, _, _, e1, -, -, -, -, f1, -⟩ := hop σ σ h
  obtain ⟨t', σ1', r, σ2, g1, g2, g3, g4, g5, -, g7⟩ := hop σ σ1 (h.fm f1.1)
  rw [e1] at g1
  obtain ⟨rfl, rfl⟩ := Prod.mk.inj (Option.some.inj g1)
  exact ⟨t, σ1, r, σ2, e1, g2, g3, fun e => by rw [g7.1 _ _ (by omega)]; exact g4 e, g5.both g7⟩
theorem join_N {B B' : Nat} {c d : Mem → Option (Int32 × Mem)} (hop : ∀ σ τ, RX B σ τ → OpN B' σ τ (c σ) (d τ)) {σ : Mem} (h : RX B σ σ) : ∃ r σ1 σ2, c σ = some (r, σ1) ∧ d σ1 = some (r, σ2) ∧ σ2.1 41 14 = 0 ∧ RX B' σ2 σ2 := by
  obtain ⟨t, σ1, _, e1, -, -, -, f1, -⟩ := hop σ σ h
  obtain ⟨t', σ1', σ2, g1, g2, g3, g5, -, g7⟩ := hop σ σ1 (h.fm f1.1)
  rw [e1] at g1
  obtain ⟨rfl, rfl⟩ := Prod.mk.inj (Option.some.inj g1)
  exact ⟨t, σ1, σ2, e1, g2, g3, g5.both g7⟩
theorem join_D {B B' : Nat} {c : Mem → Option (Int32 × Mem)} {d : Mem → Option ((Int32 × Int32) × Mem)} (hop : ∀ σ τ, RX B σ τ → OpD B' σ τ (c σ) (d τ)) {σ : Mem} (h : RX B σ σ) : ∃ t σ1 r σ2, c σ = some (t, σ1) ∧ d σ1 = some (r, σ2) ∧ σ2.1 41 14 = t ∧ (t = 0 → σ2.1 50 0 = r.1 ∧ σ2.1 50 1 = r.2 ∧ ¬ r.2 = 0) ∧ RX B' σ2 σ2 := by
  obtain ⟨t, σ1, _, _, e1, -, -, -, -, f1, -⟩ := hop σ σ h
  obtain ⟨t', σ1', r, σ2, g1, g2, g3, g4, g5, -, g7⟩ := hop σ σ1 (h.fm f1.1)
  rw [e1] at g1
  obtain ⟨rfl, rfl⟩ := Prod.mk.inj (Option.some.inj g1)
  exact ⟨t, σ1, r, σ2, e1, g2, g3, fun e => by rw [g7.1 _ _ (by omega), g7.1 _ _ (by omega)]; exact g4 e, g5.both g7⟩
