/-! PURE. the draw's words; a mean is no -1.0 -/
theorem two58 : (58 : Int32) = nI 58 := rfl
theorem some_ok (n : Nat) (σ : Mem) (v : Int32) {d : Nat} (hd : 0 < d) (hd2 : d ≤ 100000000) : ∃ r, r < d ∧ sp_L_some n σ v (nI d) = some (nI r, σ) := by
  have ed : (nI d).toInt = (d : Int) := nI_toInt (by omega)
  have hv1 := Int32.le_toInt v
  have hv2 := Int32.toInt_lt v
  have b1 : (v.toInt.tdiv d).natAbs ≤ v.toInt.natAbs := by
    rw [Int.natAbs_tdiv]
    exact Nat.div_le_self _ _
  have b2 : (v.toInt.tmod d).natAbs ≤ v.toInt.natAbs := by
    rw [Int.natAbs_tmod]
    exact Nat.mod_le _ _
  have b3 : (v.toInt.tmod d).natAbs < d := by
    rw [Int.natAbs_tmod]
    exact Nat.mod_lt _ hd
  have b5 : (v.toInt.tdiv d * d).natAbs ≤ v.toInt.natAbs := by
    rw [Int.natAbs_mul, Int.natAbs_tdiv]
    exact Nat.div_mul_le_self _ _
  have e0 := Int.tdiv_mul_add_tmod v.toInt d
  have key : (v - v / nI d * nI d).toInt = v.toInt.tmod d := by
    have q1 : (v / nI d).toInt = v.toInt.tdiv d := by
      rw [Int32.toInt_div, ed]
      by_cases h1 : d = 1
      · subst h1
        rw [show ((1 : Nat) : Int) = 1 from rfl, Int.tdiv_one]
        exact Int.bmod_eq_of_le (by omega) (by omega)
      · have b4 : 2 * (v.toInt.tdiv d).natAbs ≤ v.toInt.natAbs := by
          rw [Int.natAbs_tdiv]
          have := Nat.div_mul_le_self v.toInt.natAbs d
          have h2 : 2 ≤ d := by omega
          have h3 := Nat.mul_le_mul_left (v.toInt.natAbs / d) h2
          show 2 * (v.toInt.natAbs / d) ≤ _
          omega
        exact Int.bmod_eq_of_le (by omega) (by omega)
    have q2 : (v / nI d * nI d).toInt = v.toInt.tdiv d * d := by
      rw [Int32.toInt_mul, q1, ed]
      exact Int.bmod_eq_of_le (by omega) (by omega)
    rw [Int32.toInt_sub, q2, show v.toInt - v.toInt.tdiv d * d = v.toInt.tmod d by omega]
    exact Int.bmod_eq_of_le (by omega) (by omega)
  unfold sp_L_some
  rw [if_pos (show ¬ nI d = 0 from fun e => by rw [e] at ed; have : ((0 : Int32)).toInt = 0 := rfl; omega)]
  have z0 : ((0 : Int32)).toInt = 0 := rfl
  by_cases c : 0 ≤ v - v / nI d * nI d
  · rw [if_pos c]
    rw [Int32.le_iff_toInt_le, key, z0] at c
    refine ⟨(v.toInt.tmod d).toNat, by omega, ?_⟩
    rw [show v - v / nI d * nI d = nI (v.toInt.tmod d).toNat from Int32.toInt_inj.mp (by rw [key, nI_toInt (by omega)]; omega)]
  · rw [if_neg c]
    rw [Int32.le_iff_toInt_le, key, z0] at c
    refine ⟨(v.toInt.tmod d + d).toNat, by omega, ?_⟩
    rw [show v - v / nI d * nI d + nI d = nI (v.toInt.tmod d + d).toNat from Int32.toInt_inj.mp (by
      rw [Int32.toInt_add, key, ed, nI_toInt (by omega)]
      rw [show Int.bmod (v.toInt.tmod d + d) (2 ^ 32) = v.toInt.tmod d + d from Int.bmod_eq_of_le (by omega) (by omega)]
      omega)]
theorem dq_pos (S : Nat) (hS : S < 2 ^ 31) : ∃ c q, FP.Core.val64 (FP.i2d (nI S)) = .fin false c q ∧ (S ≠ 0 → c ≠ 0) := by
  obtain ⟨c', q', e1, e2⟩ := dq_fin false S (by omega)
  refine ⟨c', q', ?_, e2⟩
  rw [show FP.Core.val64 (FP.i2d (nI S)) = FP.Core.round FP.Core.b64 (FP.Core.ofInt (nI S).toInt) from FP.Core.val64_i2d _]
  rw [nI_toInt hS]
  unfold FP.Core.ofInt FP.Core.round
  rw [show (decide ((S : Int) < 0)) = false from decide_eq_false (by omega)]
  exact e1
theorem rr_sign (s : Bool) (c d : Nat) (e : Int) : (∃ x q, FP.Core.roundRatio FP.Core.b64 s c d e = .fin s x q) ∨ FP.Core.roundRatio FP.Core.b64 s c d e = .inf s := by
  unfold FP.Core.roundRatio
  split
  · exact Or.inl ⟨_, _, rfl⟩
  · unfold FP.Core.roundAt FP.Core.settle FP.Core.bound
    split <;> split
    · exact Or.inl ⟨_, _, rfl⟩
    · exact Or.inr rfl
    · exact Or.inl ⟨_, _, rfl⟩
    · exact Or.inr rfl
theorem dq_sign {S b : Nat} (hS : S < 2 ^ 31) (hb : b < 2 ^ 31) (hb0 : b ≠ 0) : (∃ x q, FP.Core.val64 (dq (nI S) (nI b)) = .fin false x q) ∨ FP.Core.val64 (dq (nI S) (nI b)) = .inf false := by
  obtain ⟨c, q, e1, -⟩ := dq_pos S hS
  obtain ⟨d, r, e2, e3⟩ := dq_pos b hb
  unfold dq
  rw [show FP.Core.val64 (FP.ddiv (FP.i2d (nI S)) (FP.i2d (nI b))) = FP.Core.quotient FP.Core.b64 (FP.Core.val64 (FP.i2d (nI S))) (FP.Core.val64 (FP.i2d (nI b))) from FP.Core.val64_ddiv _ _, e1, e2]
  unfold FP.Core.quotient
  simp only []
  rw [if_neg (e3 hb0)]
  exact rr_sign _ _ _ _
theorem val_m1 : FP.Core.val64 (dq (-1) 1) = .fin true (2 ^ 52) (-52) := by decide +kernel
theorem mean_ne {S b : Nat} (hS : S < 2 ^ 31) (hb : b < 2 ^ 31) (hb0 : b ≠ 0) : ¬ Op.cmpValue (FP.dcmp (dq (nI S) (nI b)) (dq (-1) 1)) .l = 0 := by
  have e : FP.dcmp (dq (nI S) (nI b)) (dq (-1) 1) = FP.Core.order (FP.Core.val64 (dq (nI S) (nI b))) (FP.Core.val64 (dq (-1) 1)) := rfl
  rw [e, val_m1]
  have h1 : FP.Core.order (FP.Core.val64 (dq (nI S) (nI b))) (.fin true (2 ^ 52) (-52)) = some .gt := by
    rcases dq_sign hS hb hb0 with ⟨x, q, ex⟩ | ex
    · rw [ex]
      show some (compare (FP.Core.signed false (FP.Core.inUnits x q (min q (-52)))) (FP.Core.signed true (FP.Core.inUnits (2 ^ 52) (-52) (min q (-52))))) = some .gt
      have hp : 0 < FP.Core.inUnits (2 ^ 52) (-52) (min q (-52)) := by
        unfold FP.Core.inUnits
        exact Nat.mul_pos (by decide) (Nat.two_pow_pos _)
      generalize FP.Core.inUnits (2 ^ 52) (-52) (min q (-52)) = y at hp
      generalize FP.Core.inUnits x q (min q (-52)) = z
      have : compare (FP.Core.signed false z) (FP.Core.signed true y) = .gt := by
        rw [Int.compare_eq_gt]
        show -(y : Int) < (z : Int)
        omega
      rw [this]
    · rw [ex]
      rfl
  rw [h1]
  decide
theorem mean_eq : Op.cmpValue (FP.dcmp (dq (-1) 1) (dq (-1) 1)) .l = 0 := by decide +kernel
section ME
variable {σ τ : Mem} {L N g n : Nat} {W : Nat → Nat} {u Q : Nat} {O : Int32}
theorem lp_meanS [Inhabited Bl] (hR : RR σ τ 0 L W u N Q) (hI : IV σ L g O) (hg : g ≤ 50000) (hL1 : 1 ≤ L) : ∀ (d k j S : Nat), j + d = L → d < k → S ≤ j * 50000000 → ∃ S', S' ≤ 300000000 ∧ lp_X5_meanShare_24 n 40 k σ (nI S) (nI (j + 1)) = some (.inl (nI S', nI L), σ) := by
  intro d
  have hL := hR.1.lv
  have h4 : σ.1 (rf 40 0) 4 = nI L := hR.1.c4
  induction d with
  | zero =>
    intro k j S hj hk hS
    obtain ⟨k, rfl⟩ : ∃ z, k = z + 1 := ⟨k - 1, by omega⟩
    refine ⟨S, by omega, ?_⟩
    rw [lp_X5_meanShare_24_s, h4, if_pos ((lt_nI (by omega) (by omega)).mpr (by omega)), if_pos (show ¬ nI L = 0 from fun e => by
      have := (eq_nI (a := L) (b := 0) (by omega) (by omega)).mp e
      omega)]
  | succ d ih =>
    intro k j S hj hk hS
    obtain ⟨k, rfl⟩ : ∃ z, k = z + 1 := ⟨k - 1, by omega⟩
    obtain ⟨z, z1, z2, z3, -⟩ := (hR.1.row (k := j + 1) (by omega) (by omega)).1
    obtain ⟨y, y1, y2⟩ := hI.2.2.1 (j + 1) (by omega)
    have esh : shC σ 0 (j + 1) = nI (1000 * y / z) := by
      unfold shC
      rw [z3, at0, y2, show (1000 : Int32) = nI 1000 from rfl, pk_mul, pk_div (by omega) (by omega) (by omega)]
    have hle : 1000 * y / z ≤ 50000000 := Nat.le_trans (Nat.div_le_self _ _) (by omega)
    obtain ⟨S', s1, s2⟩ := ih k (j + 1) (S + 1000 * y / z) (by omega) (by omega) (by omega)
    refine ⟨S', s1, ?_⟩
    have es := ev_share n z1 z2 z3
    rw [Nat.mul_zero, Nat.zero_add] at es
    rw [lp_X5_meanShare_24_s, h4, if_neg (by rw [lt_nI (by omega) (by omega)]; omega), pl_0 n hR.1.sh (by omega), Option.bind_some]
    dsimp only
    rw [if_pos (ok_0 (by omega)), es, Option.bind_some]
    dsimp only
    rw [esh, add_nI, add1_nI]
    exact s2
theorem x_mean [Inhabited Bl] (hn : 10 < n) (hR : RR σ τ 0 L W u N Q) (hI : IV σ L g O) (hg : g ≤ 50000) : ∃ r, sp_L_mean n σ 40 = some (r, σ) ∧ (Op.cmpValue (FP.dcmp (dq (r.1) (r.2)) (dq (-1) 1)) .l = 0 ↔ nI L = 0) := by
  have hL := hR.1.lv
  have h4 : σ.1 (rf 40 0) 4 = nI L := hR.1.c4
  unfold sp_L_mean sp_X5_meanShare
  rw [h4]
  by_cases c : L = 0
  · subst c
    rw [if_pos (show nI 0 = 0 from rfl)]
    exact ⟨(-1, 1), by simp, ⟨fun _ => rfl, fun _ => mean_eq⟩⟩
  · have c' : ¬ nI L = 0 := fun e => c ((eq_nI (a := L) (b := 0) (by omega) (by omega)).mp e)
    obtain ⟨S, s1, s2⟩ := lp_meanS (n := n) hR hI hg (by omega) L n 0 0 (by omega) (by omega) (by omega)
    rw [if_neg c', show lp_X5_meanShare_24 n 40 n σ 0 1 = some (.inl (nI S, nI L), σ) from s2]
    exact ⟨(nI S, nI L), rfl, ⟨fun e => absurd e (mean_ne (by omega) (by omega) c), fun e => absurd e c'⟩⟩
end ME
