/-! PURE. the invariant behind each step of the law -/
theorem at0 {σ : Mem} (k b : Nat) : σ.1 (10 * 0 + k) b = σ.1 k b := by rw [Nat.mul_zero, Nat.zero_add]
/-- where the text builder lies: no call moves it -/
def Bl : Type := Nat
def blv [h : Inhabited Bl] : Nat := h.default
/-- of the mine alone: depths grow; what comes in a minute; the gas; the ore in all; a load; the people above; limit; clock -/
def IV [Inhabited Bl] (σ : Mem) (L g : Nat) (O : Int32) : Prop :=
  (∀ k, 1 ≤ k → k ≤ L → ∃ d e, d < e ∧ e ≤ 210 * k ∧ σ.1 (k - 1) 0 = nI d ∧ σ.1 k 0 = nI e) ∧
  (∀ k, 1 ≤ k → k ≤ L → ∃ i, i ≤ 50 ∧ σ.1 k 3 = nI i) ∧
  (∀ k, k ≤ 6 → ∃ y, y ≤ g ∧ σ.1 k 7 = nI y) ∧
  oT σ 0 = O ∧ (∀ k, L < k → k ≤ 6 → σ.1 k 9 = 0) ∧ LD σ 0 ∧ SP σ 0 g ∧
  (∃ w, w ≤ 1000 ∧ σ.1 7 6 = nI w) ∧ (∃ c, c ≤ 5000 ∧ σ.1 7 8 = nI c) ∧ (σ.1 0 0 = 0 ∧ σ.2 40 2 = blv)
def INV [Inhabited Bl] (σ : Mem) (L N g : Nat) (O : Int32) : Prop := ∃ τ W u Q, RR σ τ 0 L W u N Q ∧ ShM σ 1 ∧ IV σ L g O
section INVS
variable {σ σ' σ1 τ τ' : Mem} {L L' N N' g g' n : Nat} {O O' : Int32}
theorem IV.mk' [Inhabited Bl] (h : IV σ L g O) (hg : g ≤ g') (e : ∀ k b, k ≤ 6 → (b = 0 ∨ b = 3 ∨ b = 7 ∨ b = 9) → σ'.1 k b = σ.1 k b) (e0 : σ'.1 8 0 = σ.1 8 0) (e2 : σ'.1 8 2 = σ.1 8 2) (hp : SP σ' 0 g') (h6 : ∃ w, w ≤ 1000 ∧ σ'.1 7 6 = nI w) (h8 : ∃ c, c ≤ 5000 ∧ σ'.1 7 8 = nI c) (hL : L ≤ 6) (e40 : σ'.2 40 2 = σ.2 40 2) : IV σ' L g' O := by
  obtain ⟨a1, a2, a3, a4, a5, a6, a7, a8, a9, a10⟩ := h
  refine ⟨fun k k1 k2 => ?_, fun k k1 k2 => ?_, fun k k1 => ?_, ?_, fun k k1 k2 => ?_, ?_, hp, h6, h8, ?_⟩
  · rw [e (k - 1) 0 (by omega) (by omega), e k 0 (by omega) (by omega)]
    exact a1 k k1 k2
  · rw [e k 3 (by omega) (by omega)]
    exact a2 k k1 k2
  · obtain ⟨y, y1, y2⟩ := a3 k k1
    exact ⟨y, by omega, (e k 7 (by omega) (by omega)).trans y2⟩
  · rw [← a4]
    exact oT_cong (m := 0) (m' := 0) (fun k hk => by rw [at0, at0]; exact e k 9 hk (by omega)) e0 e2
  · rw [e k 9 (by omega) (by omega)]
    exact a5 k k1 k2
  · exact LD.to (m := 0) e0 e2 a6
  · exact ⟨(e 0 0 (by omega) (by omega)).trans a10.1, e40.trans a10.2⟩
theorem IV.rd [Inhabited Bl] (h : IV σ L g O) (hg : g ≤ g') (e : ∀ k b, k ≤ 6 → (b = 0 ∨ b = 3 ∨ b = 7 ∨ b = 9) → σ'.1 k b = σ.1 k b) (e0 : σ'.1 8 0 = σ.1 8 0) (e2 : σ'.1 8 2 = σ.1 8 2) (ep : σ'.1 0 8 = σ.1 0 8) (e6 : σ'.1 7 6 = σ.1 7 6) (e8 : σ'.1 7 8 = σ.1 7 8) (hL : L ≤ 6) (e40 : σ'.2 40 2 = σ.2 40 2) : IV σ' L g' O :=
  h.mk' hg e e0 e2 (SP.to (m := 0) ep hg h.2.2.2.2.2.2.1) (by rw [e6]; exact h.2.2.2.2.2.2.2.1) (by rw [e8]; exact h.2.2.2.2.2.2.2.2.1) hL e40
theorem INV.lv [Inhabited Bl] (h : INV σ L N g O) : L ≤ 6 ∧ N < 90000 ∧ σ.1 7 4 = nI L ∧ σ.1 7 11 = nI N := by
  obtain ⟨τ, W, u, Q, hR, hs, hI⟩ := h
  exact ⟨hR.1.lv, hR.2.2.2.2.1.2.1, hR.1.c4, hR.2.2.1.2.2.2.1⟩
theorem INV.mono [Inhabited Bl] (h : INV σ L N g O) (hg : g ≤ g') : INV σ L N g' O := by
  have hL := h.lv.1
  obtain ⟨τ, W, u, Q, hR, hs, hI⟩ := h
  exact ⟨τ, W, u, Q, hR, hs, hI.rd hg (fun _ _ _ _ => rfl) rfl rfl rfl rfl rfl hL rfl⟩
theorem INV.of [Inhabited Bl] {B : Nat} (hX : RX B σ τ) (h4 : σ.1 7 4 = nI L) (hL : L ≤ 6) (h11 : σ.1 7 11 = nI N) (hN : N < 90000) (hI : IV σ L g O) : INV σ L N g O := by
  obtain ⟨L', W, u, N', Q, hR, h1, hN'⟩ := hX
  have e1 : nI L' = nI L := (show σ.1 7 4 = nI L' from hR.1.c4).symm.trans h4
  have e2 : nI N' = nI N := (show σ.1 7 11 = nI N' from hR.2.2.1.2.2.2.1).symm.trans h11
  have hL' := hR.1.lv
  have hN2 := hR.2.2.2.2.1.2.1
  obtain rfl := (eq_nI (by omega) (by omega)).mp e1
  obtain rfl := (eq_nI (by omega) (by omega)).mp e2
  exact ⟨τ, W, u, Q, hR, h1, hI⟩
theorem ckR [Inhabited Bl] {v lo hi : Nat} (h1 : lo ≤ v) (h2 : v ≤ hi) (hv : hi < 100000) (n : Nat) (σ : Mem) : sp_X5_checkRange n σ (nI v) (nI lo) (nI hi) = some (.inl (), σ) := by
  unfold sp_X5_checkRange
  rw [if_neg (by rw [lt_nI (by omega) (by omega)]; omega), if_pos ((le_nI (by omega) (by omega)).mpr h2)]
theorem opg_w [Inhabited Bl] {B : Nat} {t v : Int32} {c d : Option (Int32 × Mem)} (h : OpG B σ τ c d) (hc : c = some (t, wi σ1 49 0 v)) : ∃ τ', RX B σ1 τ' := by
  obtain ⟨t', σ', r, τ', e1, -, -, -, hX, -, -⟩ := h
  rw [hc] at e1
  cases e1
  exact ⟨τ', hX.to (Nat.le_refl _) (fun a b h1 _ _ _ => (wi_o (by omega)).symm) (fun _ _ => rfl) (fun _ _ _ _ _ _ => rfl)⟩
theorem w_limit [Inhabited Bl] {v : Nat} (h : INV σ L N g O) (h1 : 1 ≤ v) (h2 : v ≤ 1000) : ∃ w, w ≤ 1000 ∧ sp_L_sets n σ 40 108 (nI v) = some (nI w, wi σ 7 6 (nI v)) ∧ INV (wi σ 7 6 (nI v)) L N g O := by
  obtain ⟨hL, hN, h4, h11⟩ := h.lv
  obtain ⟨τ, W, u, Q, hR, hs, hI⟩ := h
  obtain ⟨w, w1, w2⟩ := hI.2.2.2.2.2.2.2.1
  have hX : sp_X5_setLimit n σ 40 (nI v) = some (.inl (nI w), wi σ 7 6 (nI v)) := by
    unfold sp_X5_setLimit
    rw [show sp_X5_checkRange n σ (nI v) 1 1000 = some (.inl (), σ) from ckR h1 h2 (by omega) n σ]
    simp only [Option.bind_some, lm]
    rw [show σ.1 (rf 40 0) 6 = nI w from w2]
    rfl
  obtain ⟨τ', hX'⟩ := opg_w (op_setLimit (n := n) (n' := 0) (nI v) ⟨L, W, u, N, Q, hR, hs, Nat.le_refl N⟩) (σ1 := wi σ 7 6 (nI v)) (t := 0) (v := nI w) (by unfold spg_L_setLimit; rw [hX]; rfl)
  refine ⟨w, w1, ?_, INV.of hX' (by rw [wi_o (by omega)]; exact h4) hL (by rw [wi_o (by omega)]; exact h11) hN (hI.mk' (Nat.le_refl g) (fun k b k1 hb => wi_o (by omega)) (wi_o (by omega)) (wi_o (by omega)) (SP.to (m := 0) (wi_o (by omega)) (Nat.le_refl g) hI.2.2.2.2.2.2.1) ⟨v, h2, wi_eq rfl rfl⟩ (by rw [wi_o (by omega)]; exact hI.2.2.2.2.2.2.2.2.1) hL rfl)⟩
  unfold sp_L_sets
  rw [if_neg (by decide), if_pos rfl, hX]
  rfl
theorem w_speed [Inhabited Bl] {v : Nat} (h : INV σ L N g O) (h1 : 10 ≤ v) (h2 : v ≤ 500) : ∃ w, w ≤ 1000 ∧ sp_L_sets n σ 40 115 (nI v) = some (nI w, wi σ 7 7 (nI v)) ∧ INV (wi σ 7 7 (nI v)) L N g O := by
  obtain ⟨hL, hN, h4, h11⟩ := h.lv
  obtain ⟨τ, W, u, Q, hR, hs, hI⟩ := h
  obtain ⟨w, w0, w1, w2, -⟩ := hR.1.spd
  have hX : sp_X5_setSpeed n σ 40 (nI v) = some (.inl (nI w), wi σ 7 7 (nI v)) := by
    unfold sp_X5_setSpeed
    rw [show sp_X5_checkRange n σ (nI v) 10 500 = some (.inl (), σ) from ckR h1 h2 (by omega) n σ]
    simp only [Option.bind_some, lm]
    rw [show σ.1 (rf 40 0) 7 = nI w from w2]
    rfl
  obtain ⟨τ', hX'⟩ := opg_w (op_setSpeed (n := n) (n' := 0) (nI v) ⟨L, W, u, N, Q, hR, hs, Nat.le_refl N⟩) (σ1 := wi σ 7 7 (nI v)) (t := 0) (v := nI w) (by unfold spg_L_setSpeed; rw [hX]; rfl)
  refine ⟨w, by omega, ?_, INV.of hX' (by rw [wi_o (by omega)]; exact h4) hL (by rw [wi_o (by omega)]; exact h11) hN (hI.rd (Nat.le_refl g) (fun k b k1 hb => wi_o (by omega)) (wi_o (by omega)) (wi_o (by omega)) (wi_o (by omega)) (wi_o (by omega)) (wi_o (by omega)) hL rfl)⟩
  unfold sp_L_sets
  rw [if_neg (by decide), if_neg (by decide), hX]
  rfl
theorem w_fan [Inhabited Bl] (hn : 10 < n) {v : Nat} (h : INV σ L N g O) (h2 : v ≤ 1000) : ∃ u σ1, u ≤ 1000 ∧ σ.1 7 5 = nI u ∧ sp_L_sets n σ 40 102 (nI v) = some (nI u, σ1) ∧ INV σ1 L N g O ∧ σ1.1 7 5 = nI v := by
  obtain ⟨hL, hN, h4, h11⟩ := h.lv
  obtain ⟨τ, W, u, Q, hR, hs, hI⟩ := h
  obtain ⟨a1, a2, a3, a4, a5, a6, a7, a8, a9, a10, a11, a12, a13, a14⟩ := id hR.1
  have e7 : (wi σ 7 5 (nI v)).1 7 4 = nI L := by rw [wi_o (by omega)]; exact a3
  have eW : NW (wi σ 7 5 (nI v)) 0 L W := fun k k1 k2 => by
    rw [owC_cong (σ := σ) (wi_o (by omega)) (wi_o (by omega))]
    exact a5 k k1 k2
  have hX : sp_X5_setFan n σ 40 (nI v) = some (.inl (nI u), spA (wi σ 7 5 (nI v)) 0 L W v L) := by
    unfold sp_X5_setFan
    rw [show sp_X5_checkRange n σ (nI v) 0 1000 = some (.inl (), σ) from ckR (Nat.zero_le v) h2 (by omega) n σ]
    simp only [Option.bind_some, lm]
    rw [show rf 40 0 = 7 from rfl, show sp_X1_spreadAir n (wi σ 7 5 (nI v)) 7 = some ((), spA (wi σ 7 5 (nI v)) 0 L W v L) from ev_spread0 hn (a1.to rfl) e7 hL eW h2 (wi_eq rfl rfl)]
    simp only [Option.bind_some]
    rw [show σ.1 7 5 = nI u from a8]
  obtain ⟨τ', hX'⟩ := opg_w (op_setFan (n := n) (n' := 0) hn (nI v) ⟨L, W, u, N, Q, hR, hs, Nat.le_refl N⟩) (σ1 := spA (wi σ 7 5 (nI v)) 0 L W v L) (t := 0) (v := nI u) (by unfold spg_L_setFan; rw [hX]; rfl)
  have o : ∀ a b, b ≠ 5 → (spA (wi σ 7 5 (nI v)) 0 L W v L).1 a b = σ.1 a b := fun a b hb => by rw [spA_o (by omega), wi_o (by omega)]
  refine ⟨u, _, a7, a8, ?_, INV.of hX' (by rw [o _ _ (by omega)]; exact h4) hL (by rw [o _ _ (by omega)]; exact h11) hN (hI.rd (Nat.le_refl g) (fun k b k1 hb => o _ _ (by omega)) (o _ _ (by omega)) (o _ _ (by omega)) (o _ _ (by omega)) (o _ _ (by omega)) (o _ _ (by omega)) hL (by rw [spA_2]; rfl)), ?_⟩
  · unfold sp_L_sets
    rw [if_pos rfl, hX]
    rfl
  · rw [spA_o (by omega), wi_eq rfl rfl]
theorem w_door [Inhabited Bl] (hn : 10 < n) {a b : Int32} (hb : b = 0 ∨ b = 1) (h : INV σ L N g O) : (noL L a ∧ sp_L_door n σ 40 a b = some (-1001, σ)) ∨ ∃ r σ1, (r = 0 ∨ r = 1) ∧ sp_L_door n σ 40 a b = some (r, σ1) ∧ INV σ1 L N g O := by
  obtain ⟨hL, hN, h4, h11⟩ := h.lv
  obtain ⟨τ, W, u, Q, hR, hs, hI⟩ := h
  have hS := hR.1
  rcases lvl_or1 L hL a with ⟨k, hk1, hk, rfl⟩ | hbad
  · right
    obtain ⟨a1, a2, a3, a4, a5, a6, a7, a8, a9, a10, a11, a12, a13, a14⟩ := id hS
    obtain ⟨-, -, ⟨w, w1, w2, w3, w4⟩, rd, -⟩ := a13 k hk1 hk
    have rb := a14 k (by omega)
    rw [Nat.mul_zero, Nat.zero_add] at w3 rd rb
    have e7 : (wi σ k 4 b).1 7 4 = nI L := by rw [wi_o (by omega)]; exact a3
    have eW : NW (wi σ k 4 b) 0 L (fun i => if i = k then (if b = 0 then 0 else w) else W i) := fun i i1 i2 => by
      by_cases e : i = k
      · subst e
        simp only [if_pos]
        unfold owC
        rw [show 10 * 0 + i = i by omega, wi_eq rfl rfl, wi_o (by omega), w3]
        by_cases e0 : b = 0
        · rw [if_pos e0, if_pos e0]
          exact ⟨rfl, by omega⟩
        · rw [if_neg e0, if_neg e0]
          exact ⟨rfl, by omega⟩
      · simp only [if_neg e]
        rw [owC_cong (σ := σ) (wi_o (by omega)) (wi_o (by omega))]
        exact a5 i i1 i2
    have hX : sp_X5_setDoor n σ 40 (nI k) b = some (.inl (σ.1 k 4), spA (wi σ k 4 b) 0 L (fun i => if i = k then (if b = 0 then 0 else w) else W i) u L) := by
      unfold sp_X5_setDoor
      rw [ckL_ok n a3 hL hk1 hk]
      simp only [Option.bind_some]
      rw [pl_0 n a1 (by omega)]
      simp only [Option.bind_some]
      rw [if_pos (ok_0 (by omega)), if_pos hb]
      simp only [lm]
      rw [ev_spread0 hn (show ShM (wi σ k 4 b) 0 from a1.to rfl) e7 hL eW a7 (by rw [wi_o (by omega)]; exact a8)]
      simp only [Option.bind_some]
      rw [if_pos rb]
    generalize hσ1 : spA (wi σ k 4 b) 0 L (fun i => if i = k then (if b = 0 then 0 else w) else W i) u L = σ1 at hX
    have o : ∀ a' b', b' ≠ 5 → b' ≠ 4 → σ1.1 a' b' = σ.1 a' b' := fun a' b' hb' hb4 => by rw [← hσ1, spA_o (by omega), wi_o (by omega)]
    obtain ⟨τ', hX'⟩ := opg_w (op_setDoor (n := n) (n' := 0) hn (nI k) b hb ⟨L, W, u, N, Q, hR, hs, Nat.le_refl N⟩) (σ1 := σ1) (t := 0) (v := σ.1 k 4) (by unfold spg_L_setDoor; rw [hX]; rcases rb with e | e <;> rw [e] <;> rfl)
    refine ⟨σ.1 k 4, σ1, rb, ?_, INV.of hX' ?_ hL (by rw [o _ _ (by omega) (by omega)]; exact h11) hN (hI.rd (Nat.le_refl g) (fun k b k1 hb => o _ _ (by omega) (by omega)) (o _ _ (by omega) (by omega)) (o _ _ (by omega) (by omega)) (o _ _ (by omega) (by omega)) (o _ _ (by omega) (by omega)) (o _ _ (by omega) (by omega)) hL (by rw [← hσ1, spA_2]; rfl))⟩
    · unfold sp_L_door
      rw [hX]
      simp only [Option.bind_some]
      rcases rb with e | e <;> rw [e] <;> rfl
    · rw [← hσ1, spA_o (by omega)]
      exact e7
  · left
    refine ⟨hbad, ?_⟩
    unfold sp_L_door sp_X5_setDoor
    rw [ckL_bad n hS.c4 hbad]
    simp
theorem w_hire [Inhabited Bl] (hn : 10 < n) {c : Nat} (h : INV σ L N g O) (h1 : 1 ≤ c) (h2 : c ≤ 99) (hg : g ≤ 50000) : sp_L_hire n σ 40 (nI c) = some (-1002, σ) ∨ ∃ p σ1, p ≤ 60000 ∧ sp_L_hire n σ 40 (nI c) = some (nI p, σ1) ∧ INV σ1 L N (g + c) O := by
  obtain ⟨hL, hN, h4, h11⟩ := h.lv
  obtain ⟨τ, W, u, Q, hR, hs, hI⟩ := h
  have c1 := ckR (v := c) (lo := 1) (hi := 99) h1 h2 (by omega) n σ
  obtain ⟨p, p1, p2⟩ := hI.2.2.2.2.2.2.1
  have p2 : σ.1 0 8 = nI p := p2
  by_cases c5 : τ.1 41 10 + nI c ≤ 200
  · right
    have hX : sp_X5_hire n σ 40 (nI c) = some (.inl (nI (p + c)), wi σ 0 8 (nI (p + c))) := by
      unfold sp_X5_hire
      rw [show sp_X5_checkRange n σ (nI c) 1 99 = some (.inl (), σ) from c1]
      simp only [Option.bind_some]
      rw [show rf 40 0 = 7 from rfl, ev_allPeople hn hR]
      simp only [Option.bind_some]
      rw [if_pos c5, show rf 7 0 = 0 from rfl]
      simp only [lm]
      rw [wi_eq rfl rfl, p2, add_nI]
    obtain ⟨τ', hX'⟩ := opg_w (op_hire (n := n) (n' := 0) hn (nI c) ⟨L, W, u, N, Q, hR, hs, Nat.le_refl N⟩) (σ1 := wi σ 0 8 (nI (p + c))) (t := 0) (v := nI (p + c)) (by unfold spg_L_hire; rw [hX]; rfl)
    refine ⟨p + c, _, by omega, ?_, INV.of hX' (by rw [wi_o (by omega)]; exact h4) hL (by rw [wi_o (by omega)]; exact h11) hN (hI.mk' (by omega) (fun k b k1 hb => wi_o (by omega)) (wi_o (by omega)) (wi_o (by omega)) ⟨p + c, by omega, wi_eq rfl rfl⟩ (by rw [wi_o (by omega)]; exact hI.2.2.2.2.2.2.2.1) (by rw [wi_o (by omega)]; exact hI.2.2.2.2.2.2.2.2.1) hL rfl)⟩
    unfold sp_L_hire
    rw [hX]
    rfl
  · left
    unfold sp_L_hire sp_X5_hire
    rw [show sp_X5_checkRange n σ (nI c) 1 99 = some (.inl (), σ) from c1]
    simp only [Option.bind_some]
    rw [show rf 40 0 = 7 from rfl, ev_allPeople hn hR]
    simp only [Option.bind_some]
    rw [if_neg c5]
    simp
end INVS
