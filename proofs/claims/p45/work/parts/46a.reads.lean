/-! PURE. what the reads answer, over a related memory: the memory stays -/
section READS
variable {σ τ : Mem} {L : Nat} {W : Nat → Nat} {u N Q : Nat}
theorem x_levelCount (n : Nat) (h : RR σ τ 0 L W u N Q) : sp_X5_levelCount n σ 40 = some (nI L, σ) := by
  unfold sp_X5_levelCount
  rw [show σ.1 (rf 40 0) 4 = nI L from h.1.c4]
theorem x_gasTotal (n : Nat) (σ : Mem) : sp_X5_gasTotal n σ 40 = some (σ.1 7 9, σ) := rfl
theorem x_ventedTotal (n : Nat) (σ : Mem) : sp_X5_ventedTotal n σ 40 = some (σ.1 7 10, σ) := rfl
theorem x_clock (n : Nat) (σ : Mem) : sp_X5_clock n σ 40 = some (σ.1 7 8, σ) := rfl
theorem x_cageLevel (n : Nat) (σ : Mem) : sp_X5_cageLevel n σ 40 = some (σ.1 7 12, σ) := rfl
theorem x_doneCount (n : Nat) (σ : Mem) : sp_X5_doneCount n σ 40 = some (σ.1 7 13, σ) := rfl
theorem x_droppedCount (n : Nat) (σ : Mem) : sp_X5_droppedCount n σ 40 = some (σ.1 7 14, σ) := rfl
theorem x_waitingCount (n : Nat) (h : RR σ τ 0 L W u N Q) : sp_X5_waitingCount n σ 40 = some (nI Q, σ) := by
  unfold sp_X5_waitingCount
  rw [show σ.1 (rf (rf 40 0) 2) 1 = nI Q from h.2.2.2.2.1.2.2.1]
theorem x_tripKind (n : Nat) (h : RR σ τ 0 L W u N Q) : sp_X5_tripKind n σ 40 = some (σ.1 8 0, σ) := by
  have hk : σ.1 8 0 = 45 ∨ kd4 (σ.1 8 0) := h.2.2.2.1.2.2.1
  unfold sp_X5_tripKind
  rw [show rf (rf 40 0) 3 = 8 from rfl, if_pos (kd_ch hk)]
theorem x_peopleTotal {n : Nat} (hn : 10 < n) (h : RR σ τ 0 L W u N Q) : sp_X5_peopleTotal n σ 40 = some (τ.1 41 10, σ) := by
  unfold sp_X5_peopleTotal
  rw [show rf 40 0 = 7 from rfl, ev_allPeople hn h]
  rfl
theorem x_depthOf (n : Nat) (h : RR σ τ 0 L W u N Q) {k : Nat} (hk : k ≤ L) : sp_X5_depthOf n σ 40 (nI k) = some (.inl (σ.1 k 0), σ) := by
  have hL := h.1.lv
  unfold sp_X5_depthOf
  rw [ckP_ok n h.1.c4 hL hk]
  simp only [Option.bind_some]
  rw [pl_0 n h.1.sh (by omega)]
  simp only [Option.bind_some]
  rw [if_pos (ok_0 (by omega))]
theorem x_depthOf_bad (n : Nat) (h : RR σ τ 0 L W u N Q) {a : Int32} (hb : a < 0 ∨ (¬ a < 0 ∧ nI L < a)) : sp_X5_depthOf n σ 40 a = some (.inr "java/lang/IndexOutOfBoundsException", σ) := by
  unfold sp_X5_depthOf
  rw [ckP_bad n h.1.c4 hb]
  rfl
theorem x_peopleAt (n : Nat) (h : RR σ τ 0 L W u N Q) {k : Nat} (hk : k ≤ L) : sp_X5_peopleAt n σ 40 (nI k) = some (.inl (σ.1 k 8), σ) := by
  have hL := h.1.lv
  unfold sp_X5_peopleAt
  rw [ckP_ok n h.1.c4 hL hk]
  simp only [Option.bind_some]
  rw [pl_0 n h.1.sh (by omega)]
  simp only [Option.bind_some]
  rw [if_pos (ok_0 (by omega))]
theorem x_peopleAt_bad (n : Nat) (h : RR σ τ 0 L W u N Q) {a : Int32} (hb : a < 0 ∨ (¬ a < 0 ∧ nI L < a)) : sp_X5_peopleAt n σ 40 a = some (.inr "java/lang/IndexOutOfBoundsException", σ) := by
  unfold sp_X5_peopleAt
  rw [ckP_bad n h.1.c4 hb]
  rfl
theorem x_oreAt (n : Nat) (h : RR σ τ 0 L W u N Q) {k : Nat} (hk : k ≤ L) : sp_X5_oreAt n σ 40 (nI k) = some (.inl (σ.1 k 9), σ) := by
  have hL := h.1.lv
  unfold sp_X5_oreAt
  rw [ckP_ok n h.1.c4 hL hk]
  simp only [Option.bind_some]
  rw [pl_0 n h.1.sh (by omega)]
  simp only [Option.bind_some]
  rw [if_pos (ok_0 (by omega))]
theorem x_oreAt_bad (n : Nat) (h : RR σ τ 0 L W u N Q) {a : Int32} (hb : a < 0 ∨ (¬ a < 0 ∧ nI L < a)) : sp_X5_oreAt n σ 40 a = some (.inr "java/lang/IndexOutOfBoundsException", σ) := by
  unfold sp_X5_oreAt
  rw [ckP_bad n h.1.c4 hb]
  rfl
theorem x_airOf (n : Nat) (h : RR σ τ 0 L W u N Q) {k : Nat} (hk1 : 1 ≤ k) (hk : k ≤ L) : sp_X5_airOf n σ 40 (nI k) = some (.inl (σ.1 k 5), σ) := by
  have hL := h.1.lv
  unfold sp_X5_airOf
  rw [ckL_ok n h.1.c4 hL hk1 hk]
  simp only [Option.bind_some]
  rw [pl_0 n h.1.sh (by omega)]
  simp only [Option.bind_some]
  rw [if_pos (ok_0 (by omega))]
theorem x_gasOf (n : Nat) (h : RR σ τ 0 L W u N Q) {k : Nat} (hk1 : 1 ≤ k) (hk : k ≤ L) : sp_X5_gasOf n σ 40 (nI k) = some (.inl (σ.1 k 7), σ) := by
  have hL := h.1.lv
  unfold sp_X5_gasOf
  rw [ckL_ok n h.1.c4 hL hk1 hk]
  simp only [Option.bind_some]
  rw [pl_0 n h.1.sh (by omega)]
  simp only [Option.bind_some]
  rw [if_pos (ok_0 (by omega))]
theorem x_isAlarm (n : Nat) (h : RR σ τ 0 L W u N Q) {k : Nat} (hk1 : 1 ≤ k) (hk : k ≤ L) : sp_X5_isAlarm n σ 40 (nI k) = some (.inl (alC σ 0 k), σ) := by
  have hL := h.1.lv
  have g := h.1.alarm n hk1 hk
  rw [Nat.mul_zero, Nat.zero_add, Nat.zero_add] at g
  unfold sp_X5_isAlarm
  rw [ckL_ok n h.1.c4 hL hk1 hk]
  simp only [Option.bind_some]
  rw [pl_0 n h.1.sh (by omega)]
  simp only [Option.bind_some]
  rw [if_pos (ok_0 (by omega)), show sp_X1_hasAlarm n σ (rf 40 0) k = some (alC σ 0 k, σ) from g]
  simp only [Option.bind_some]
  rw [if_pos (alC_or σ 0 k)]
theorem x_isClosed (n : Nat) (h : RR σ τ 0 L W u N Q) {k : Nat} (hk1 : 1 ≤ k) (hk : k ≤ L) : sp_X5_isClosed n σ 40 (nI k) = some (.inl (cdC σ 0 k), σ) := by
  have hL := h.1.lv
  have g := ev_isShut n σ 0 k
  rw [Nat.mul_zero, Nat.zero_add, Nat.zero_add] at g
  unfold sp_X5_isClosed
  rw [ckL_ok n h.1.c4 hL hk1 hk]
  simp only [Option.bind_some]
  rw [pl_0 n h.1.sh (by omega)]
  simp only [Option.bind_some]
  rw [if_pos (ok_0 (by omega)), show sp_X1_isShut n σ (rf 40 0) k = some (cdC σ 0 k, σ) from g]
  simp only [Option.bind_some]
  rw [if_pos (cdC_or σ 0 k)]
theorem x_airOf_bad (n : Nat) (h : RR σ τ 0 L W u N Q) {a : Int32} (hb : noL L a) : sp_X5_airOf n σ 40 a = some (.inr "java/lang/IndexOutOfBoundsException", σ) := by
  unfold sp_X5_airOf
  rw [ckL_bad n h.1.c4 hb]
  rfl
theorem x_gasOf_bad (n : Nat) (h : RR σ τ 0 L W u N Q) {a : Int32} (hb : noL L a) : sp_X5_gasOf n σ 40 a = some (.inr "java/lang/IndexOutOfBoundsException", σ) := by
  unfold sp_X5_gasOf
  rw [ckL_bad n h.1.c4 hb]
  rfl
theorem x_isAlarm_bad (n : Nat) (h : RR σ τ 0 L W u N Q) {a : Int32} (hb : noL L a) : sp_X5_isAlarm n σ 40 a = some (.inr "java/lang/IndexOutOfBoundsException", σ) := by
  unfold sp_X5_isAlarm
  rw [ckL_bad n h.1.c4 hb]
  rfl
theorem x_isClosed_bad (n : Nat) (h : RR σ τ 0 L W u N Q) {a : Int32} (hb : noL L a) : sp_X5_isClosed n σ 40 a = some (.inr "java/lang/IndexOutOfBoundsException", σ) := by
  unfold sp_X5_isClosed
  rw [ckL_bad n h.1.c4 hb]
  rfl
theorem x_airByPaths_bad (n : Nat) (h : RR σ τ 0 L W u N Q) {a : Int32} (hb : noL L a) : sp_X5_airByPaths n σ 40 a = some (.inr "java/lang/IndexOutOfBoundsException", σ) := by
  unfold sp_X5_airByPaths
  rw [ckL_bad n h.1.c4 hb]
  rfl
theorem x_gasShare_bad (n : Nat) (h : RR σ τ 0 L W u N Q) {a : Int32} (hb : noL L a) : sp_X5_gasShare n σ 40 a = some (.inr "java/lang/IndexOutOfBoundsException", σ) := by
  unfold sp_X5_gasShare
  rw [ckL_bad n h.1.c4 hb]
  rfl
theorem x_minutesToAlarm_bad (n : Nat) (h : RR σ τ 0 L W u N Q) {a : Int32} (hb : noL L a) : sp_X5_minutesToAlarm n σ 40 a = some (.inr "java/lang/IndexOutOfBoundsException", σ) := by
  unfold sp_X5_minutesToAlarm
  rw [ckL_bad n h.1.c4 hb]
  rfl
theorem x_waitingAt (n : Nat) (h : RR σ τ 0 L W u N Q) {p : Nat} (hp : p < Q) : sp_X5_waitingAt n σ 40 (nI p) = some (.inl (σ.1 (rw_ σ 0 p) 0), σ) := by
  obtain ⟨q1, q2, q3, -⟩ := h.2.2.2.2.1
  have q3' : σ.1 (rf (rf 40 0) 2) 1 = nI Q := q3
  unfold sp_X5_waitingAt
  rw [if_neg (not_neg (by omega)), q3', if_pos ((lt_nI (by omega) (by omega)).mpr hp), show sp_X4_numberAt n σ (rf (rf 40 0) 2) (nI p) = some (σ.1 (rw_ σ 0 p) 0, σ) from ev_numberAt n h.1.sh (by omega)]
  rfl
theorem x_waitingAt_bad (n : Nat) (h : RR σ τ 0 L W u N Q) {a : Int32} (hb : a < 0 ∨ a = nI Q) : sp_X5_waitingAt n σ 40 a = some (.inr "java/lang/IndexOutOfBoundsException", σ) := by
  obtain ⟨q1, q2, q3, -⟩ := h.2.2.2.2.1
  have q3' : σ.1 (rf (rf 40 0) 2) 1 = nI Q := q3
  unfold sp_X5_waitingAt
  by_cases c0 : a < 0
  · rw [if_pos c0]
  · rw [if_neg c0, q3', if_neg (by rw [hb.resolve_left c0]; exact Int32.lt_irrefl)]
theorem x_tripLevel (n : Nat) (h : RR σ τ 0 L W u N Q) (c : ¬ σ.1 8 0 = 45) : sp_X5_tripLevel n σ 40 = some (.inl (σ.1 8 1), σ) := by
  unfold sp_X5_tripLevel
  rw [ckT_on n c]
  rfl
theorem x_tripLevel_bad (n : Nat) (h : RR σ τ 0 L W u N Q) (c : σ.1 8 0 = 45) : sp_X5_tripLevel n σ 40 = some (.inr "java/util/NoSuchElementException", σ) := by
  unfold sp_X5_tripLevel
  rw [ckT_off n c]
  rfl
theorem x_tripLoad (n : Nat) (h : RR σ τ 0 L W u N Q) (c : ¬ σ.1 8 0 = 45) : sp_X5_tripLoad n σ 40 = some (.inl (σ.1 8 2), σ) := by
  unfold sp_X5_tripLoad
  rw [ckT_on n c]
  rfl
theorem x_tripLoad_bad (n : Nat) (h : RR σ τ 0 L W u N Q) (c : σ.1 8 0 = 45) : sp_X5_tripLoad n σ 40 = some (.inr "java/util/NoSuchElementException", σ) := by
  unfold sp_X5_tripLoad
  rw [ckT_off n c]
  rfl
theorem x_tripRest (n : Nat) (h : RR σ τ 0 L W u N Q) (c : ¬ σ.1 8 0 = 45) : sp_X5_tripRest n σ 40 = some (.inl (σ.1 8 3), σ) := by
  unfold sp_X5_tripRest
  rw [ckT_on n c]
  rfl
theorem x_tripRest_bad (n : Nat) (h : RR σ τ 0 L W u N Q) (c : σ.1 8 0 = 45) : sp_X5_tripRest n σ 40 = some (.inr "java/util/NoSuchElementException", σ) := by
  unfold sp_X5_tripRest
  rw [ckT_off n c]
  rfl
/-- who is in danger -/
def enS (σ : Mem) (L : Nat) : Int32 := acc 0 (fun k => if alC σ 0 k = 0 then 0 else σ.1 k 8) L
theorem lp_end (n : Nat) (h : RR σ τ 0 L W u N Q) : ∀ (d k j : Nat), j + d = L → d < k → lp_X5_endangered_4 n 40 k σ (enS σ j) (nI (j + 1)) = some (enS σ L, σ) := by
  intro d
  have hL := h.1.lv
  have h4 : σ.1 (rf 40 0) 4 = nI L := h.1.c4
  induction d with
  | zero =>
    intro k j hj hk
    obtain ⟨k, rfl⟩ : ∃ z, k = z + 1 := ⟨k - 1, by omega⟩
    rw [lp_X5_endangered_4_s, h4, if_pos ((lt_nI (by omega) (by omega)).mpr (by omega)), show j = L by omega]
  | succ d ih =>
    intro k j hj hk
    obtain ⟨k, rfl⟩ : ∃ z, k = z + 1 := ⟨k - 1, by omega⟩
    have g := h.1.alarm n (k := j + 1) (by omega) (by omega)
    rw [Nat.mul_zero, Nat.zero_add, Nat.zero_add] at g
    have e : enS σ (j + 1) = enS σ j + (if alC σ 0 (j + 1) = 0 then 0 else σ.1 (j + 1) 8) := rfl
    have ih' := ih k (j + 1) (by omega) (by omega)
    rw [lp_X5_endangered_4_s, h4, if_neg (by rw [lt_nI (by omega) (by omega)]; omega), pl_0 n h.1.sh (by omega)]
    simp only [Option.bind_some]
    rw [if_pos (ok_0 (by omega)), show sp_X1_hasAlarm n σ (rf 40 0) (j + 1) = some (alC σ 0 (j + 1), σ) from g]
    simp only [Option.bind_some]
    rw [add1_nI]
    by_cases c : alC σ 0 (j + 1) = 0
    · rw [if_pos c]
      rw [e, if_pos c, Int32.add_zero] at ih'
      exact ih'
    · rw [if_neg c]
      rw [e, if_neg c] at ih'
      exact ih'
theorem x_endangered {n : Nat} (hn : 10 < n) (h : RR σ τ 0 L W u N Q) : sp_X5_endangered n σ 40 = some (enS σ L, σ) := by
  have hL := h.1.lv
  exact lp_end n h L n 0 (by omega) (by omega)
/-! the law's own reads -/
theorem of_0 (n : Nat) (h : RR σ τ 0 L W u N Q) {k : Nat} (hk : k ≤ L) : sp_L_of n σ 40 (nI k) 0 = some (σ.1 k 0, σ) := by
  unfold sp_L_of
  rw [if_pos rfl, x_depthOf n h hk]
  rfl
theorem of_1 (n : Nat) (h : RR σ τ 0 L W u N Q) {k : Nat} (hk1 : 1 ≤ k) (hk : k ≤ L) : sp_L_of n σ 40 (nI k) 1 = some (σ.1 k 5, σ) := by
  unfold sp_L_of
  rw [if_neg (by decide), if_pos rfl, x_airOf n h hk1 hk]
  rfl
theorem of_3 (n : Nat) (h : RR σ τ 0 L W u N Q) {k : Nat} (hk1 : 1 ≤ k) (hk : k ≤ L) : sp_L_of n σ 40 (nI k) 3 = some (σ.1 k 7, σ) := by
  unfold sp_L_of
  rw [if_neg (by decide), if_neg (by decide), if_neg (by decide), if_pos rfl, x_gasOf n h hk1 hk]
  rfl
theorem of_5 (n : Nat) (h : RR σ τ 0 L W u N Q) {k : Nat} (hk1 : 1 ≤ k) (hk : k ≤ L) : sp_L_of n σ 40 (nI k) 5 = some (alC σ 0 k, σ) := by
  unfold sp_L_of
  rw [if_neg (by decide), if_neg (by decide), if_neg (by decide), if_neg (by decide), if_neg (by decide), if_pos rfl, x_isAlarm n h hk1 hk]
  simp only [Option.bind_some]
  rcases alC_or σ 0 k with e | e <;> rw [e] <;> rfl
theorem of_9 (n : Nat) (h : RR σ τ 0 L W u N Q) {k : Nat} (hk1 : 1 ≤ k) (hk : k ≤ L) : sp_L_of n σ 40 (nI k) 9 = some (cdC σ 0 k, σ) := by
  unfold sp_L_of
  rw [if_neg (by decide), if_neg (by decide), if_neg (by decide), if_neg (by decide), if_neg (by decide), if_neg (by decide), if_neg (by decide), if_neg (by decide), if_neg (by decide), x_isClosed n h hk1 hk]
  simp only [Option.bind_some]
  rcases cdC_or σ 0 k with e | e <;> rw [e] <;> rfl
theorem of_7 (n : Nat) (h : RR σ τ 0 L W u N Q) {k : Nat} (hk : k ≤ L) : sp_L_of n σ 40 (nI k) 7 = some (σ.1 k 8, σ) := by
  unfold sp_L_of
  rw [if_neg (by decide), if_neg (by decide), if_neg (by decide), if_neg (by decide), if_neg (by decide), if_neg (by decide), if_neg (by decide), if_pos rfl, x_peopleAt n h hk]
  rfl
theorem of_8 (n : Nat) (h : RR σ τ 0 L W u N Q) {k : Nat} (hk : k ≤ L) : sp_L_of n σ 40 (nI k) 8 = some (σ.1 k 9, σ) := by
  unfold sp_L_of
  rw [if_neg (by decide), if_neg (by decide), if_neg (by decide), if_neg (by decide), if_neg (by decide), if_neg (by decide), if_neg (by decide), if_neg (by decide), if_pos rfl, x_oreAt n h hk]
  rfl
theorem cat_io (σ : Mem) : (if ("java/lang/IndexOutOfBoundsException" : String) = "java/lang/IndexOutOfBoundsException" then some ((-1001 : Int32), σ) else (if ("java/lang/IndexOutOfBoundsException" : String) = "java/util/NoSuchElementException" then some ((-1002 : Int32), σ) else none)) = some (-1001, σ) := if_pos rfl
theorem of_bad (n : Nat) (h : RR σ τ 0 L W u N Q) {a : Int32} (hb : a < 0 ∨ (¬ a < 0 ∧ nI L < a)) (w : Int32) : sp_L_of n σ 40 a w = some (-1001, σ) := by
  have hb' : noL L a := Or.inr hb
  unfold sp_L_of
  by_cases c0 : w = 0
  · rw [if_pos c0, x_depthOf_bad n h hb]
    exact cat_io σ
  rw [if_neg c0]
  by_cases c1 : w = 1
  · rw [if_pos c1, x_airOf_bad n h hb']
    exact cat_io σ
  rw [if_neg c1]
  by_cases c2 : w = 2
  · rw [if_pos c2, x_airByPaths_bad n h hb']
    exact cat_io σ
  rw [if_neg c2]
  by_cases c3 : w = 3
  · rw [if_pos c3, x_gasOf_bad n h hb']
    exact cat_io σ
  rw [if_neg c3]
  by_cases c4 : w = 4
  · rw [if_pos c4, x_gasShare_bad n h hb']
    exact cat_io σ
  rw [if_neg c4]
  by_cases c5 : w = 5
  · rw [if_pos c5, x_isAlarm_bad n h hb']
    exact cat_io σ
  rw [if_neg c5]
  by_cases c6 : w = 6
  · rw [if_pos c6, x_minutesToAlarm_bad n h hb']
    exact cat_io σ
  rw [if_neg c6]
  by_cases c7 : w = 7
  · rw [if_pos c7, x_peopleAt_bad n h hb]
    exact cat_io σ
  rw [if_neg c7]
  by_cases c8 : w = 8
  · rw [if_pos c8, x_oreAt_bad n h hb]
    exact cat_io σ
  rw [if_neg c8]
  rw [x_isClosed_bad n h hb']
  exact cat_io σ
theorem of_surf (n : Nat) (h : RR σ τ 0 L W u N Q) {w : Int32} (h0 : ¬ w = 0) (h7 : ¬ w = 7) (h8 : ¬ w = 8) : sp_L_of n σ 40 0 w = some (-1001, σ) := by
  have hb' : noL L 0 := Or.inl rfl
  unfold sp_L_of
  rw [if_neg h0]
  by_cases c1 : w = 1
  · rw [if_pos c1, x_airOf_bad n h hb']
    exact cat_io σ
  rw [if_neg c1]
  by_cases c2 : w = 2
  · rw [if_pos c2, x_airByPaths_bad n h hb']
    exact cat_io σ
  rw [if_neg c2]
  by_cases c3 : w = 3
  · rw [if_pos c3, x_gasOf_bad n h hb']
    exact cat_io σ
  rw [if_neg c3]
  by_cases c4 : w = 4
  · rw [if_pos c4, x_gasShare_bad n h hb']
    exact cat_io σ
  rw [if_neg c4]
  by_cases c5 : w = 5
  · rw [if_pos c5, x_isAlarm_bad n h hb']
    exact cat_io σ
  rw [if_neg c5]
  by_cases c6 : w = 6
  · rw [if_pos c6, x_minutesToAlarm_bad n h hb']
    exact cat_io σ
  rw [if_neg c6]
  rw [if_neg h7]
  rw [if_neg h8]
  rw [x_isClosed_bad n h hb']
  exact cat_io σ
theorem asked_1 (n : Nat) (h : RR σ τ 0 L W u N Q) {p : Nat} (hp : p < Q) : sp_L_asked n σ 40 (nI p) 1 = some (σ.1 (rw_ σ 0 p) 0, σ) := by
  unfold sp_L_asked
  rw [if_neg (by decide), if_pos rfl, x_waitingAt n h hp]
  rfl
theorem asked_1_bad (n : Nat) (h : RR σ τ 0 L W u N Q) {a : Int32} (hb : a < 0 ∨ a = nI Q) : sp_L_asked n σ 40 a 1 = some (-1001, σ) := by
  unfold sp_L_asked
  rw [if_neg (by decide), if_pos rfl, x_waitingAt_bad n h hb]
  simp
/-- what the law reads of the trip -/
def trV (σ : Mem) (j : Nat) : Int32 := if σ.1 8 0 = 45 then -1001 else σ.1 8 j
theorem trip_0 (n : Nat) (h : RR σ τ 0 L W u N Q) : sp_L_trip n σ 40 0 = some (trV σ 1, σ) := by
  unfold sp_L_trip trV
  by_cases c : σ.1 8 0 = 45
  · rw [if_pos rfl, x_tripLevel_bad n h c, if_pos c]
    simp
  · rw [if_pos rfl, x_tripLevel n h c, if_neg c]
    rfl
theorem trip_1 (n : Nat) (h : RR σ τ 0 L W u N Q) : sp_L_trip n σ 40 1 = some (trV σ 2, σ) := by
  unfold sp_L_trip trV
  by_cases c : σ.1 8 0 = 45
  · rw [if_neg (by decide), if_pos rfl, x_tripLoad_bad n h c, if_pos c]
    simp
  · rw [if_neg (by decide), if_pos rfl, x_tripLoad n h c, if_neg c]
    rfl
theorem trip_2 (n : Nat) (h : RR σ τ 0 L W u N Q) : sp_L_trip n σ 40 2 = some (trV σ 3, σ) := by
  unfold sp_L_trip trV
  by_cases c : σ.1 8 0 = 45
  · rw [if_neg (by decide), if_neg (by decide), x_tripRest_bad n h c, if_pos c]
    simp
  · rw [if_neg (by decide), if_neg (by decide), x_tripRest n h c, if_neg c]
    rfl
/-! the sum that a refused call leaves -/
theorem lp_sum2 (n : Nat) (h : RR σ τ 0 L W u N Q) : ∀ (d k j : Nat) (x : Int64), j + d = Q → d < k → ∃ s, lp_L_sum_191 n 40 k σ x (nI j) = some (s, σ) := by
  intro d
  have hQ8 := h.2.2.2.2.1.1
  induction d with
  | zero =>
    intro k j x hj hk
    obtain ⟨k, rfl⟩ : ∃ z, k = z + 1 := ⟨k - 1, by omega⟩
    rw [lp_L_sum_191_s, x_waitingCount n h]
    simp only [Option.bind_some]
    rw [if_pos ((le_nI (by omega) (by omega)).mpr (by omega)), trip_0 n h]
    simp only [Option.bind_some]
    rw [trip_1 n h]
    simp only [Option.bind_some]
    rw [trip_2 n h]
    exact ⟨_, rfl⟩
  | succ d ih =>
    intro k j x hj hk
    obtain ⟨k, rfl⟩ : ∃ z, k = z + 1 := ⟨k - 1, by omega⟩
    rw [lp_L_sum_191_s, x_waitingCount n h]
    simp only [Option.bind_some]
    rw [if_neg (by rw [le_nI (by omega) (by omega)]; omega), asked_1 n h (by omega)]
    simp only [Option.bind_some]
    rw [add1_nI]
    exact ih k (j + 1) _ (by omega) (by omega)
theorem lp_sum1 (n : Nat) (h : RR σ τ 0 L W u N Q) : ∀ (d k j : Nat) (x : Int64), j + d = L + 1 → d < k → ∃ s, lp_L_sum_88 n 40 k σ x (nI j) = some (s, σ) := by
  intro d
  have hL := h.1.lv
  have hQ8 := h.2.2.2.2.1.1
  induction d with
  | zero =>
    intro k j x hj hk
    obtain ⟨k, rfl⟩ : ∃ z, k = z + 1 := ⟨k - 1, by omega⟩
    rw [lp_L_sum_88_s, x_levelCount n h]
    simp only [Option.bind_some]
    rw [if_pos ((lt_nI (by omega) (by omega)).mpr (by omega))]
    exact lp_sum2 n h Q 10 0 _ (by omega) (by omega)
  | succ d ih =>
    intro k j x hj hk
    obtain ⟨k, rfl⟩ : ∃ z, k = z + 1 := ⟨k - 1, by omega⟩
    rw [lp_L_sum_88_s, x_levelCount n h]
    simp only [Option.bind_some]
    rw [if_neg (by rw [lt_nI (by omega) (by omega)]; omega), of_7 n h (by omega)]
    simp only [Option.bind_some]
    rw [of_8 n h (by omega)]
    simp only [Option.bind_some]
    by_cases c : j = 0
    · rw [if_pos (by rw [c]; rfl)]
      unfold lp_L_sum_182
      rw [add1_nI]
      exact ih k (j + 1) _ (by omega) (by omega)
    · rw [if_neg (by rw [eq0_nI (by omega)]; exact c), of_1 n h (by omega) (by omega)]
      simp only [Option.bind_some]
      rw [of_3 n h (by omega) (by omega)]
      simp only [Option.bind_some]
      rw [of_5 n h (by omega) (by omega)]
      simp only [Option.bind_some]
      rw [of_9 n h (by omega) (by omega)]
      simp only [Option.bind_some]
      unfold lp_L_sum_182
      rw [add1_nI]
      exact ih k (j + 1) _ (by omega) (by omega)
theorem x_sum {n : Nat} (hn : 10 < n) (h : RR σ τ 0 L W u N Q) : ∃ s, sp_L_sum n σ 40 = some (s, σ) := by
  have hL := h.1.lv
  have key : ∀ x : Int64, ∃ s, lp_L_sum_88 n 40 10 σ x (nI 0) = some (s, σ) := fun x => lp_sum1 n h (L + 1) 10 0 x (by omega) (by omega)
  rw [← n0] at key
  unfold sp_L_sum
  rw [x_clock, Option.bind_some]
  dsimp only
  rw [x_gasTotal, Option.bind_some]
  dsimp only
  rw [x_ventedTotal, Option.bind_some]
  dsimp only
  rw [x_peopleTotal hn h, Option.bind_some]
  dsimp only
  rw [x_waitingCount n h, Option.bind_some]
  dsimp only
  rw [x_doneCount, Option.bind_some]
  dsimp only
  rw [x_droppedCount, Option.bind_some]
  dsimp only
  rw [x_tripKind n h, Option.bind_some]
  dsimp only
  rw [x_cageLevel, Option.bind_some]
  exact key _
end READS
