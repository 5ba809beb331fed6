/-! PURE. a trip begins and ends, of either system -/
def abN (d e : Nat) : Nat := (d - e) + (e - d)
theorem abs_nI {d e : Nat} (hd : d ≤ 2000) (he : e ≤ 2000) : (if 0 ≤ nI d - nI e then nI d - nI e else 0 - (nI d - nI e)) = nI (abN d e) := by
  unfold abN
  by_cases h : e ≤ d
  · rw [pk_sub h, if_pos (nI_pos' (by omega)), show (d - e) + (e - d) = d - e by omega]
  · have h1 : nI d - nI e < 0 := pk_sneg (by omega) (by omega)
    rw [if_neg (Int32.not_le.mpr h1), Int32.zero_sub, Int32.neg_sub, pk_sub (by omega), show (d - e) + (e - d) = e - d by omega]
def wyN (v d e : Nat) : Nat := (abN d e + v - 1) / v
theorem wyN_le {v d e : Nat} (hv : 1 ≤ v) (hd : d ≤ 2000) (he : e ≤ 2000) : wyN v d e ≤ 2000 := by
  unfold wyN abN
  apply Nat.div_le_of_le_mul
  have : v * 2000 = v * 1999 + v := by omega
  have h2 : 1 * 1999 ≤ v * 1999 := Nat.mul_le_mul hv (Nat.le_refl _)
  by_cases h : e = d
  · omega
  · omega
theorem ev_way (n : Nat) {σ : Mem} {m a b v d e : Nat} (hv : 1 ≤ v) (hv2 : v ≤ 500) (hd : d ≤ 2000) (he : e ≤ 2000) (h7 : σ.1 (10 * m + 7) 7 = nI v) (ha : σ.1 (10 * m + a) 0 = nI d) (hb : σ.1 (10 * m + b) 0 = nI e) : sp_X1_way n σ (10 * m + 7) (10 * m + a) (10 * m + b) = some (nI (wyN v d e), σ) := by
  unfold sp_X1_way
  have hab : abN d e ≤ 4000 := by unfold abN; omega
  rw [h7, ha, hb, abs_nI hd he, if_neg (by rw [n0, le_nI (by omega) (by omega)]; omega), if_pos (by rw [n0, eq_nI (by omega) (by omega)]; omega), add_nI, n1, pk_sub (by omega), pk_div (by omega) (by omega) (by omega)]
  rfl
theorem ev_wayM (n : Nat) {τ : Mem} {a b v d e : Nat} (ha7 : a < 7) (hb7 : b < 7) (hv : 1 ≤ v) (hv2 : v ≤ 500) (hd : d ≤ 2000) (he : e ≤ 2000) (h7 : τ.1 41 8 = nI v) (ha : τ.1 42 a = nI d) (hb : τ.1 42 b = nI e) : sp_X6_way n τ 41 (nI a) (nI b) = some (nI (wyN v d e), τ) := by
  unfold sp_X6_way
  have hab : abN d e ≤ 4000 := by unfold abN; omega
  rw [if_pos (inR_nI (by omega) (by omega)), if_pos (inR_nI (by omega) (by omega))]
  simp only [nI_cl (show a < 100000 by omega), nI_cl (show b < 100000 by omega), rfm_1]
  rw [h7, ha, hb, abs_nI hd he, if_pos (by rw [n0, eq_nI (by omega) (by omega)]; omega), add_nI, n1, pk_sub (by omega), pk_div (by omega) (by omega) (by omega)]
  rfl
/-- the slot of what a trip carries: class, model -/
def slC (c : Int32) : Nat := if c = 111 then 9 else 8
def slM (c : Int32) : Nat := if c = 111 then 14 else 7
theorem ev_carry (n : Nat) (σ : Mem) (o : Nat) (c y : Int32) : sp_X1_carry n σ o c y = some ((), wi σ o (slC c) (σ.1 o (slC c) + y)) := by
  unfold sp_X1_carry slC
  by_cases h : c = 111
  · rw [if_pos h, if_pos h]
    rfl
  · rw [if_neg h, if_neg h]
    rfl
theorem slC_le (c : Int32) : 8 ≤ slC c ∧ slC c ≤ 9 := by
  unfold slC
  split <;> omega
theorem slM_le (c : Int32) : slM c = slC c * 7 - 49 := by
  unfold slC slM
  split <;> rfl
theorem kd_ch {c : Int32} (h : c = 45 ∨ kd4 c) : 0 ≤ c ∧ c ≤ 65535 := by
  rcases h with h | h | h | h | h <;> subst h <;> decide
theorem rfe_3 {m : Nat} (hm : m < 2) : rf (10 * m + 7) 3 = 10 * m + 8 := rf_3 hm
theorem ev_set (n : Nat) (σ : Mem) (o : Nat) {c : Int32} (hc : c = 45 ∨ kd4 c) (l y r q : Int32) : sp_X3_set n σ o c l y r q = some ((), wi (wi (wi (wi (wi σ o 0 c) o 1 l) o 2 y) o 3 r) o 4 q) := by
  unfold sp_X3_set
  rw [if_pos (kd_ch hc)]
  rfl
/-- the level a trip starts from, the level it goes to -/
def fr_ (c : Int32) (k : Nat) : Nat := if c = 100 then 0 else k
def to_ (c : Int32) (k : Nat) : Nat := if c = 100 then k else 0
theorem fr_le (c : Int32) (k : Nat) : fr_ c k ≤ k := by
  unfold fr_
  split <;> omega
theorem to_le (c : Int32) (k : Nat) : to_ c k ≤ k := by
  unfold to_
  split <;> omega
theorem ev_begin38 (n : Nat) {σ : Mem} {m c0 k kt v dc df dt : Nat} {c y q : Int32} {a1 a2 a3 a4 : Int32} {kk : Int32} (hsh : ShM σ m) (hc : kd4 c) (hc0 : c0 < 7) (hcage : σ.1 (10 * m + 7) 12 = nI c0) (hv : 1 ≤ v) (hv2 : v ≤ 500) (h7 : σ.1 (10 * m + 7) 7 = nI v) (h1 : dc ≤ 2000) (h2 : df ≤ 2000) (h3 : dt ≤ 2000) (g1 : σ.1 (10 * m + c0) 0 = nI dc) (g2 : σ.1 (10 * m + k) 0 = nI df) (g3 : σ.1 (10 * m + kt) 0 = nI dt) :
    lp_X1_beginTrip_38 n (10 * m + 7) a1 a2 a3 a4 σ c kk y q (10 * m + k) (10 * m + kt) = some ((), wi (wi (wi (wi (wi (wi σ (10 * m + k) (slC c) (σ.1 (10 * m + k) (slC c) + -y)) (10 * m + 8) 0 c) (10 * m + 8) 1 kk) (10 * m + 8) 2 y) (10 * m + 8) 3 (nI (1 + wyN v dc df + wyN v df dt))) (10 * m + 8) 4 q) := by
  unfold lp_X1_beginTrip_38
  rw [hcage, ev_place n hsh hc0]
  simp only [Option.bind_some]
  rw [if_pos (ok_lv hsh.1 hc0), ev_way n hv hv2 h1 h2 h7 g1 g2]
  simp only [Option.bind_some]
  rw [ev_way n hv hv2 h2 h3 h7 g2 g3]
  simp only [Option.bind_some]
  rw [ev_carry]
  simp only [Option.bind_some]
  rw [rf_3 hsh.1, ev_set n _ _ (Or.inr hc)]
  simp only [Option.bind_some]
  rw [n1, add_nI, add_nI]
theorem ev_beginTrip (n : Nat) {σ : Mem} {m c0 k v dc df dt : Nat} {c y q : Int32} (hsh : ShM σ m) (hc : kd4 c) (hc0 : c0 < 7) (hk : k < 7) (hcage : σ.1 (10 * m + 7) 12 = nI c0) (hv : 1 ≤ v) (hv2 : v ≤ 500) (h7 : σ.1 (10 * m + 7) 7 = nI v) (h1 : dc ≤ 2000) (h2 : df ≤ 2000) (h3 : dt ≤ 2000) (g1 : σ.1 (10 * m + c0) 0 = nI dc) (g2 : σ.1 (10 * m + fr_ c k) 0 = nI df) (g3 : σ.1 (10 * m + to_ c k) 0 = nI dt) :
    sp_X1_beginTrip n σ (10 * m + 7) c (nI k) y q = some ((), wi (wi (wi (wi (wi (wi σ (10 * m + fr_ c k) (slC c) (σ.1 (10 * m + fr_ c k) (slC c) + -y)) (10 * m + 8) 0 c) (10 * m + 8) 1 (nI k)) (10 * m + 8) 2 y) (10 * m + 8) 3 (nI (1 + wyN v dc df + wyN v df dt))) (10 * m + 8) 4 q) := by
  unfold sp_X1_beginTrip
  by_cases h : c = 100
  · rw [show fr_ c k = 0 from if_pos h] at *
    rw [show to_ c k = k from if_pos h] at *
    rw [if_pos h]
    unfold lp_X1_beginTrip_18
    rw [if_pos h, ev_place n hsh hk]
    simp only [Option.bind_some]
    rw [if_pos (ok_lv hsh.1 hk), rf_0 hsh.1]
    exact ev_begin38 n (k := 0) (kt := k) hsh hc hc0 hcage hv hv2 h7 h1 h2 h3 g1 g2 g3
  · rw [show fr_ c k = k from if_neg h] at *
    rw [show to_ c k = 0 from if_neg h] at *
    rw [if_neg h, ev_place n hsh hk]
    simp only [Option.bind_some]
    rw [if_pos (ok_lv hsh.1 hk)]
    unfold lp_X1_beginTrip_18
    rw [if_neg h, rf_0 hsh.1]
    exact ev_begin38 n (k := k) (kt := 0) hsh hc hc0 hcage hv hv2 h7 h1 h2 h3 g1 g2 g3
theorem ix62 : (62 : Int32).toNatClampNeg = 62 := by decide
theorem ix63 : (63 : Int32).toNatClampNeg = 63 := by decide
theorem ix64 : (64 : Int32).toNatClampNeg = 64 := by decide
theorem ix65 : (65 : Int32).toNatClampNeg = 65 := by decide
theorem ix66 : (66 : Int32).toNatClampNeg = 66 := by decide
theorem ix67 : (67 : Int32).toNatClampNeg = 67 := by decide
theorem ix68 : (68 : Int32).toNatClampNeg = 68 := by decide
theorem ix69 : (69 : Int32).toNatClampNeg = 69 := by decide
theorem ix72 : (72 : Int32).toNatClampNeg = 72 := by decide
theorem i62 : inR (62 : Int32) 73 := by decide
theorem i63 : inR (63 : Int32) 73 := by decide
theorem i64 : inR (64 : Int32) 73 := by decide
theorem i65 : inR (65 : Int32) 73 := by decide
theorem i66 : inR (66 : Int32) 73 := by decide
theorem i67 : inR (67 : Int32) 73 := by decide
theorem i68 : inR (68 : Int32) 73 := by decide
theorem i69 : inR (69 : Int32) 73 := by decide
theorem i72 : inR (72 : Int32) 73 := by decide
/-- the model's memory behind begins -/
def bgM (τ : Mem) (c : Int32) (k f : Nat) (y q r : Int32) : Mem :=
  wi (wi (wi (wi (wi (wi (wi τ 47 63 c) 47 64 (nI k)) 47 65 y) 47 67 q) 47 72 q) 47 66 r) 47 (slM c + f) (τ.1 47 (slM c + f) - y)
theorem ev_begins24 (n : Nat) {τ : Mem} {c0 k f t v dc df dt : Nat} {c y q : Int32} {a1 a2 a3 a4 : Int32} (hc0 : c0 < 7) (hf : f < 7) (ht : t < 7) (hcage : τ.1 47 62 = nI c0) (hv : 1 ≤ v) (hv2 : v ≤ 500) (h7 : τ.1 41 8 = nI v) (h1 : dc ≤ 2000) (h2 : df ≤ 2000) (h3 : dt ≤ 2000) (g1 : τ.1 42 c0 = nI dc) (g2 : τ.1 42 f = nI df) (g3 : τ.1 42 t = nI dt) :
    lp_X6_begins_24 n 41 a1 a2 a3 a4 τ c (nI k) y q (nI f) (nI t) = some ((), bgM τ c k f y q (nI (1 + wyN v dc df + wyN v df dt))) := by
  unfold lp_X6_begins_24
  simp only [lm, rfm_11, ix62, ix63, ix64, ix65, ix66, ix67, ix72]
  rw [if_pos i63, if_pos i64, if_pos i65, if_pos i67, if_pos i72, if_pos i62]
  have o : ∀ (a b : Nat), a ≠ 47 ∨ b < 63 → (wi (wi (wi (wi (wi τ 47 63 c) 47 64 (nI k)) 47 65 y) 47 67 q) 47 72 q).1 a b = τ.1 a b := fun a b hab => by
    rw [wi_o (by omega), wi_o (by omega), wi_o (by omega), wi_o (by omega), wi_o (by omega)]
  rw [o 47 62 (by omega), hcage, ev_wayM n hc0 hf hv hv2 h1 h2 (by rw [o _ _ (by omega)]; exact h7) (by rw [o _ _ (by omega)]; exact g1) (by rw [o _ _ (by omega)]; exact g2)]
  simp only [Option.bind_some]
  rw [ev_wayM n hf ht hv hv2 h2 h3 (by rw [o _ _ (by omega)]; exact h7) (by rw [o _ _ (by omega)]; exact g2) (by rw [o _ _ (by omega)]; exact g3)]
  simp only [Option.bind_some]
  rw [if_pos i66, n1, add_nI, add_nI]
  unfold lp_X6_begins_116 bgM slM
  by_cases hc : c = 111
  · rw [if_pos hc, if_pos hc, ix14, if_pos (inR_nI (by omega) (by omega)), if_pos (inR_nI (by omega) (by omega))]
    simp only [lm, nI_cl (show 14 + f < 100000 by omega)]
    rw [wi_o (by omega), o _ _ (by omega)]
  · rw [if_neg hc, if_neg hc, ix7, if_pos (inR_nI (by omega) (by omega)), if_pos (inR_nI (by omega) (by omega))]
    simp only [lm, nI_cl (show 7 + f < 100000 by omega)]
    rw [wi_o (by omega), o _ _ (by omega)]
theorem ev_begins (n : Nat) {τ : Mem} {c0 k v dc df dt : Nat} {c y q : Int32} (hc0 : c0 < 7) (hk : k < 7) (hcage : τ.1 47 62 = nI c0) (hv : 1 ≤ v) (hv2 : v ≤ 500) (h7 : τ.1 41 8 = nI v) (h1 : dc ≤ 2000) (h2 : df ≤ 2000) (h3 : dt ≤ 2000) (g1 : τ.1 42 c0 = nI dc) (g2 : τ.1 42 (fr_ c k) = nI df) (g3 : τ.1 42 (to_ c k) = nI dt) :
    sp_X6_begins n τ 41 c (nI k) y q = some ((), bgM τ c k (fr_ c k) y q (nI (1 + wyN v dc df + wyN v df dt))) := by
  unfold sp_X6_begins lp_X6_begins_11
  by_cases h : c = 100
  · rw [show fr_ c k = 0 from if_pos h] at *
    rw [show to_ c k = k from if_pos h] at *
    rw [if_pos h, if_pos h]
    exact ev_begins24 n hc0 (show 0 < 7 by omega) hk hcage hv hv2 h7 h1 h2 h3 g1 g2 g3
  · rw [show fr_ c k = k from if_neg h] at *
    rw [show to_ c k = 0 from if_neg h] at *
    rw [if_neg h, if_neg h]
    exact ev_begins24 n hc0 hk (show 0 < 7 by omega) hcage hv hv2 h7 h1 h2 h3 g1 g2 g3
