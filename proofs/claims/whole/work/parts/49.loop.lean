theorem dL_law_30 : decode cL_law 30 = .ok (.aload_n 0, 1) := by decide +kernel
theorem dL_law_31 : decode cL_law 31 = .ok (.arraylength, 1) := by decide +kernel
theorem dL_law_32 : decode cL_law 32 = .ok (.iconst 5, 1) := by decide +kernel
theorem dL_law_33 : decode cL_law 33 = .ok (.isub, 1) := by decide +kernel
theorem dL_law_34 : decode cL_law 34 = .ok (.if_icmp .gt 2087, 3) := by decide +kernel
theorem dL_law_37 : decode cL_law 37 = .ok (.aload_n 0, 1) := by decide +kernel
theorem dL_law_38 : decode cL_law 38 = .ok (.iload 5, 2) := by decide +kernel
theorem dL_law_40 : decode cL_law 40 = .ok (.iaload, 1) := by decide +kernel
theorem dL_law_41 : decode cL_law 41 = .ok (.bipush 63, 2) := by decide +kernel
theorem dL_law_43 : decode cL_law 43 = .ok (.iand, 1) := by decide +kernel
theorem dL_law_44 : decode cL_law 44 = .ok (.tableswitch 2071 0 41 #[184, 276, 289, 345, 401, 492, 548, 604, 660, 716, 772, 835, 848, 861, 926, 982, 1038, 1094, 1107, 1120, 1176, 1244, 1307, 1363, 1431, 1499, 1555, 1611, 1624, 1680, 1736, 1749, 1762, 1806, 1850, 1894, 1907, 1920, 1933, 1989, 2002, 2015], 184) := by decide +kernel
theorem dL_law_2115 : decode cL_law 2115 = .ok (.iinc 5 5, 3) := by decide +kernel
theorem dL_law_2118 : decode cL_law 2118 = .ok (.goto (-2090), 3) := by decide +kernel
theorem dL_law_2121 : decode cL_law 2121 = .ok (.iconst 1, 1) := by decide +kernel
theorem dL_law_2122 : decode cL_law 2122 = .ok (.ireturn, 1) := by decide +kernel
/-! THE LOOP -/
set_option maxRecDepth 20000 in
theorem law_case {tab : List ExceptionTableEntry} {K : Nat → Nat} {x : Xt Tx} {G : Gt} {cB : ClassId} {b L : Nat} {xs : Nat → Int32} (C0 : Cx x code 9 RL (some .boolean) tab wsL room_1 G.1 (tys9 G cB)) (CV : Cv K x code 9 RL (some .boolean) tab wsL room_1 G.1 (tys9 G cB)) (X : Wt x G.1) (S9 : CS9 x b L xs) {B kc ns p : Nat} {σ : Mem} {T : Tx} (hI : LI K cB B σ T) (hB : B ≤ 600) (hp : p + 5 ≤ L) (hL : L ≤ 2560) (hr : kc + 1000 ≤ 892405 ∧ ns + 10000 ≤ 6351306) (hk : ∀ σ1 T1, LI K cB (B + 1) σ1 T1 → J x (lo5 G b p) [] (wsF G σ1 ++ T1) 2115 (kc + 1000) (ns + 10000)) (c : Nat) (hc : c < 64) : J x (lo5 G b p) [.int (nI c)] (wsF G σ ++ T) 44 kc ns := by
  match c, hc with
  | 0, _ => exact jl_tableIn S9 dL_law_44 (by decide) (by decide) (off := 184) (tgt := 228) (by decide) (by decide) (cs_0 C0 CV X S9 hI hB hp hL hr hk)
  | 1, _ => exact jl_tableIn S9 dL_law_44 (by decide) (by decide) (off := 276) (tgt := 320) (by decide) (by decide) (cs_1 C0 CV X S9 hI hB hp hL hr hk)
  | 2, _ => exact jl_tableIn S9 dL_law_44 (by decide) (by decide) (off := 289) (tgt := 333) (by decide) (by decide) (cs_2 C0 CV X S9 hI hB hp hL hr hk)
  | 3, _ => exact jl_tableIn S9 dL_law_44 (by decide) (by decide) (off := 345) (tgt := 389) (by decide) (by decide) (cs_3 C0 CV X S9 hI hB hp hL hr hk)
  | 4, _ => exact jl_tableIn S9 dL_law_44 (by decide) (by decide) (off := 401) (tgt := 445) (by decide) (by decide) (cs_4 C0 CV X S9 hI hB hp hL hr hk)
  | 5, _ => exact jl_tableIn S9 dL_law_44 (by decide) (by decide) (off := 492) (tgt := 536) (by decide) (by decide) (cs_5 C0 CV X S9 hI hB hp hL hr hk)
  | 6, _ => exact jl_tableIn S9 dL_law_44 (by decide) (by decide) (off := 548) (tgt := 592) (by decide) (by decide) (cs_6 C0 CV X S9 hI hB hp hL hr hk)
  | 7, _ => exact jl_tableIn S9 dL_law_44 (by decide) (by decide) (off := 604) (tgt := 648) (by decide) (by decide) (cs_7 C0 CV X S9 hI hB hp hL hr hk)
  | 8, _ => exact jl_tableIn S9 dL_law_44 (by decide) (by decide) (off := 660) (tgt := 704) (by decide) (by decide) (cs_8 C0 CV X S9 hI hB hp hL hr hk)
  | 9, _ => exact jl_tableIn S9 dL_law_44 (by decide) (by decide) (off := 716) (tgt := 760) (by decide) (by decide) (cs_9 C0 CV X S9 hI hB hp hL hr hk)
  | 10, _ => exact jl_tableIn S9 dL_law_44 (by decide) (by decide) (off := 772) (tgt := 816) (by decide) (by decide) (cs_10 C0 CV X S9 hI hB hp hL hr hk)
  | 11, _ => exact jl_tableIn S9 dL_law_44 (by decide) (by decide) (off := 835) (tgt := 879) (by decide) (by decide) (cs_11 C0 CV X S9 hI hB hp hL hr hk)
  | 12, _ => exact jl_tableIn S9 dL_law_44 (by decide) (by decide) (off := 848) (tgt := 892) (by decide) (by decide) (cs_12 C0 CV X S9 hI hB hp hL hr hk)
  | 13, _ => exact jl_tableIn S9 dL_law_44 (by decide) (by decide) (off := 861) (tgt := 905) (by decide) (by decide) (cs_13 C0 CV X S9 hI hB hp hL hr hk)
  | 14, _ => exact jl_tableIn S9 dL_law_44 (by decide) (by decide) (off := 926) (tgt := 970) (by decide) (by decide) (cs_14 C0 CV X S9 hI hB hp hL hr hk)
  | 15, _ => exact jl_tableIn S9 dL_law_44 (by decide) (by decide) (off := 982) (tgt := 1026) (by decide) (by decide) (cs_15 C0 CV X S9 hI hB hp hL hr hk)
  | 16, _ => exact jl_tableIn S9 dL_law_44 (by decide) (by decide) (off := 1038) (tgt := 1082) (by decide) (by decide) (cs_16 C0 CV X S9 hI hB hp hL hr hk)
  | 17, _ => exact jl_tableIn S9 dL_law_44 (by decide) (by decide) (off := 1094) (tgt := 1138) (by decide) (by decide) (cs_17 C0 CV X S9 hI hB hp hL hr hk)
  | 18, _ => exact jl_tableIn S9 dL_law_44 (by decide) (by decide) (off := 1107) (tgt := 1151) (by decide) (by decide) (cs_18 C0 CV X S9 hI hB hp hL hr hk)
  | 19, _ => exact jl_tableIn S9 dL_law_44 (by decide) (by decide) (off := 1120) (tgt := 1164) (by decide) (by decide) (cs_19 C0 CV X S9 hI hB hp hL hr hk)
  | 20, _ => exact jl_tableIn S9 dL_law_44 (by decide) (by decide) (off := 1176) (tgt := 1220) (by decide) (by decide) (cs_20 C0 CV X S9 hI hB hp hL hr hk)
  | 21, _ => exact jl_tableIn S9 dL_law_44 (by decide) (by decide) (off := 1244) (tgt := 1288) (by decide) (by decide) (cs_21 C0 CV X S9 hI hB hp hL hr hk)
  | 22, _ => exact jl_tableIn S9 dL_law_44 (by decide) (by decide) (off := 1307) (tgt := 1351) (by decide) (by decide) (cs_22 C0 CV X S9 hI hB hp hL hr hk)
  | 23, _ => exact jl_tableIn S9 dL_law_44 (by decide) (by decide) (off := 1363) (tgt := 1407) (by decide) (by decide) (cs_23 C0 CV X S9 hI hB hp hL hr hk)
  | 24, _ => exact jl_tableIn S9 dL_law_44 (by decide) (by decide) (off := 1431) (tgt := 1475) (by decide) (by decide) (cs_24 C0 CV X S9 hI hB hp hL hr hk)
  | 25, _ => exact jl_tableIn S9 dL_law_44 (by decide) (by decide) (off := 1499) (tgt := 1543) (by decide) (by decide) (cs_25 C0 CV X S9 hI hB hp hL hr hk)
  | 26, _ => exact jl_tableIn S9 dL_law_44 (by decide) (by decide) (off := 1555) (tgt := 1599) (by decide) (by decide) (cs_26 C0 CV X S9 hI hB hp hL hr hk)
  | 27, _ => exact jl_tableIn S9 dL_law_44 (by decide) (by decide) (off := 1611) (tgt := 1655) (by decide) (by decide) (cs_27 C0 CV X S9 hI hB hp hL hr hk)
  | 28, _ => exact jl_tableIn S9 dL_law_44 (by decide) (by decide) (off := 1624) (tgt := 1668) (by decide) (by decide) (cs_28 C0 CV X S9 hI hB hp hL hr hk)
  | 29, _ => exact jl_tableIn S9 dL_law_44 (by decide) (by decide) (off := 1680) (tgt := 1724) (by decide) (by decide) (cs_29 C0 CV X S9 hI hB hp hL hr hk)
  | 30, _ => exact jl_tableIn S9 dL_law_44 (by decide) (by decide) (off := 1736) (tgt := 1780) (by decide) (by decide) (cs_30 C0 CV X S9 hI hB hp hL hr hk)
  | 31, _ => exact jl_tableIn S9 dL_law_44 (by decide) (by decide) (off := 1749) (tgt := 1793) (by decide) (by decide) (cs_31 C0 CV X S9 hI hB hp hL hr hk)
  | 32, _ => exact jl_tableIn S9 dL_law_44 (by decide) (by decide) (off := 1762) (tgt := 1806) (by decide) (by decide) (cs_32 C0 CV X S9 hI hB hp hL hr hk)
  | 33, _ => exact jl_tableIn S9 dL_law_44 (by decide) (by decide) (off := 1806) (tgt := 1850) (by decide) (by decide) (cs_33 C0 CV X S9 hI hB hp hL hr hk)
  | 34, _ => exact jl_tableIn S9 dL_law_44 (by decide) (by decide) (off := 1850) (tgt := 1894) (by decide) (by decide) (cs_34 C0 CV X S9 hI hB hp hL hr hk)
  | 35, _ => exact jl_tableIn S9 dL_law_44 (by decide) (by decide) (off := 1894) (tgt := 1938) (by decide) (by decide) (cs_35 C0 CV X S9 hI hB hp hL hr hk)
  | 36, _ => exact jl_tableIn S9 dL_law_44 (by decide) (by decide) (off := 1907) (tgt := 1951) (by decide) (by decide) (cs_36 C0 CV X S9 hI hB hp hL hr hk)
  | 37, _ => exact jl_tableIn S9 dL_law_44 (by decide) (by decide) (off := 1920) (tgt := 1964) (by decide) (by decide) (cs_37 C0 CV X S9 hI hB hp hL hr hk)
  | 38, _ => exact jl_tableIn S9 dL_law_44 (by decide) (by decide) (off := 1933) (tgt := 1977) (by decide) (by decide) (cs_38 C0 CV X S9 hI hB hp hL hr hk)
  | 39, _ => exact jl_tableIn S9 dL_law_44 (by decide) (by decide) (off := 1989) (tgt := 2033) (by decide) (by decide) (cs_39 C0 CV X S9 hI hB hp hL hr hk)
  | 40, _ => exact jl_tableIn S9 dL_law_44 (by decide) (by decide) (off := 2002) (tgt := 2046) (by decide) (by decide) (cs_40 C0 CV X S9 hI hB hp hL hr hk)
  | 41, _ => exact jl_tableIn S9 dL_law_44 (by decide) (by decide) (off := 2015) (tgt := 2059) (by decide) (by decide) (cs_41 C0 CV X S9 hI hB hp hL hr hk)
  | c + 42, h =>
    refine jl_tableOut S9 dL_law_44 (tgt := 2115) (Or.inr ?_) (by decide) ?_
    · rw [nI_toInt (by omega)]
      omega
    · exact j_widen C0 (by omega) (by omega) (hk σ T ⟨hI.1.mono (Nat.le_succ B), hI.2⟩)
set_option maxRecDepth 20000 in
theorem law_loop {tab : List ExceptionTableEntry} {K : Nat → Nat} {x : Xt Tx} {G : Gt} {cB : ClassId} {b L : Nat} {xs : Nat → Int32} (C0 : Cx x code 9 RL (some .boolean) tab wsL room_1 G.1 (tys9 G cB)) (CV : Cv K x code 9 RL (some .boolean) tab wsL room_1 G.1 (tys9 G cB)) (X : Wt x G.1) (S9 : CS9 x b L xs) (hL : L ≤ 2560) (hend : ∀ lo w kc ns, kc ≤ 892405 → ns ≤ 6351306 → J x lo [] w 2121 kc ns) : ∀ (m q : Nat) (σ : Mem) (T : Tx), LI K cB q σ T → q ≤ 512 → L < 5 * (q + m) + 5 → J x (lo5 G b (5 * q)) [] (wsF G σ ++ T) 28 (100 + 1000 * q) (5000 + 10000 * q) := by
  intro m
  induction m with
  | zero =>
    intro q σ T hI hq hm
    refine j_iload C0 dL_law_28 0 rfl ?_
    refine j_aload_n C0 dL_law_30 5 rfl ?_
    refine jl_slen S9 dL_law_31 ?_
    refine j_iconst C0 dL_law_32 (5 : Int32) (by decide) ?_
    refine j_isub C0 dL_law_33 ?_
    refine j_icmp_gt C0 dL_law_34 2121 (by decide) (fun h => ?_) (fun h => ?_)
    · exact hend _ _ _ _ (by omega) (by omega)
    · exact absurd ((gt5 (by omega) (by omega)).mpr (by omega)) h
  | succ m ih =>
    intro q σ T hI hq hm
    refine j_iload C0 dL_law_28 0 rfl ?_
    refine j_aload_n C0 dL_law_30 5 rfl ?_
    refine jl_slen S9 dL_law_31 ?_
    refine j_iconst C0 dL_law_32 (5 : Int32) (by decide) ?_
    refine j_isub C0 dL_law_33 ?_
    refine j_icmp_gt C0 dL_law_34 2121 (by decide) (fun h => ?_) (fun h => ?_)
    · exact hend _ _ _ _ (by omega) (by omega)
    · have hp : 5 * q + 5 ≤ L := by
        have g9 : ¬ (L < 5 * q + 5) := fun z => h ((gt5 (p := 5 * q) (L := L) (by omega) (by omega)).mpr z)
        omega
      refine j_aload_n C0 dL_law_37 5 rfl ?_
      refine j_iload C0 dL_law_38 0 rfl ?_
      refine jl_sld S9 dL_law_40 (p := 5 * q) (by omega) (by omega) ?_
      refine j_bipush C0 dL_law_41 (63 : Int32) (by decide) ?_
      refine j_iand C0 dL_law_43 ?_
      obtain ⟨c, hc, e⟩ := and63 (xs (5 * q))
      refine jt_eqI e ?_
      refine law_case C0 CV X S9 hI (by omega) hp hL ⟨by omega, by omega⟩ (fun σ1 T1 h1 => ?_) c hc
      refine jt_iinc C0 dL_law_2115 0 rfl (5 : Int32) (nI (5 * (q + 1))) (by decide) (by rw [show 5 * (q + 1) = 5 * q + 5 by omega]; exact add_nI (5 * q) 5) (by decide) (lo5 G b (5 * (q + 1))) rfl ?_
      refine j_goto C0 dL_law_2118 28 (by decide) ?_
      have k := ih (q + 1) σ1 T1 h1 (by omega) (by omega)
      rw [show 100 + 1000 * (q + 1) = 100 + 1000 * q + 1000 by omega, show 5000 + 10000 * (q + 1) = 5000 + 10000 * q + 10000 by omega] at k
      exact k
