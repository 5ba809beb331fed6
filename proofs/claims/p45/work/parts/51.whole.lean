set_option maxRecDepth 40000 in
set_option maxHeartbeats 8000000 in
theorem whole_start {p : Program} {e : Env} {s : State} {m : MethodId} {below : List Frame} {meth : Method} {c : Code} (l : Launch) (hflags : l.flags = flags0) {b L : Nat} {xs : Nat → Int32} (hL : L ≤ 260) (C0 : lw_At p s m meth c b L xs) : W p l e room_1 s m #[Value.ref b] below meth c s.heap [] 0 0 (lw_Z below #[Value.ref b] s) (entryFrame m ([Value.ref b] : List Value).toArray 17) := by
  obtain ⟨hx, hb, hr, hml, hown, hts, hX, hbl, hlocks, hgv⟩ := C0
  have hf := flat_of_before _ hgv
  have h9 := hts9 hts
  have hst : l.stackTraces = false := by
    unfold Launch.stackTraces
    rw [hflags]
    decide +kernel
  have hA : ∀ a : Nat, a < s.heap.size → ¬ (fun q : Nat => s.heap.size ≤ q) a := fun a h => Nat.not_le.mpr h
  have hbA : ¬ (fun q : Nat => s.heap.size ≤ q) b := Nat.not_le.mpr hbl
  obtain ⟨K, hT⟩ := tx9 hts hf hA
  have hSt := st9 hts hf hA
  obtain ⟨e0, i0, n0⟩ := u_known (C := RJ0) (T := TJ0) (N := 4) (n := 4) h9 tq_wsJ00 (h9 (.instantiable RJ0 4) (by decide +kernel))
  obtain ⟨e1, i1, n1⟩ := u_known (C := RJ4) (T := TJ4) (N := 4) (n := 4) h9 tq_wsC9_J4 (h9 (.instantiable RJ4 4) (by decide +kernel))
  obtain ⟨e2, i2, n2⟩ := u_known (C := RJx00060) (T := TJx00060) (N := 6) (n := 6) h9 tq_wsJx000600 (h9 (.instantiable RJx00060 6) (by decide +kernel))
  obtain ⟨e3, i3, n3⟩ := u_known (C := RJx7c733) (T := TJx7c733) (N := 6) (n := 6) h9 tq_wsJx7c7330 (h9 (.instantiable RJx7c733 6) (by decide +kernel))
  obtain ⟨e4, i4, n4⟩ := u_known (C := RX0) (T := TX0) (N := 11) (n := 11) h9 tq_wsX00 (h9 (.instantiable RX0 11) (by decide +kernel))
  obtain ⟨e5, i5, n5⟩ := u_known (C := RX1) (T := TX1) (N := 16) (n := 16) h9 tq_wsX10 (h9 (.instantiable RX1 16) (by decide +kernel))
  obtain ⟨e6, i6, n6⟩ := u_known (C := RX2) (T := TX2) (N := 4) (n := 4) h9 tq_wsX20 (h9 (.instantiable RX2 4) (by decide +kernel))
  obtain ⟨e7, i7, n7⟩ := u_known (C := RX3) (T := TX3) (N := 5) (n := 5) h9 tq_wsX30 (h9 (.instantiable RX3 5) (by decide +kernel))
  obtain ⟨e8, i8, n8⟩ := u_known (C := RX4) (T := TX4) (N := 2) (n := 2) h9 tq_wsX40 (h9 (.instantiable RX4 2) (by decide +kernel))
  obtain ⟨e9, i9, n9⟩ := u_known (C := RX5) (T := TX5) (N := 3) (n := 3) h9 tq_wsX50 (h9 (.instantiable RX5 3) (by decide +kernel))
  obtain ⟨dC, dI, hKc⟩ : ∃ (dC : Nat → ClassId) (dI : Nat → Nat → Nat), ∀ (k : Nat) (q : vw_C), vwCl[k]? = some q → u_Kn s q.1 q.2.1 q.2.2 (dC k) (dI k) := by
    refine ⟨fun k => match k with | 0 => e0 | 1 => e1 | 2 => e2 | 3 => e3 | 4 => e4 | 5 => e5 | 6 => e6 | 7 => e7 | 8 => e8 | _ => e9, fun k => match k with | 0 => i0 | 1 => i1 | 2 => i2 | 3 => i3 | 4 => i4 | 5 => i5 | 6 => i6 | 7 => i7 | 8 => i8 | _ => i9, ?_⟩
    intro k q hq
    match k, hq with
    | 0, hq => cases hq; exact n0
    | 1, hq => cases hq; exact n1
    | 2, hq => cases hq; exact n2
    | 3, hq => cases hq; exact n3
    | 4, hq => cases hq; exact n4
    | 5, hq => cases hq; exact n5
    | 6, hq => cases hq; exact n6
    | 7, hq => cases hq; exact n7
    | 8, hq => cases hq; exact n8
    | 9, hq => cases hq; exact n9
    | k + 10, hq => cases hq
  obtain ⟨cB, aB, fB⟩ := arr_prim (ty := .byte) (hts _ (by decide +kernel))
  obtain ⟨cV, aV, fV⟩ := arr_obj (C := RX0) (hts _ (by decide +kernel))
  obtain ⟨cR, aR, fR⟩ := arr_obj (C := RX2) (hts _ (by decide +kernel))
  have hK : va_K (dC, dI) vwCl [(cB, .byte), (cV, .object RX0), (cR, .object RX2)] s := by
    refine ⟨hKc, fun k q hq => ?_⟩
    match k, hq with
    | 0, hq => cases hq; exact ⟨aB, fB⟩
    | 1, hq => cases hq; exact ⟨aV, fV⟩
    | 2, hq => cases hq; exact ⟨aR, fR⟩
    | k + 3, hq => cases hq
  have htL : ∀ w ∈ wsL, w.before #[Value.ref b] s = true := List.forall_mem_cons.mpr ⟨hts _ (by decide +kernel), fun w hw => h9 w (tq_wsT w hw)⟩
  have HJ : ∀ x : Xt Tx, x = (((fun H locs k n g => W p l e room_1 s m #[Value.ref b] below meth c H locs k n (vx_MQ below (fun _ _ o _ => o = .returned (some (.int 1))) (fun _ _ _ => False) #[Value.ref b] s room_1.cells room_1.slots (fun _ => False)) g), m, 17, (fun τ H => va_P (dC, dI) vwCl τ H ∧ va_D (fun q : Nat => s.heap.size ≤ q) τ), (fun q : Nat => s.heap.size ≤ q), s.heap, (.inl none, [eLv 0, eLv 0])) : Xt Tx) → J x [(0, .ref b)] [] [] 0 0 0 := by
    intro x hxe
    have X : Wt x (dC, dI) := by subst hxe; exact ⟨fun _ _ => Iff.rfl, fun q hq => hq⟩
    have CV : Cv K x code 17 RL (some .boolean) c.exceptionTable.toList wsL room_1 (dC, dI) [(cB, .byte), (cV, .object RX0), (cR, .object RX2)] := by
      subst hxe
      exact ⟨p, l, e, s, #[Value.ref b], below, meth, c, (fun _ _ o _ => o = .returned (some (.int 1))), (fun _ _ _ => False), (fun _ => False), fun _ _ _ _ _ => Iff.rfl, hx, hb, hml, rfl, htL, hown, hK, hr, hlocks, rfl, hst, rfl, hSt, hT⟩
    have C0 : Cx x code 17 RL (some .boolean) c.exceptionTable.toList wsL room_1 (dC, dI) [(cB, .byte), (cV, .object RX0), (cR, .object RX2)] := by
      subst hxe
      refine ⟨p, l, e, s, #[Value.ref b], below, meth, c, (fun _ _ o _ => o = .returned (some (.int 1))), (fun _ _ _ => False), (fun _ => False), fun _ _ _ _ _ => Iff.rfl, hx, hb, hml, rfl, htL, hown, hK, hr, hlocks, rfl, hst, rfl, hSt, fun v σ H locs hg hp hS => ?_, fun E σ H locs hg => ?_⟩
      · have h2 : [eLv 0, eLv 0] = σ := (Prod.mk.inj hg).2
        subst h2
        exact absurd (hp.2.1 0 1 _ _ rfl rfl rfl) (by decide)
      · exact absurd (Prod.mk.inj hg).1 (by intro q; cases q)
    have S9 : CA K x code 17 RL (some .boolean) c.exceptionTable.toList wsL room_1 (dC, dI) [(cB, .byte), (cV, .object RX0), (cR, .object RX2)] b L xs := by
      subst hxe
      exact ⟨p, l, e, s, #[Value.ref b], below, meth, c, (fun _ _ o _ => o = .returned (some (.int 1))), (fun _ _ _ => False), (fun _ => False), fun _ _ _ _ _ => Iff.rfl, hx, hb, hml, rfl, htL, hown, rfl, hX, hbl, hbA, by omega⟩
    have hend : ∀ lo w kc ns, kc ≤ 612008 → ns ≤ 7258737 → J x lo [.int 1] w 1255 kc ns := by
      intro lo w kc ns h1 h2
      subst hxe
      intro H locs ls hl hP hS
      show W p l e room_1 s m #[Value.ref b] below meth c H locs kc ns (vx_MQ below (fun _ _ o _ => o = .returned (some (.int 1))) (fun _ _ _ => False) #[Value.ref b] s room_1.cells room_1.slots (fun _ => False)) _
      refine W.widen h1 h2 (va_forget (fun q hq => hS.2.2 q hq) (vx_ret ?_))
      exact W.zret hx hb hr (by decide) (fun t ht hW => rfl) (fun q hq => by cases hq) dL_law_1255 hlocks
    refine law_start CV C0 X (tv := 1) (tr := 2) rfl rfl rfl (fun a_ m1 s_a p_a w_a r_a q0_a q1_a q2_a q3_a q4_a q5_a q6_a q7_a t_a l1_a l2_a l3_a l4_a l5_a l6_a m2 s_b p_b w_b r_b q0_b q1_b q2_b q3_b q4_b q5_b q6_b q7_b t_b l1_b l2_b l3_b l4_b l5_b l6_b b_ v_ => ?_)
    let Lst : List Nat := [s_a, l1_a, l2_a, l3_a, l4_a, l5_a, l6_a, m1, t_a, w_a, s_b, l1_b, l2_b, l3_b, l4_b, l5_b, l6_b, m2, t_b, w_b, q0_a, q1_a, q2_a, q3_a, q4_a, q5_a, q6_a, q7_a, q0_b, q1_b, q2_b, q3_b, q4_b, q5_b, q6_b, q7_b, p_a, p_b, r_a, r_b, a_]
    let ad : Nat → Nat := fun i => Lst.getD i 0
    let cl6 : Nat → ClassId := fun k => match k with | 0 => cV | _ => cR
    let G : Gt := ((dC, dI), cl6, ad)
    refine jt_refarr X 3 (fun j => some (ad (s0r b_ 0 36 j))) rfl (fun j hj => by rcases (by omega : j = 0 ∨ j = 1 ∨ j = 2 ∨ j = 3 ∨ j = 4 ∨ j = 5 ∨ j = 6) with rfl | rfl | rfl | rfl | rfl | rfl | rfl <;> rfl) ?_
    refine jt_refarr X 23 (fun j => some (ad (s0r b_ 0 37 j))) rfl (fun j hj => by rcases (by omega : j = 0 ∨ j = 1 ∨ j = 2 ∨ j = 3 ∨ j = 4 ∨ j = 5 ∨ j = 6) with rfl | rfl | rfl | rfl | rfl | rfl | rfl <;> rfl) ?_
    refine jt_refarr X 5 (fun j => some (ad (s0r b_ 0 38 j))) rfl (fun j hj => by rcases (by omega : j = 0 ∨ j = 1 ∨ j = 2 ∨ j = 3 ∨ j = 4 ∨ j = 5 ∨ j = 6 ∨ j = 7) with rfl | rfl | rfl | rfl | rfl | rfl | rfl | rfl <;> rfl) ?_
    refine jt_refarr X 25 (fun j => some (ad (s0r b_ 0 39 j))) rfl (fun j hj => by rcases (by omega : j = 0 ∨ j = 1 ∨ j = 2 ∨ j = 3 ∨ j = 4 ∨ j = 5 ∨ j = 6 ∨ j = 7) with rfl | rfl | rfl | rfl | rfl | rfl | rfl | rfl <;> rfl) ?_
    refine jt_pick X [2, 15, 16, 17, 18, 19, 20, 1, 14, 4, 22, 35, 36, 37, 38, 39, 40, 21, 34, 24, 6, 7, 8, 9, 10, 11, 12, 13, 26, 27, 28, 29, 30, 31, 32, 33, 3, 23, 5, 25, 0, 41, 42] (w' := wsF G (s0 b_ 0) ++ [(b_, .inr (1, [.ref v_, .int 0, .int 0, .int 0])), (v_, .inl (cB, 16, .inl (fun _ => 0)))]) (by decide) rfl ?_
    letI : Inhabited Bl := ⟨(b_ : Nat)⟩
    obtain ⟨r, σ9, hlaw, ⟨L9, N9, g9, O9, hI9⟩, hs9⟩ := law_pure (n := 2000) (A := L) (xs := xs) (by omega) (inv_s0 b_ 0)
    obtain ⟨y, l9, zz, hy, hl9, hz, hyz⟩ := trip_INV hI9
    have hb9 : σ9.2 40 2 = b_ := hI9.bl
    refine law_walk (G := G) (cB := cB) 2000 C0 CV S9 X (s0 b_ 0) r σ9 hlaw (fun kc ns h1 h2 => ?_) 100 5000 (by omega) (by omega)
    have ht := law_tail (G := G) (cB := cB) 2000 C0 CV X σ9 r hs9 (v := v_) (f := fun _ => 0) (Or.inl rfl) fit_0 hyz hy hl9 hz hend kc ns h1 (by omega)
    rw [hb9] at ht
    exact ht
  have hl := lv_entry ([.ref b]) (n := 17) (Nat.le_of_ble_eq_true rfl)
  rw [lg_entry_eq]
  intro T hT9 Y
  obtain ⟨t, a1, o, b1, b2, b3⟩ := HJ _ rfl s.heap [] _ hl ⟨fun k q h => by simp at h, fun i j p q h => by simp at h, fun k q h => by simp at h⟩ va_S.rf T hT9 Y
  rcases b3 with ⟨b3, Lc, hF, hq⟩ | ⟨q, -, hq⟩
  · cases Lc with
    | nil => exact ⟨t, a1, o, b1, b2, b3, lw_closed (d0 := s.drawn) (Drawn.sameBut.refl s.drawn lw_cs) hF.1 hF.2.1 hF.2.2⟩
    | cons z Lc => exact absurd (hq z List.mem_cons_self) id
  · obtain ⟨E, ce, Lz, h9, -⟩ := hq
    exact absurd h9 id
