/-! PinnedPantry$Store: a series, places, what is told; a new one -/
set_option maxHeartbeats 4000000 in
set_option maxRecDepth 100000 in
/-- bringSeries -/
theorem c_X1_bringSeries (l : Launch) (D : va_G) (a : Nat → Nat) (N T A B : List Nat) (to pi : Nat → Nat) (fe : Nat → Int32) (pl go : Nat) (hi mi re lo : Int32) (g0 g1 g2 g3 g4 g5 g6 : Nat → Int32) (fr st m : Nat) (h0 : Int32) (s' : PS) (hS : SR (N, T, A, B, to, pi, fe, pl, go, hi, mi, re, lo) (g0, g1, g2, g3, g4, g5, g6)) (hW : WF (N, T, A, B, to, pi, fe, pl, go, hi, mi, re, lo)) (hfr : fr < 40) (hst : st < 40) (hm : m ≤ 30) (hh : hi = h0) (hs : srs fr st m 0 (N, T, A, B, to, pi, fe, pl, go, hi, mi, re, lo) = s') : MU l yX1_bringSeries cX1_bringSeries 6 (some .int) 5 113 D [.ref (a 0), .int (nI fr), .int (nI st), .int (nI m)] [((a 0), .inr (1, [.ref (a 1), .ref (a 3), .ref (a 5), .ref (a 7), .ref (a 9), .ref (a 11), .ref (a 13), .int (nI pl), .int (nI go), .int hi, .int mi, .int re, .int lo])), ((a 1), .inr (0, [.ref (a 2), .int (nI N.length)])), ((a 2), .inl (D.1 20, 40, .inl g0)), ((a 3), .inr (0, [.ref (a 4), .int (nI T.length)])), ((a 4), .inl (D.1 20, 40, .inl g1)), ((a 5), .inr (0, [.ref (a 6), .int (nI A.length)])), ((a 6), .inl (D.1 20, 40, .inl g2)), ((a 7), .inr (0, [.ref (a 8), .int (nI B.length)])), ((a 8), .inl (D.1 20, 40, .inl g3)), ((a 9), .inr (2, [.ref (a 10)])), ((a 10), .inl (D.1 20, 40, .inl g4)), ((a 11), .inr (2, [.ref (a 12)])), ((a 12), .inl (D.1 20, 40, .inl g5)), ((a 13), .inr (2, [.ref (a 14)])), ((a 14), .inl (D.1 20, 40, .inl g6))] (fun v (u : PS × PG) => v = some (.int (hiS s' - h0)) ∧ u.1 = s' ∧ SR u.1 u.2) (fun u => wSt D a u.1 u.2) 0 0 := by
  refine MU.enter (by decide) [(0, .ref (a 0)), (1, .int (nI fr)), (2, .int (nI st)), (3, .int (nI m))] rfl (Nat.le_of_ble_eq_true rfl) (fun G hC hE => ?_)
  have hC : CX G D cX1_bringSeries RX1 6 := hC
  have hS0 := hS
  have hW0 := hW
  obtain ⟨r0, r1, r2, r3, r4, r5, r6⟩ := hS
  obtain ⟨kN, kT, kA, kB, nd, len, lA, lB, p2, p12, g12, t1, p9⟩ := hW
  refine k_aload_n hC 0 dX1_bringSeries_0 rfl ?_
  refine k_getf hC 1 0 9 dX1_bringSeries_1 rfl rfl inlX1 (by decide) wq_11_10 rfl ?_
  refine KJ.topi (y := h0) hh ?_
  refine k_istore hC 4 4 [(4, .int h0), (0, .ref (a 0)), (1, .int (nI fr)), (2, .int (nI st)), (3, .int (nI m))] dX1_bringSeries_4 (by decide) rfl ?_
  refine k_iconst hC 6 dX1_bringSeries_6 (nI 0) (by decide) ?_
  refine k_istore hC 7 5 [(5, .int (nI 0)), (4, .int h0), (0, .ref (a 0)), (1, .int (nI fr)), (2, .int (nI st)), (3, .int (nI m))] dX1_bringSeries_7 (by decide) rfl ?_
  have loop9 : ∀ (n9 : Nat) (i : Nat) (N T A B : List Nat) (to pi : Nat → Nat) (fe : Nat → Int32) (pl go : Nat) (hi mi re lo : Int32) (g0 g1 g2 g3 g4 g5 g6 : Nat → Int32), m - i < n9 → i ≤ m → SR (N, T, A, B, to, pi, fe, pl, go, hi, mi, re, lo) (g0, g1, g2, g3, g4, g5, g6) → WF (N, T, A, B, to, pi, fe, pl, go, hi, mi, re, lo) → srs fr st (m - i) i (N, T, A, B, to, pi, fe, pl, go, hi, mi, re, lo) = s' → KJ l G D ({ frames := 5, cells := 0, slots := 0, locals := 113 } : Room) 6 0 0 [((a 0), .inr (1, [.ref (a 1), .ref (a 3), .ref (a 5), .ref (a 7), .ref (a 9), .ref (a 11), .ref (a 13), .int (nI pl), .int (nI go), .int hi, .int mi, .int re, .int lo])), ((a 1), .inr (0, [.ref (a 2), .int (nI N.length)])), ((a 2), .inl (D.1 20, 40, .inl g0)), ((a 3), .inr (0, [.ref (a 4), .int (nI T.length)])), ((a 4), .inl (D.1 20, 40, .inl g1)), ((a 5), .inr (0, [.ref (a 6), .int (nI A.length)])), ((a 6), .inl (D.1 20, 40, .inl g2)), ((a 7), .inr (0, [.ref (a 8), .int (nI B.length)])), ((a 8), .inl (D.1 20, 40, .inl g3)), ((a 9), .inr (2, [.ref (a 10)])), ((a 10), .inl (D.1 20, 40, .inl g4)), ((a 11), .inr (2, [.ref (a 12)])), ((a 12), .inl (D.1 20, 40, .inl g5)), ((a 13), .inr (2, [.ref (a 14)])), ((a 14), .inl (D.1 20, 40, .inl g6))] [(5, .int (nI i)), (4, .int h0), (0, .ref (a 0)), (1, .int (nI fr)), (2, .int (nI st)), (3, .int (nI m))] 9 [] := by
    intro n9
    induction n9 with
    | zero => intro i N T A B to pi fe pl go hi mi re lo g0 g1 g2 g3 g4 g5 g6 h; exact absurd h (Nat.not_lt_zero _)
    | succ n9 ih9 =>
      intro i N T A B to pi fe pl go hi mi re lo g0 g1 g2 g3 g4 g5 g6 hn9 hi2 hS hW hs
      have hS0 := hS
      have hW0 := hW
      obtain ⟨r0, r1, r2, r3, r4, r5, r6⟩ := hS
      obtain ⟨kN, kT, kA, kB, nd, len, lA, lB, p2, p12, g12, t1, p9⟩ := hW
      have hmul : i * st ≤ 30 * 39 := Nat.mul_le_mul (by omega) (by omega)
      have hk : (fr + i * st) % 40 < 40 := Nat.mod_lt _ (by decide)
      refine k_iload hC 9 dX1_bringSeries_9 rfl ?_
      refine k_iload_n hC 11 dX1_bringSeries_11 rfl ?_
      refine n_icmp_ge hC 12 35 dX1_bringSeries_12 (by decide) (by omega) (by omega) (fun h12 => ?_) (fun h12 => ?_)
      · skip
        refine k_aload_n hC 35 dX1_bringSeries_35 rfl ?_
        refine k_getf hC 36 0 9 dX1_bringSeries_36 rfl rfl inlX1 (by decide) wq_11_10 rfl ?_
        refine k_iload hC 39 dX1_bringSeries_39 rfl ?_
        refine k_isub hC 41 dX1_bringSeries_41 (KJ.topi (y := (hiS s' - h0)) (by rw [← hs, show m - i = 0 by omega]; rfl) ?_)
        exact k_iret hC hE 42 ((N, T, A, B, to, pi, fe, pl, go, hi, mi, re, lo), (g0, g1, g2, g3, g4, g5, g6)) dX1_bringSeries_42 rfl (⟨rfl, by rw [← hs, show m - i = 0 by omega]; rfl, hS0⟩) rfl ⟨Nat.zero_le _, Nat.zero_le _⟩
      · skip
        refine k_aload_n hC 15 dX1_bringSeries_15 rfl ?_
        refine k_iload_n hC 16 dX1_bringSeries_16 rfl ?_
        refine k_iload hC 17 dX1_bringSeries_17 rfl ?_
        refine k_iload_n hC 19 dX1_bringSeries_19 rfl ?_
        refine n_imul hC 20 (i * st) dX1_bringSeries_20 rfl ?_
        refine n_iadd hC 21 (fr + (i * st)) dX1_bringSeries_21 rfl ?_
        refine k_bipush hC 22 dX1_bringSeries_22 (nI 40) (by decide) ?_
        refine k_irem hC 24 dX1_bringSeries_24 (by decide) (KJ.topi (y := (nI ((fr + i * st) % 40))) (pk_rem (by omega) (by decide) (by decide)) ?_)
        refine k_callV hC 25 0 [0, 1, 2, 3, 4, 5, 6, 7, 8, 9, 10, 11, 12, 13, 14] (fun u => [((a 0), .inr (1, [.ref (a 1), .ref (a 3), .ref (a 5), .ref (a 7), .ref (a 9), .ref (a 11), .ref (a 13), .int (nI u.1.2.2.2.2.2.2.2.1), .int (nI u.1.2.2.2.2.2.2.2.2.1), .int u.1.2.2.2.2.2.2.2.2.2.1, .int u.1.2.2.2.2.2.2.2.2.2.2.1, .int u.1.2.2.2.2.2.2.2.2.2.2.2.1, .int u.1.2.2.2.2.2.2.2.2.2.2.2.2])), ((a 1), .inr (0, [.ref (a 2), .int (nI u.1.1.length)])), ((a 2), .inl (D.1 20, 40, .inl u.2.1)), ((a 3), .inr (0, [.ref (a 4), .int (nI u.1.2.1.length)])), ((a 4), .inl (D.1 20, 40, .inl u.2.2.1)), ((a 5), .inr (0, [.ref (a 6), .int (nI u.1.2.2.1.length)])), ((a 6), .inl (D.1 20, 40, .inl u.2.2.2.1)), ((a 7), .inr (0, [.ref (a 8), .int (nI u.1.2.2.2.1.length)])), ((a 8), .inl (D.1 20, 40, .inl u.2.2.2.2.1)), ((a 9), .inr (2, [.ref (a 10)])), ((a 10), .inl (D.1 20, 40, .inl u.2.2.2.2.2.1)), ((a 11), .inr (2, [.ref (a 12)])), ((a 12), .inl (D.1 20, 40, .inl u.2.2.2.2.2.2.1)), ((a 13), .inr (2, [.ref (a 14)])), ((a 14), .inl (D.1 20, 40, .inl u.2.2.2.2.2.2.2))]) (c_X1_bring l D a N T A B to pi fe pl go hi mi re lo g0 g1 g2 g3 g4 g5 g6 ((fr + i * st) % 40) hS0 hW0 hk) cw_RX1_111 dX1_bringSeries_25 ⟨Nat.le_of_ble_eq_true rfl, Nat.le_of_ble_eq_true rfl, Nat.le_of_ble_eq_true rfl, Nat.le_of_ble_eq_true rfl⟩ rfl (Nat.le_of_ble_eq_true rfl) rfl rfl rfl (by decide) rfl (fun _ => Nat.le_of_ble_eq_true rfl) (fun _ => rfl) _ rfl (fun v u hp => ?_)
        obtain ⟨⟨N1, T1, A1, B1, to1, pi1, fe1, pl1, go1, hi1, mi1, re1, lo1⟩, y01, y11, y21, y31, y41, y51, y61⟩ := u
        obtain ⟨rfl, e1, hS1⟩ := hp
        have e1 : (N1, T1, A1, B1, to1, pi1, fe1, pl1, go1, hi1, mi1, re1, lo1) = br (N, T, A, B, to, pi, fe, pl, go, hi, mi, re, lo) ((fr + i * st) % 40) := e1
        have hS1 : SR (N1, T1, A1, B1, to1, pi1, fe1, pl1, go1, hi1, mi1, re1, lo1) (y01, y11, y21, y31, y41, y51, y61) := hS1
        refine KJ.eqs (st' := .int (ocI (oc (N, T, A, B, to, pi, fe, pl, go, hi, mi, re, lo) ((fr + i * st) % 40))) :: []) rfl ?_
        refine KJ.eqw (ws' := [((a 0), .inr (1, [.ref (a 1), .ref (a 3), .ref (a 5), .ref (a 7), .ref (a 9), .ref (a 11), .ref (a 13), .int (nI pl1), .int (nI go1), .int hi1, .int mi1, .int re1, .int lo1])), ((a 1), .inr (0, [.ref (a 2), .int (nI N1.length)])), ((a 2), .inl (D.1 20, 40, .inl y01)), ((a 3), .inr (0, [.ref (a 4), .int (nI T1.length)])), ((a 4), .inl (D.1 20, 40, .inl y11)), ((a 5), .inr (0, [.ref (a 6), .int (nI A1.length)])), ((a 6), .inl (D.1 20, 40, .inl y21)), ((a 7), .inr (0, [.ref (a 8), .int (nI B1.length)])), ((a 8), .inl (D.1 20, 40, .inl y31)), ((a 9), .inr (2, [.ref (a 10)])), ((a 10), .inl (D.1 20, 40, .inl y41)), ((a 11), .inr (2, [.ref (a 12)])), ((a 12), .inl (D.1 20, 40, .inl y51)), ((a 13), .inr (2, [.ref (a 14)])), ((a 14), .inl (D.1 20, 40, .inl y61))]) rfl ?_
        refine k_pop hC 28 dX1_bringSeries_28 rfl ?_
        refine k_iinc hC 29 0 (nI (i + 1)) [(5, .int (nI (i + 1))), (4, .int h0), (0, .ref (a 0)), (1, .int (nI fr)), (2, .int (nI st)), (3, .int (nI m))] dX1_bringSeries_29 rfl (nI_1 _) (by decide) rfl ?_
        refine k_goto hC 32 9 dX1_bringSeries_32 (by decide) ?_
        exact ih9 (i + 1) N1 T1 A1 B1 to1 pi1 fe1 pl1 go1 hi1 mi1 re1 lo1 y01 y11 y21 y31 y41 y51 y61 (by omega) (by omega) hS1 (by rw [e1]; exact br_wf hW0 hk) (by rw [← hs, e1, show m - i = (m - (i + 1)) + 1 by omega]; rfl)
  exact loop9 (m + 1) 0 N T A B to pi fe pl go hi mi re lo g0 g1 g2 g3 g4 g5 g6 (by omega) (by omega) hS0 hW0 hs
set_option maxHeartbeats 4000000 in
set_option maxRecDepth 100000 in
/-- resize -/
theorem c_X1_resize (l : Launch) (D : va_G) (a : Nat → Nat) (N T A B : List Nat) (to pi : Nat → Nat) (fe : Nat → Int32) (pl go : Nat) (hi mi re lo : Int32) (g0 g1 g2 g3 g4 g5 g6 : Nat → Int32) (p : Nat) (s' : PS) (hS : SR (N, T, A, B, to, pi, fe, pl, go, hi, mi, re, lo) (g0, g1, g2, g3, g4, g5, g6)) (hW : WF (N, T, A, B, to, pi, fe, pl, go, hi, mi, re, lo)) (hp2 : 2 ≤ p) (hp12 : p ≤ 12) (hpp : pc pi N + pc pi T ≤ p) (hs0 : swM p 12 (setPl p (N, T, A, B, to, pi, fe, pl, go, hi, mi, re, lo)) = s') : MU l yX1_resize cX1_resize 3 none 4 91 D [.ref (a 0), .int (nI p)] [((a 0), .inr (1, [.ref (a 1), .ref (a 3), .ref (a 5), .ref (a 7), .ref (a 9), .ref (a 11), .ref (a 13), .int (nI pl), .int (nI go), .int hi, .int mi, .int re, .int lo])), ((a 1), .inr (0, [.ref (a 2), .int (nI N.length)])), ((a 2), .inl (D.1 20, 40, .inl g0)), ((a 3), .inr (0, [.ref (a 4), .int (nI T.length)])), ((a 4), .inl (D.1 20, 40, .inl g1)), ((a 5), .inr (0, [.ref (a 6), .int (nI A.length)])), ((a 6), .inl (D.1 20, 40, .inl g2)), ((a 7), .inr (0, [.ref (a 8), .int (nI B.length)])), ((a 8), .inl (D.1 20, 40, .inl g3)), ((a 9), .inr (2, [.ref (a 10)])), ((a 10), .inl (D.1 20, 40, .inl g4)), ((a 11), .inr (2, [.ref (a 12)])), ((a 12), .inl (D.1 20, 40, .inl g5)), ((a 13), .inr (2, [.ref (a 14)])), ((a 14), .inl (D.1 20, 40, .inl g6))] (fun v (u : PS × PG) => v = none ∧ u.1 = cutS p s' ∧ SR u.1 u.2) (fun u => wSt D a u.1 u.2) 0 0 := by
  refine MU.enter (by decide) [(0, .ref (a 0)), (1, .int (nI p))] rfl (Nat.le_of_ble_eq_true rfl) (fun G hC hE => ?_)
  have hC : CX G D cX1_resize RX1 3 := hC
  have hS0 := hS
  have hW0 := hW
  obtain ⟨r0, r1, r2, r3, r4, r5, r6⟩ := hS
  obtain ⟨kN, kT, kA, kB, nd, len, lA, lB, p2, p12, g12, t1, p9⟩ := hW
  refine k_aload_n hC 0 dX1_resize_0 rfl ?_
  refine k_iload_n hC 1 dX1_resize_1 rfl ?_
  refine k_putf hC 2 (ty0 := tyX1) 0 7 [((a 0), .inr (1, [.ref (a 1), .ref (a 3), .ref (a 5), .ref (a 7), .ref (a 9), .ref (a 11), .ref (a 13), .int (nI p), .int (nI go), .int hi, .int mi, .int re, .int lo])), ((a 1), .inr (0, [.ref (a 2), .int (nI N.length)])), ((a 2), .inl (D.1 20, 40, .inl g0)), ((a 3), .inr (0, [.ref (a 4), .int (nI T.length)])), ((a 4), .inl (D.1 20, 40, .inl g1)), ((a 5), .inr (0, [.ref (a 6), .int (nI A.length)])), ((a 6), .inl (D.1 20, 40, .inl g2)), ((a 7), .inr (0, [.ref (a 8), .int (nI B.length)])), ((a 8), .inl (D.1 20, 40, .inl g3)), ((a 9), .inr (2, [.ref (a 10)])), ((a 10), .inl (D.1 20, 40, .inl g4)), ((a 11), .inr (2, [.ref (a 12)])), ((a 12), .inl (D.1 20, 40, .inl g5)), ((a 13), .inr (2, [.ref (a 14)])), ((a 14), .inl (D.1 20, 40, .inl g6))] dX1_resize_2 rfl rfl inlX1 tyX1_ok nmX1 (by decide) wq_2_8 rfl rfl rfl (Nat.le_of_ble_eq_true rfl) rfl ?_
  refine k_aload_n hC 5 dX1_resize_5 rfl ?_
  have wp : WF (N, T, A, B, to, pi, fe, p, go, hi, mi, re, lo) := setPl_wf hW0 hp2 hp12
  refine k_callVr hC 6 0 [0, 1, 2, 3, 4, 5, 6, 7, 8, 9, 10, 11, 12, 13, 14] (c_X1_jars l D a N T A B to pi fe p go hi mi re lo g0 g1 g2 g3 g4 g5 g6 hS0 wp) cw_RX1_87 dX1_resize_6 ⟨Nat.le_of_ble_eq_true rfl, Nat.le_of_ble_eq_true rfl, Nat.le_of_ble_eq_true rfl, Nat.le_of_ble_eq_true rfl⟩ rfl (Nat.le_of_ble_eq_true rfl) rfl rfl rfl (by decide) rfl (fun _ => Nat.le_of_ble_eq_true rfl) (fun _ => rfl) _ rfl (fun v u hp => ?_)
  obtain rfl := hp
  refine KJ.eqs (st' := .int (nI (N.length + T.length)) :: []) rfl ?_
  refine k_aload_n hC 9 dX1_resize_9 rfl ?_
  refine k_getf hC 10 0 7 dX1_resize_10 rfl rfl inlX1 (by decide) wq_2_8 rfl ?_
  by_cases hm : p ≤ N.length + T.length
  · skip
    refine n_isub hC 13 ((N.length + T.length) - p) dX1_resize_13 (by omega) rfl ?_
    refine k_istore_n hC 14 2 [(2, .int (nI ((N.length + T.length) - p))), (0, .ref (a 0)), (1, .int (nI p))] dX1_resize_14 rfl (by decide) rfl ?_
    have loop15 : ∀ (n15 : Nat) (x nn : Nat) (N T A B : List Nat) (to pi : Nat → Nat) (fe : Nat → Int32) (go : Nat) (hi mi re lo : Int32) (g0 g1 g2 g3 g4 g5 g6 : Nat → Int32), x < n15 → x = N.length + T.length - p → N.length + T.length ≤ p + nn → SR (N, T, A, B, to, pi, fe, p, go, hi, mi, re, lo) (g0, g1, g2, g3, g4, g5, g6) → WF (N, T, A, B, to, pi, fe, p, go, hi, mi, re, lo) → pc pi N + pc pi T ≤ p → swM p nn (N, T, A, B, to, pi, fe, p, go, hi, mi, re, lo) = s' → KJ l G D ({ frames := 4, cells := 0, slots := 0, locals := 91 } : Room) 3 0 0 [((a 0), .inr (1, [.ref (a 1), .ref (a 3), .ref (a 5), .ref (a 7), .ref (a 9), .ref (a 11), .ref (a 13), .int (nI p), .int (nI go), .int hi, .int mi, .int re, .int lo])), ((a 1), .inr (0, [.ref (a 2), .int (nI N.length)])), ((a 2), .inl (D.1 20, 40, .inl g0)), ((a 3), .inr (0, [.ref (a 4), .int (nI T.length)])), ((a 4), .inl (D.1 20, 40, .inl g1)), ((a 5), .inr (0, [.ref (a 6), .int (nI A.length)])), ((a 6), .inl (D.1 20, 40, .inl g2)), ((a 7), .inr (0, [.ref (a 8), .int (nI B.length)])), ((a 8), .inl (D.1 20, 40, .inl g3)), ((a 9), .inr (2, [.ref (a 10)])), ((a 10), .inl (D.1 20, 40, .inl g4)), ((a 11), .inr (2, [.ref (a 12)])), ((a 12), .inl (D.1 20, 40, .inl g5)), ((a 13), .inr (2, [.ref (a 14)])), ((a 14), .inl (D.1 20, 40, .inl g6))] [(2, .int (nI x)), (0, .ref (a 0)), (1, .int (nI p))] 15 [] := by
      intro n15
      induction n15 with
      | zero => intro x nn N T A B to pi fe go hi mi re lo g0 g1 g2 g3 g4 g5 g6 h; exact absurd h (Nat.not_lt_zero _)
      | succ n15 ih15 =>
        intro x nn N T A B to pi fe go hi mi re lo g0 g1 g2 g3 g4 g5 g6 hn15 hx hnn hS hW hpp hs
        have hS0 := hS
        have hW0 := hW
        obtain ⟨r0, r1, r2, r3, r4, r5, r6⟩ := hS
        obtain ⟨kN, kT, kA, kB, nd, len, lA, lB, p2, p12, g12, t1, p9⟩ := hW
        refine k_iload_n hC 15 dX1_resize_15 rfl ?_
        refine n_if_le hC 16 30 dX1_resize_16 (by decide) (by omega) (fun h16 => ?_) (fun h16 => ?_)
        · skip
          have e1 : ((N, T, A, B, to, pi, fe, p, go, hi, mi, re, lo) : PS) = s' := (swM_stop (show ¬ p < jrs _ by show ¬ p < N.length + T.length; omega) nn).symm.trans hs
          refine k_aload_n hC 30 dX1_resize_30 rfl ?_
          refine k_aload_n hC 31 dX1_resize_31 rfl ?_
          refine k_getf hC 32 0 8 dX1_resize_32 rfl rfl inlX1 (by decide) wq_9_3 rfl ?_
          refine k_aload_n hC 35 dX1_resize_35 rfl ?_
          refine k_getf hC 36 0 7 dX1_resize_36 rfl rfl inlX1 (by decide) wq_2_8 rfl ?_
          refine k_min hC 39 dX1_resize_39 wq_9_4 wq_9_5 wq_9_6 wq_9_7 ⟨Nat.le_of_ble_eq_true rfl, Nat.le_of_ble_eq_true rfl, Nat.le_of_ble_eq_true rfl, Nat.le_of_ble_eq_true rfl⟩ (KJ.topi (y := (nI (min go p))) (nmin (by omega) (by omega)) ?_)
          refine k_putf hC 42 (ty0 := tyX1) 0 8 [((a 0), .inr (1, [.ref (a 1), .ref (a 3), .ref (a 5), .ref (a 7), .ref (a 9), .ref (a 11), .ref (a 13), .int (nI p), .int (nI (min go p)), .int hi, .int mi, .int re, .int lo])), ((a 1), .inr (0, [.ref (a 2), .int (nI N.length)])), ((a 2), .inl (D.1 20, 40, .inl g0)), ((a 3), .inr (0, [.ref (a 4), .int (nI T.length)])), ((a 4), .inl (D.1 20, 40, .inl g1)), ((a 5), .inr (0, [.ref (a 6), .int (nI A.length)])), ((a 6), .inl (D.1 20, 40, .inl g2)), ((a 7), .inr (0, [.ref (a 8), .int (nI B.length)])), ((a 8), .inl (D.1 20, 40, .inl g3)), ((a 9), .inr (2, [.ref (a 10)])), ((a 10), .inl (D.1 20, 40, .inl g4)), ((a 11), .inr (2, [.ref (a 12)])), ((a 12), .inl (D.1 20, 40, .inl g5)), ((a 13), .inr (2, [.ref (a 14)])), ((a 14), .inl (D.1 20, 40, .inl g6))] dX1_resize_42 rfl rfl inlX1 tyX1_ok nmX1 (by decide) wq_9_3 rfl rfl rfl (Nat.le_of_ble_eq_true rfl) rfl ?_
          refine k_aload_n hC 45 dX1_resize_45 rfl ?_
          refine k_getf hC 46 0 2 dX1_resize_46 rfl rfl inlX1 (by decide) wq_2_0 rfl ?_
          refine k_aload_n hC 49 dX1_resize_49 rfl ?_
          refine k_getf hC 50 0 7 dX1_resize_50 rfl rfl inlX1 (by decide) wq_2_8 rfl ?_
          refine k_callV hC 53 5 [5, 6] (fun z2 => [((a 0), .inr (1, [.ref (a 1), .ref (a 3), .ref (a 5), .ref (a 7), .ref (a 9), .ref (a 11), .ref (a 13), .int (nI p), .int (nI (min go p)), .int hi, .int mi, .int re, .int lo])), ((a 1), .inr (0, [.ref (a 2), .int (nI N.length)])), ((a 2), .inl (D.1 20, 40, .inl g0)), ((a 3), .inr (0, [.ref (a 4), .int (nI T.length)])), ((a 4), .inl (D.1 20, 40, .inl g1)), ((a 5), .inr (0, [.ref (a 6), .int (nI ((tr p A).length))])), ((a 6), .inl (D.1 20, 40, .inl z2)), ((a 7), .inr (0, [.ref (a 8), .int (nI B.length)])), ((a 8), .inl (D.1 20, 40, .inl g3)), ((a 9), .inr (2, [.ref (a 10)])), ((a 10), .inl (D.1 20, 40, .inl g4)), ((a 11), .inr (2, [.ref (a 12)])), ((a 12), .inl (D.1 20, 40, .inl g5)), ((a 13), .inr (2, [.ref (a 14)])), ((a 14), .inl (D.1 20, 40, .inl g6))]) (c_X0_forgetEldest l D (a 5) (a 6) A g2 p r2 (by omega) kA (by omega)) cw_RX1_148 dX1_resize_53 ⟨Nat.le_of_ble_eq_true rfl, Nat.le_of_ble_eq_true rfl, Nat.le_of_ble_eq_true rfl, Nat.le_of_ble_eq_true rfl⟩ rfl (Nat.le_of_ble_eq_true rfl) rfl rfl rfl (by decide) rfl (fun _ => Nat.le_of_ble_eq_true rfl) (fun _ => rfl) _ rfl (fun v z2 hp => ?_)
          obtain ⟨rfl, hz2⟩ := hp
          refine KJ.eqs (st' := []) rfl ?_
          refine k_aload_n hC 56 dX1_resize_56 rfl ?_
          refine k_getf hC 57 0 3 dX1_resize_57 rfl rfl inlX1 (by decide) wq_2_1 rfl ?_
          refine k_aload_n hC 60 dX1_resize_60 rfl ?_
          refine k_getf hC 61 0 7 dX1_resize_61 rfl rfl inlX1 (by decide) wq_2_8 rfl ?_
          refine k_callV hC 64 7 [7, 8] (fun z3 => [((a 0), .inr (1, [.ref (a 1), .ref (a 3), .ref (a 5), .ref (a 7), .ref (a 9), .ref (a 11), .ref (a 13), .int (nI p), .int (nI (min go p)), .int hi, .int mi, .int re, .int lo])), ((a 1), .inr (0, [.ref (a 2), .int (nI N.length)])), ((a 2), .inl (D.1 20, 40, .inl g0)), ((a 3), .inr (0, [.ref (a 4), .int (nI T.length)])), ((a 4), .inl (D.1 20, 40, .inl g1)), ((a 5), .inr (0, [.ref (a 6), .int (nI ((tr p A).length))])), ((a 6), .inl (D.1 20, 40, .inl z2)), ((a 7), .inr (0, [.ref (a 8), .int (nI ((tr p B).length))])), ((a 8), .inl (D.1 20, 40, .inl z3)), ((a 9), .inr (2, [.ref (a 10)])), ((a 10), .inl (D.1 20, 40, .inl g4)), ((a 11), .inr (2, [.ref (a 12)])), ((a 12), .inl (D.1 20, 40, .inl g5)), ((a 13), .inr (2, [.ref (a 14)])), ((a 14), .inl (D.1 20, 40, .inl g6))]) (c_X0_forgetEldest l D (a 7) (a 8) B g3 p r3 (by omega) kB (by omega)) cw_RX1_148 dX1_resize_64 ⟨Nat.le_of_ble_eq_true rfl, Nat.le_of_ble_eq_true rfl, Nat.le_of_ble_eq_true rfl, Nat.le_of_ble_eq_true rfl⟩ rfl (Nat.le_of_ble_eq_true rfl) rfl rfl rfl (by decide) rfl (fun _ => Nat.le_of_ble_eq_true rfl) (fun _ => rfl) _ rfl (fun v z3 hp => ?_)
          obtain ⟨rfl, hz3⟩ := hp
          refine KJ.eqs (st' := []) rfl ?_
          exact k_vret hC hE 67 ((N, T, (tr p A), (tr p B), to, pi, fe, p, min go p, hi, mi, re, lo), (g0, g1, z2, z3, g4, g5, g6)) dX1_resize_67 (⟨rfl, by rw [← e1]; rfl, r0, r1, hz2, hz3, r4, r5, r6⟩) rfl ⟨Nat.zero_le _, Nat.zero_le _⟩
        · skip
          obtain ⟨nn, rfl⟩ : ∃ y, nn = y + 1 := ⟨nn - 1, by omega⟩
          have hpj0 : p < jrs (N, T, A, B, to, pi, fe, p, go, hi, mi, re, lo) := by show p < N.length + T.length; omega
          have so := sw_ok hW0 (show pnd (N, T, A, B, to, pi, fe, p, go, hi, mi, re, lo) < jrs (N, T, A, B, to, pi, fe, p, go, hi, mi, re, lo) by show pc pi N + pc pi T < N.length + T.length; omega)
          refine k_aload_n hC 19 dX1_resize_19 rfl ?_
          refine k_callV hC 20 0 [0, 1, 2, 3, 4, 5, 6, 7, 8, 9, 10, 11, 12, 13, 14] (fun u => [((a 0), .inr (1, [.ref (a 1), .ref (a 3), .ref (a 5), .ref (a 7), .ref (a 9), .ref (a 11), .ref (a 13), .int (nI u.1.2.2.2.2.2.2.2.1), .int (nI u.1.2.2.2.2.2.2.2.2.1), .int u.1.2.2.2.2.2.2.2.2.2.1, .int u.1.2.2.2.2.2.2.2.2.2.2.1, .int u.1.2.2.2.2.2.2.2.2.2.2.2.1, .int u.1.2.2.2.2.2.2.2.2.2.2.2.2])), ((a 1), .inr (0, [.ref (a 2), .int (nI u.1.1.length)])), ((a 2), .inl (D.1 20, 40, .inl u.2.1)), ((a 3), .inr (0, [.ref (a 4), .int (nI u.1.2.1.length)])), ((a 4), .inl (D.1 20, 40, .inl u.2.2.1)), ((a 5), .inr (0, [.ref (a 6), .int (nI u.1.2.2.1.length)])), ((a 6), .inl (D.1 20, 40, .inl u.2.2.2.1)), ((a 7), .inr (0, [.ref (a 8), .int (nI u.1.2.2.2.1.length)])), ((a 8), .inl (D.1 20, 40, .inl u.2.2.2.2.1)), ((a 9), .inr (2, [.ref (a 10)])), ((a 10), .inl (D.1 20, 40, .inl u.2.2.2.2.2.1)), ((a 11), .inr (2, [.ref (a 12)])), ((a 12), .inl (D.1 20, 40, .inl u.2.2.2.2.2.2.1)), ((a 13), .inr (2, [.ref (a 14)])), ((a 14), .inl (D.1 20, 40, .inl u.2.2.2.2.2.2.2))]) (c_X1_sweep l D a N T A B to pi fe p go hi mi re lo g0 g1 g2 g3 g4 g5 g6 200 (sw (N, T, A, B, to, pi, fe, p, go, hi, mi, re, lo)).1 (sw (N, T, A, B, to, pi, fe, p, go, hi, mi, re, lo)).2 hS0 hW0 (by decide) so.1 (by omega)) cw_RX1_104 dX1_resize_20 ⟨Nat.le_of_ble_eq_true rfl, Nat.le_of_ble_eq_true rfl, Nat.le_of_ble_eq_true rfl, Nat.le_of_ble_eq_true rfl⟩ rfl (Nat.le_of_ble_eq_true rfl) rfl rfl rfl (by decide) rfl (fun _ => Nat.le_of_ble_eq_true rfl) (fun _ => rfl) _ rfl (fun v u hp => ?_)
          obtain ⟨⟨N1, T1, A1, B1, to1, pi1, fe1, pl1, go1, hi1, mi1, re1, lo1⟩, y01, y11, y21, y31, y41, y51, y61⟩ := u
          obtain ⟨rfl, e1, hS1⟩ := hp
          have e1 : (N1, T1, A1, B1, to1, pi1, fe1, pl1, go1, hi1, mi1, re1, lo1) = (sw (N, T, A, B, to, pi, fe, p, go, hi, mi, re, lo)).1 := e1
          have hS1 : SR (N1, T1, A1, B1, to1, pi1, fe1, pl1, go1, hi1, mi1, re1, lo1) (y01, y11, y21, y31, y41, y51, y61) := hS1
          have w1 : WF (N1, T1, A1, B1, to1, pi1, fe1, pl1, go1, hi1, mi1, re1, lo1) := by rw [e1]; exact so.2.1
          have j1 : N1.length + T1.length + 1 = N.length + T.length := by have h := so.2.2.2.1; rw [← e1] at h; exact h
          have q1 : pc pi1 N1 + pc pi1 T1 = pc pi N + pc pi T := by have h := so.2.2.1; rw [← e1] at h; exact h
          have pe : p = pl1 := by have h := so.2.2.2.2; rw [← e1] at h; exact h.symm
          subst pe
          refine KJ.eqs (st' := .int (nI ((sw (N, T, A, B, to, pi, fe, p, go, hi, mi, re, lo)).2)) :: []) rfl ?_
          refine KJ.eqw (ws' := [((a 0), .inr (1, [.ref (a 1), .ref (a 3), .ref (a 5), .ref (a 7), .ref (a 9), .ref (a 11), .ref (a 13), .int (nI p), .int (nI go1), .int hi1, .int mi1, .int re1, .int lo1])), ((a 1), .inr (0, [.ref (a 2), .int (nI N1.length)])), ((a 2), .inl (D.1 20, 40, .inl y01)), ((a 3), .inr (0, [.ref (a 4), .int (nI T1.length)])), ((a 4), .inl (D.1 20, 40, .inl y11)), ((a 5), .inr (0, [.ref (a 6), .int (nI A1.length)])), ((a 6), .inl (D.1 20, 40, .inl y21)), ((a 7), .inr (0, [.ref (a 8), .int (nI B1.length)])), ((a 8), .inl (D.1 20, 40, .inl y31)), ((a 9), .inr (2, [.ref (a 10)])), ((a 10), .inl (D.1 20, 40, .inl y41)), ((a 11), .inr (2, [.ref (a 12)])), ((a 12), .inl (D.1 20, 40, .inl y51)), ((a 13), .inr (2, [.ref (a 14)])), ((a 14), .inl (D.1 20, 40, .inl y61))]) rfl ?_
          refine k_pop hC 23 dX1_resize_23 rfl ?_
          refine k_iinc hC 24 0 (nI (x - 1)) [(2, .int (nI (x - 1))), (0, .ref (a 0)), (1, .int (nI p))] dX1_resize_24 rfl (by rw [show x = (x - 1) + 1 by omega]; exact pk_m1 _) (by decide) rfl ?_
          refine k_goto hC 27 15 dX1_resize_27 (by decide) ?_
          exact ih15 (x - 1) nn N1 T1 A1 B1 to1 pi1 fe1 go1 hi1 mi1 re1 lo1 y01 y11 y21 y31 y41 y51 y61 (by omega) (by omega) (by omega) hS1 w1 (by omega) (by rw [← hs, swM_go hpj0, e1])
    exact loop15 (N.length + T.length - p + 1) (N.length + T.length - p) 12 N T A B to pi fe go hi mi re lo g0 g1 g2 g3 g4 g5 g6 (by omega) rfl (by omega) hS0 wp hpp (by rw [← hs0]; rfl)
  · skip
    refine k_isub hC 13 dX1_resize_13 (KJ.topi (y := (nI (N.length + T.length) - nI p)) rfl ?_)
    refine k_istore_n hC 14 2 [(2, .int (nI (N.length + T.length) - nI p)), (0, .ref (a 0)), (1, .int (nI p))] dX1_resize_14 rfl (by decide) rfl ?_
    refine k_iload_n hC 15 dX1_resize_15 rfl ?_
    refine k_if_le hC 16 30 dX1_resize_16 (by decide) (fun h16 => ?_) (fun h16 => ?_)
    · skip
      have e1 : ((N, T, A, B, to, pi, fe, p, go, hi, mi, re, lo) : PS) = s' := (swM_stop (s := setPl p (N, T, A, B, to, pi, fe, pl, go, hi, mi, re, lo)) (show ¬ p < N.length + T.length from fun z => hm (Nat.le_of_lt z)) 12).symm.trans hs0
      refine k_aload_n hC 30 dX1_resize_30 rfl ?_
      refine k_aload_n hC 31 dX1_resize_31 rfl ?_
      refine k_getf hC 32 0 8 dX1_resize_32 rfl rfl inlX1 (by decide) wq_9_3 rfl ?_
      refine k_aload_n hC 35 dX1_resize_35 rfl ?_
      refine k_getf hC 36 0 7 dX1_resize_36 rfl rfl inlX1 (by decide) wq_2_8 rfl ?_
      refine k_min hC 39 dX1_resize_39 wq_9_4 wq_9_5 wq_9_6 wq_9_7 ⟨Nat.le_of_ble_eq_true rfl, Nat.le_of_ble_eq_true rfl, Nat.le_of_ble_eq_true rfl, Nat.le_of_ble_eq_true rfl⟩ (KJ.topi (y := (nI (min go p))) (nmin (by omega) (by omega)) ?_)
      refine k_putf hC 42 (ty0 := tyX1) 0 8 [((a 0), .inr (1, [.ref (a 1), .ref (a 3), .ref (a 5), .ref (a 7), .ref (a 9), .ref (a 11), .ref (a 13), .int (nI p), .int (nI (min go p)), .int hi, .int mi, .int re, .int lo])), ((a 1), .inr (0, [.ref (a 2), .int (nI N.length)])), ((a 2), .inl (D.1 20, 40, .inl g0)), ((a 3), .inr (0, [.ref (a 4), .int (nI T.length)])), ((a 4), .inl (D.1 20, 40, .inl g1)), ((a 5), .inr (0, [.ref (a 6), .int (nI A.length)])), ((a 6), .inl (D.1 20, 40, .inl g2)), ((a 7), .inr (0, [.ref (a 8), .int (nI B.length)])), ((a 8), .inl (D.1 20, 40, .inl g3)), ((a 9), .inr (2, [.ref (a 10)])), ((a 10), .inl (D.1 20, 40, .inl g4)), ((a 11), .inr (2, [.ref (a 12)])), ((a 12), .inl (D.1 20, 40, .inl g5)), ((a 13), .inr (2, [.ref (a 14)])), ((a 14), .inl (D.1 20, 40, .inl g6))] dX1_resize_42 rfl rfl inlX1 tyX1_ok nmX1 (by decide) wq_9_3 rfl rfl rfl (Nat.le_of_ble_eq_true rfl) rfl ?_
      refine k_aload_n hC 45 dX1_resize_45 rfl ?_
      refine k_getf hC 46 0 2 dX1_resize_46 rfl rfl inlX1 (by decide) wq_2_0 rfl ?_
      refine k_aload_n hC 49 dX1_resize_49 rfl ?_
      refine k_getf hC 50 0 7 dX1_resize_50 rfl rfl inlX1 (by decide) wq_2_8 rfl ?_
      refine k_callV hC 53 5 [5, 6] (fun z2 => [((a 0), .inr (1, [.ref (a 1), .ref (a 3), .ref (a 5), .ref (a 7), .ref (a 9), .ref (a 11), .ref (a 13), .int (nI p), .int (nI (min go p)), .int hi, .int mi, .int re, .int lo])), ((a 1), .inr (0, [.ref (a 2), .int (nI N.length)])), ((a 2), .inl (D.1 20, 40, .inl g0)), ((a 3), .inr (0, [.ref (a 4), .int (nI T.length)])), ((a 4), .inl (D.1 20, 40, .inl g1)), ((a 5), .inr (0, [.ref (a 6), .int (nI ((tr p A).length))])), ((a 6), .inl (D.1 20, 40, .inl z2)), ((a 7), .inr (0, [.ref (a 8), .int (nI B.length)])), ((a 8), .inl (D.1 20, 40, .inl g3)), ((a 9), .inr (2, [.ref (a 10)])), ((a 10), .inl (D.1 20, 40, .inl g4)), ((a 11), .inr (2, [.ref (a 12)])), ((a 12), .inl (D.1 20, 40, .inl g5)), ((a 13), .inr (2, [.ref (a 14)])), ((a 14), .inl (D.1 20, 40, .inl g6))]) (c_X0_forgetEldest l D (a 5) (a 6) A g2 p r2 (by omega) kA (by omega)) cw_RX1_148 dX1_resize_53 ⟨Nat.le_of_ble_eq_true rfl, Nat.le_of_ble_eq_true rfl, Nat.le_of_ble_eq_true rfl, Nat.le_of_ble_eq_true rfl⟩ rfl (Nat.le_of_ble_eq_true rfl) rfl rfl rfl (by decide) rfl (fun _ => Nat.le_of_ble_eq_true rfl) (fun _ => rfl) _ rfl (fun v z2 hp => ?_)
      obtain ⟨rfl, hz2⟩ := hp
      refine KJ.eqs (st' := []) rfl ?_
      refine k_aload_n hC 56 dX1_resize_56 rfl ?_
      refine k_getf hC 57 0 3 dX1_resize_57 rfl rfl inlX1 (by decide) wq_2_1 rfl ?_
      refine k_aload_n hC 60 dX1_resize_60 rfl ?_
      refine k_getf hC 61 0 7 dX1_resize_61 rfl rfl inlX1 (by decide) wq_2_8 rfl ?_
      refine k_callV hC 64 7 [7, 8] (fun z3 => [((a 0), .inr (1, [.ref (a 1), .ref (a 3), .ref (a 5), .ref (a 7), .ref (a 9), .ref (a 11), .ref (a 13), .int (nI p), .int (nI (min go p)), .int hi, .int mi, .int re, .int lo])), ((a 1), .inr (0, [.ref (a 2), .int (nI N.length)])), ((a 2), .inl (D.1 20, 40, .inl g0)), ((a 3), .inr (0, [.ref (a 4), .int (nI T.length)])), ((a 4), .inl (D.1 20, 40, .inl g1)), ((a 5), .inr (0, [.ref (a 6), .int (nI ((tr p A).length))])), ((a 6), .inl (D.1 20, 40, .inl z2)), ((a 7), .inr (0, [.ref (a 8), .int (nI ((tr p B).length))])), ((a 8), .inl (D.1 20, 40, .inl z3)), ((a 9), .inr (2, [.ref (a 10)])), ((a 10), .inl (D.1 20, 40, .inl g4)), ((a 11), .inr (2, [.ref (a 12)])), ((a 12), .inl (D.1 20, 40, .inl g5)), ((a 13), .inr (2, [.ref (a 14)])), ((a 14), .inl (D.1 20, 40, .inl g6))]) (c_X0_forgetEldest l D (a 7) (a 8) B g3 p r3 (by omega) kB (by omega)) cw_RX1_148 dX1_resize_64 ⟨Nat.le_of_ble_eq_true rfl, Nat.le_of_ble_eq_true rfl, Nat.le_of_ble_eq_true rfl, Nat.le_of_ble_eq_true rfl⟩ rfl (Nat.le_of_ble_eq_true rfl) rfl rfl rfl (by decide) rfl (fun _ => Nat.le_of_ble_eq_true rfl) (fun _ => rfl) _ rfl (fun v z3 hp => ?_)
      obtain ⟨rfl, hz3⟩ := hp
      refine KJ.eqs (st' := []) rfl ?_
      exact k_vret hC hE 67 ((N, T, (tr p A), (tr p B), to, pi, fe, p, min go p, hi, mi, re, lo), (g0, g1, z2, z3, g4, g5, g6)) dX1_resize_67 (⟨rfl, by rw [← e1]; rfl, r0, r1, hz2, hz3, r4, r5, r6⟩) rfl ⟨Nat.zero_le _, Nat.zero_le _⟩
    · skip
      exact absurd (Int32.le_of_lt (pk_sneg (by omega) (by omega))) h16
set_option maxHeartbeats 4000000 in
set_option maxRecDepth 100000 in
/-- tally -/
theorem c_X1_tally (l : Launch) (D : va_G) (a : Nat → Nat) (N T A B : List Nat) (to pi : Nat → Nat) (fe : Nat → Int32) (pl go : Nat) (hi mi re lo : Int32) (g0 g1 g2 g3 g4 g5 g6 : Nat → Int32) (n : Nat) (hS : SR (N, T, A, B, to, pi, fe, pl, go, hi, mi, re, lo) (g0, g1, g2, g3, g4, g5, g6)) (hW : WF (N, T, A, B, to, pi, fe, pl, go, hi, mi, re, lo)) (hn : n ≤ 10) : MU l yX1_tally cX1_tally 2 (some .int) 3 64 D [.ref (a 0), .int (nI n)] [((a 0), .inr (1, [.ref (a 1), .ref (a 3), .ref (a 5), .ref (a 7), .ref (a 9), .ref (a 11), .ref (a 13), .int (nI pl), .int (nI go), .int hi, .int mi, .int re, .int lo])), ((a 1), .inr (0, [.ref (a 2), .int (nI N.length)])), ((a 2), .inl (D.1 20, 40, .inl g0)), ((a 3), .inr (0, [.ref (a 4), .int (nI T.length)])), ((a 4), .inl (D.1 20, 40, .inl g1)), ((a 5), .inr (0, [.ref (a 6), .int (nI A.length)])), ((a 6), .inl (D.1 20, 40, .inl g2)), ((a 7), .inr (0, [.ref (a 8), .int (nI B.length)])), ((a 8), .inl (D.1 20, 40, .inl g3)), ((a 9), .inr (2, [.ref (a 10)])), ((a 10), .inl (D.1 20, 40, .inl g4)), ((a 11), .inr (2, [.ref (a 12)])), ((a 12), .inl (D.1 20, 40, .inl g5)), ((a 13), .inr (2, [.ref (a 14)])), ((a 14), .inl (D.1 20, 40, .inl g6))] (fun v (_ : Unit) => v = some (.int (ct (N, T, A, B, to, pi, fe, pl, go, hi, mi, re, lo) n))) (fun _ => [((a 0), .inr (1, [.ref (a 1), .ref (a 3), .ref (a 5), .ref (a 7), .ref (a 9), .ref (a 11), .ref (a 13), .int (nI pl), .int (nI go), .int hi, .int mi, .int re, .int lo])), ((a 1), .inr (0, [.ref (a 2), .int (nI N.length)])), ((a 2), .inl (D.1 20, 40, .inl g0)), ((a 3), .inr (0, [.ref (a 4), .int (nI T.length)])), ((a 4), .inl (D.1 20, 40, .inl g1)), ((a 5), .inr (0, [.ref (a 6), .int (nI A.length)])), ((a 6), .inl (D.1 20, 40, .inl g2)), ((a 7), .inr (0, [.ref (a 8), .int (nI B.length)])), ((a 8), .inl (D.1 20, 40, .inl g3)), ((a 9), .inr (2, [.ref (a 10)])), ((a 10), .inl (D.1 20, 40, .inl g4)), ((a 11), .inr (2, [.ref (a 12)])), ((a 12), .inl (D.1 20, 40, .inl g5)), ((a 13), .inr (2, [.ref (a 14)])), ((a 14), .inl (D.1 20, 40, .inl g6))]) 0 0 := by
  refine MU.enter (by decide) [(0, .ref (a 0)), (1, .int (nI n))] rfl (Nat.le_of_ble_eq_true rfl) (fun G hC hE => ?_)
  have hC : CX G D cX1_tally RX1 2 := hC
  have hS0 := hS
  have hW0 := hW
  obtain ⟨r0, r1, r2, r3, r4, r5, r6⟩ := hS
  obtain ⟨kN, kT, kA, kB, nd, len, lA, lB, p2, p12, g12, t1, p9⟩ := hW
  have q0 := pc_le pi N
  have q1 := pc_le pi T
  rcases (show n = 0 ∨ n = 1 ∨ n = 2 ∨ n = 3 ∨ n = 4 ∨ n = 5 ∨ n = 6 ∨ n = 7 ∨ n = 8 ∨ n = 9 ∨ n = 10 by omega) with rfl | rfl | rfl | rfl | rfl | rfl | rfl | rfl | rfl | rfl | rfl
  · skip
    refine k_iload_n hC 0 dX1_tally_0 rfl ?_
    refine k_tableIn hC 1 56 dX1_tally_1 (by decide) (by decide) rfl (by decide) ?_
    refine k_aload_n hC 56 dX1_tally_56 rfl ?_
    refine k_getf hC 57 0 7 dX1_tally_57 rfl rfl inlX1 (by decide) wq_2_8 rfl ?_
    exact k_iret hC hE 60 () dX1_tally_60 rfl rfl rfl ⟨Nat.zero_le _, Nat.zero_le _⟩
  · skip
    refine k_iload_n hC 0 dX1_tally_0 rfl ?_
    refine k_tableIn hC 1 61 dX1_tally_1 (by decide) (by decide) rfl (by decide) ?_
    refine k_aload_n hC 61 dX1_tally_61 rfl ?_
    refine k_getf hC 62 0 0 dX1_tally_62 rfl rfl inlX1 (by decide) wq_1_22 rfl ?_
    refine k_getfN hC 65 1 1 dX1_tally_65 rfl rfl inlX0 (by decide) hC.kt.2.1 rfl ?_
    exact k_iret hC hE 68 () dX1_tally_68 rfl rfl rfl ⟨Nat.zero_le _, Nat.zero_le _⟩
  · skip
    refine k_iload_n hC 0 dX1_tally_0 rfl ?_
    refine k_tableIn hC 1 69 dX1_tally_1 (by decide) (by decide) rfl (by decide) ?_
    refine k_aload_n hC 69 dX1_tally_69 rfl ?_
    refine k_getf hC 70 0 1 dX1_tally_70 rfl rfl inlX1 (by decide) wq_1_23 rfl ?_
    refine k_getfN hC 73 3 1 dX1_tally_73 rfl rfl inlX0 (by decide) hC.kt.2.1 rfl ?_
    exact k_iret hC hE 76 () dX1_tally_76 rfl rfl rfl ⟨Nat.zero_le _, Nat.zero_le _⟩
  · skip
    refine k_iload_n hC 0 dX1_tally_0 rfl ?_
    refine k_tableIn hC 1 77 dX1_tally_1 (by decide) (by decide) rfl (by decide) ?_
    refine k_aload_n hC 77 dX1_tally_77 rfl ?_
    refine k_getf hC 78 0 2 dX1_tally_78 rfl rfl inlX1 (by decide) wq_2_0 rfl ?_
    refine k_getfN hC 81 5 1 dX1_tally_81 rfl rfl inlX0 (by decide) hC.kt.2.1 rfl ?_
    exact k_iret hC hE 84 () dX1_tally_84 rfl rfl rfl ⟨Nat.zero_le _, Nat.zero_le _⟩
  · skip
    refine k_iload_n hC 0 dX1_tally_0 rfl ?_
    refine k_tableIn hC 1 85 dX1_tally_1 (by decide) (by decide) rfl (by decide) ?_
    refine k_aload_n hC 85 dX1_tally_85 rfl ?_
    refine k_getf hC 86 0 3 dX1_tally_86 rfl rfl inlX1 (by decide) wq_2_1 rfl ?_
    refine k_getfN hC 89 7 1 dX1_tally_89 rfl rfl inlX0 (by decide) hC.kt.2.1 rfl ?_
    exact k_iret hC hE 92 () dX1_tally_92 rfl rfl rfl ⟨Nat.zero_le _, Nat.zero_le _⟩
  · skip
    refine k_iload_n hC 0 dX1_tally_0 rfl ?_
    refine k_tableIn hC 1 93 dX1_tally_1 (by decide) (by decide) rfl (by decide) ?_
    refine k_aload_n hC 93 dX1_tally_93 rfl ?_
    refine k_getf hC 94 0 8 dX1_tally_94 rfl rfl inlX1 (by decide) wq_9_3 rfl ?_
    exact k_iret hC hE 97 () dX1_tally_97 rfl rfl rfl ⟨Nat.zero_le _, Nat.zero_le _⟩
  · skip
    refine k_iload_n hC 0 dX1_tally_0 rfl ?_
    refine k_tableIn hC 1 98 dX1_tally_1 (by decide) (by decide) rfl (by decide) ?_
    refine k_aload_n hC 98 dX1_tally_98 rfl ?_
    refine k_getf hC 99 0 9 dX1_tally_99 rfl rfl inlX1 (by decide) wq_11_10 rfl ?_
    exact k_iret hC hE 102 () dX1_tally_102 rfl rfl rfl ⟨Nat.zero_le _, Nat.zero_le _⟩
  · skip
    refine k_iload_n hC 0 dX1_tally_0 rfl ?_
    refine k_tableIn hC 1 103 dX1_tally_1 (by decide) (by decide) rfl (by decide) ?_
    refine k_aload_n hC 103 dX1_tally_103 rfl ?_
    refine k_getf hC 104 0 10 dX1_tally_104 rfl rfl inlX1 (by decide) wq_11_15 rfl ?_
    exact k_iret hC hE 107 () dX1_tally_107 rfl rfl rfl ⟨Nat.zero_le _, Nat.zero_le _⟩
  · skip
    refine k_iload_n hC 0 dX1_tally_0 rfl ?_
    refine k_tableIn hC 1 108 dX1_tally_1 (by decide) (by decide) rfl (by decide) ?_
    refine k_aload_n hC 108 dX1_tally_108 rfl ?_
    refine k_getf hC 109 0 11 dX1_tally_109 rfl rfl inlX1 (by decide) wq_12_1 rfl ?_
    exact k_iret hC hE 112 () dX1_tally_112 rfl rfl rfl ⟨Nat.zero_le _, Nat.zero_le _⟩
  · skip
    refine k_iload_n hC 0 dX1_tally_0 rfl ?_
    refine k_tableIn hC 1 113 dX1_tally_1 (by decide) (by decide) rfl (by decide) ?_
    refine k_aload_n hC 113 dX1_tally_113 rfl ?_
    refine k_getf hC 114 0 12 dX1_tally_114 rfl rfl inlX1 (by decide) wq_9_17 rfl ?_
    exact k_iret hC hE 117 () dX1_tally_117 rfl rfl rfl ⟨Nat.zero_le _, Nat.zero_le _⟩
  · skip
    refine k_iload_n hC 0 dX1_tally_0 rfl ?_
    refine k_tableOut hC 1 118 dX1_tally_1 (by decide) (by decide) ?_
    refine k_aload_n hC 118 dX1_tally_118 rfl ?_
    refine k_callVr hC 119 0 [0, 1, 2, 3, 4, 5, 6, 7, 8, 9, 10, 11, 12, 13, 14] (c_X1_pinnedJars l D a N T A B to pi fe pl go hi mi re lo g0 g1 g2 g3 g4 g5 g6 hS0 hW0) cw_RX1_91 dX1_tally_119 ⟨Nat.le_of_ble_eq_true rfl, Nat.le_of_ble_eq_true rfl, Nat.le_of_ble_eq_true rfl, Nat.le_of_ble_eq_true rfl⟩ rfl (Nat.le_of_ble_eq_true rfl) rfl rfl rfl (by decide) rfl (fun _ => Nat.le_of_ble_eq_true rfl) (fun _ => rfl) _ rfl (fun v u hp => ?_)
    obtain rfl := hp
    refine KJ.eqs (st' := .int (nI (pc pi N + pc pi T)) :: []) rfl ?_
    exact k_iret hC hE 122 () dX1_tally_122 rfl rfl rfl ⟨Nat.zero_le _, Nat.zero_le _⟩
set_option maxHeartbeats 4000000 in
set_option maxRecDepth 100000 in
/-- detail -/
theorem c_X1_detail (l : Launch) (D : va_G) (a : Nat → Nat) (N T A B : List Nat) (to pi : Nat → Nat) (fe : Nat → Int32) (pl go : Nat) (hi mi re lo : Int32) (g0 g1 g2 g3 g4 g5 g6 : Nat → Int32) (k n : Nat) (hS : SR (N, T, A, B, to, pi, fe, pl, go, hi, mi, re, lo) (g0, g1, g2, g3, g4, g5, g6)) (hW : WF (N, T, A, B, to, pi, fe, pl, go, hi, mi, re, lo)) (hk : k < 40) (hn : n ≤ 4) : MU l yX1_detail cX1_detail 5 (some .int) 2 43 D [.ref (a 0), .int (nI k), .int (nI n)] [((a 0), .inr (1, [.ref (a 1), .ref (a 3), .ref (a 5), .ref (a 7), .ref (a 9), .ref (a 11), .ref (a 13), .int (nI pl), .int (nI go), .int hi, .int mi, .int re, .int lo])), ((a 1), .inr (0, [.ref (a 2), .int (nI N.length)])), ((a 2), .inl (D.1 20, 40, .inl g0)), ((a 3), .inr (0, [.ref (a 4), .int (nI T.length)])), ((a 4), .inl (D.1 20, 40, .inl g1)), ((a 5), .inr (0, [.ref (a 6), .int (nI A.length)])), ((a 6), .inl (D.1 20, 40, .inl g2)), ((a 7), .inr (0, [.ref (a 8), .int (nI B.length)])), ((a 8), .inl (D.1 20, 40, .inl g3)), ((a 9), .inr (2, [.ref (a 10)])), ((a 10), .inl (D.1 20, 40, .inl g4)), ((a 11), .inr (2, [.ref (a 12)])), ((a 12), .inl (D.1 20, 40, .inl g5)), ((a 13), .inr (2, [.ref (a 14)])), ((a 14), .inl (D.1 20, 40, .inl g6))] (fun v (_ : Unit) => v = some (.int (dtl (N, T, A, B, to, pi, fe, pl, go, hi, mi, re, lo) k n))) (fun _ => [((a 0), .inr (1, [.ref (a 1), .ref (a 3), .ref (a 5), .ref (a 7), .ref (a 9), .ref (a 11), .ref (a 13), .int (nI pl), .int (nI go), .int hi, .int mi, .int re, .int lo])), ((a 1), .inr (0, [.ref (a 2), .int (nI N.length)])), ((a 2), .inl (D.1 20, 40, .inl g0)), ((a 3), .inr (0, [.ref (a 4), .int (nI T.length)])), ((a 4), .inl (D.1 20, 40, .inl g1)), ((a 5), .inr (0, [.ref (a 6), .int (nI A.length)])), ((a 6), .inl (D.1 20, 40, .inl g2)), ((a 7), .inr (0, [.ref (a 8), .int (nI B.length)])), ((a 8), .inl (D.1 20, 40, .inl g3)), ((a 9), .inr (2, [.ref (a 10)])), ((a 10), .inl (D.1 20, 40, .inl g4)), ((a 11), .inr (2, [.ref (a 12)])), ((a 12), .inl (D.1 20, 40, .inl g5)), ((a 13), .inr (2, [.ref (a 14)])), ((a 14), .inl (D.1 20, 40, .inl g6))]) 0 0 := by
  refine MU.enter (by decide) [(0, .ref (a 0)), (1, .int (nI k)), (2, .int (nI n))] rfl (Nat.le_of_ble_eq_true rfl) (fun G hC hE => ?_)
  have hC : CX G D cX1_detail RX1 5 := hC
  have hS0 := hS
  have hW0 := hW
  obtain ⟨r0, r1, r2, r3, r4, r5, r6⟩ := hS
  obtain ⟨kN, kT, kA, kB, nd, len, lA, lB, p2, p12, g12, t1, p9⟩ := hW
  refine k_aload_n hC 0 dX1_detail_0 rfl ?_
  refine k_getf hC 1 0 0 dX1_detail_1 rfl rfl inlX1 (by decide) wq_1_22 rfl ?_
  refine k_iload_n hC 4 dX1_detail_4 rfl ?_
  refine k_callVr hC 5 1 [1, 2] (c_X0_has l D (a 1) (a 2) N g0 k r0 (by omega) kN hk) cw_RX1_66 dX1_detail_5 ⟨Nat.le_of_ble_eq_true rfl, Nat.le_of_ble_eq_true rfl, Nat.le_of_ble_eq_true rfl, Nat.le_of_ble_eq_true rfl⟩ rfl (Nat.le_of_ble_eq_true rfl) rfl rfl rfl (by decide) rfl (fun _ => Nat.le_of_ble_eq_true rfl) (fun _ => rfl) _ rfl (fun v u hp => ?_)
  obtain rfl := hp
  refine KJ.eqs (st' := .int (nI (yn (k ∈ N))) :: []) rfl ?_
  refine n_if_eq hC 8 15 dX1_detail_8 (by decide) (Nat.lt_of_le_of_lt yn_le (by decide)) (fun h8 => ?_) (fun h8 => ?_)
  · skip
    refine k_iconst hC 15 dX1_detail_15 (nI 1) (by decide) ?_
    refine k_istore_n hC 16 3 [(3, .int (nI 1)), (0, .ref (a 0)), (1, .int (nI k)), (2, .int (nI n))] dX1_detail_16 rfl (by decide) rfl ?_
    refine k_aload_n hC 17 dX1_detail_17 rfl ?_
    refine k_iload_n hC 18 dX1_detail_18 rfl ?_
    refine k_callVr hC 19 0 [0, 1, 2, 3, 4, 5, 6, 7, 8, 9, 10, 11, 12, 13, 14] (c_X1_rowOf1 l D a N T A B to pi fe pl go hi mi re lo g0 g1 g2 g3 g4 g5 g6 hS0 hW0) cw_RX1_141 dX1_detail_19 ⟨Nat.le_of_ble_eq_true rfl, Nat.le_of_ble_eq_true rfl, Nat.le_of_ble_eq_true rfl, Nat.le_of_ble_eq_true rfl⟩ rfl (Nat.le_of_ble_eq_true rfl) rfl rfl rfl (by decide) rfl (fun _ => Nat.le_of_ble_eq_true rfl) (fun _ => rfl) _ rfl (fun v u hp => ?_)
    obtain rfl := hp
    refine KJ.eqs (st' := .ref (a 3) :: []) rfl ?_
    refine k_iload_n hC 22 dX1_detail_22 rfl ?_
    refine k_callVr hC 23 3 [3, 4] (c_X0_placeOf l D (a 3) (a 4) T g1 k r1 (by omega) kT hk) cw_RX1_124 dX1_detail_23 ⟨Nat.le_of_ble_eq_true rfl, Nat.le_of_ble_eq_true rfl, Nat.le_of_ble_eq_true rfl, Nat.le_of_ble_eq_true rfl⟩ rfl (Nat.le_of_ble_eq_true rfl) rfl rfl rfl (by decide) rfl (fun _ => Nat.le_of_ble_eq_true rfl) (fun _ => rfl) _ rfl (fun v u hp => ?_)
    obtain rfl := hp
    refine KJ.eqs (st' := .int (ixv T k) :: []) rfl ?_
    refine k_istore hC 26 4 [(4, .int (ixv T k)), (3, .int (nI 1)), (0, .ref (a 0)), (1, .int (nI k)), (2, .int (nI n))] dX1_detail_26 (by decide) rfl ?_
    by_cases hm : k ∈ T
    · skip
      rw [ixv_in hm]
      have hlt := List.idxOf_lt_length_of_mem hm
      refine k_iload hC 28 dX1_detail_28 rfl ?_
      refine k_iconst hC 30 dX1_detail_30 (-1) (by decide) ?_
      refine k_icmp_ne hC 31 36 dX1_detail_31 (by decide) (fun h31 => ?_) (fun h31 => ?_)
      · skip
        refine k_iload_n hC 36 dX1_detail_36 rfl ?_
        rcases (show n = 0 ∨ n = 1 ∨ n = 2 ∨ n = 3 ∨ n = 4 by omega) with rfl | rfl | rfl | rfl | rfl
        · skip
          refine k_tableIn hC 37 68 dX1_detail_37 (by decide) (by decide) rfl (by decide) ?_
          refine k_iload_n hC 68 dX1_detail_68 rfl ?_
          exact k_iret hC hE 69 () dX1_detail_69 rfl (by simp [dtl, hm, yn_0.mp h8]) rfl ⟨Nat.zero_le _, Nat.zero_le _⟩
        · skip
          refine k_tableIn hC 37 70 dX1_detail_37 (by decide) (by decide) rfl (by decide) ?_
          refine k_iload hC 70 dX1_detail_70 rfl ?_
          exact k_iret hC hE 72 () dX1_detail_72 rfl (by simp [dtl, hm, yn_0.mp h8]) rfl ⟨Nat.zero_le _, Nat.zero_le _⟩
        · skip
          refine k_tableIn hC 37 73 dX1_detail_37 (by decide) (by decide) rfl (by decide) ?_
          refine k_aload_n hC 73 dX1_detail_73 rfl ?_
          refine k_getf hC 74 0 4 dX1_detail_74 rfl rfl inlX1 (by decide) wq_2_5 rfl ?_
          refine k_iload_n hC 77 dX1_detail_77 rfl ?_
          refine k_callVr hC 78 9 [9, 10] (c_X2_of l D (a 9) (a 10) g4 k hk) cw_RX1_81 dX1_detail_78 ⟨Nat.le_of_ble_eq_true rfl, Nat.le_of_ble_eq_true rfl, Nat.le_of_ble_eq_true rfl, Nat.le_of_ble_eq_true rfl⟩ rfl (Nat.le_of_ble_eq_true rfl) rfl rfl rfl (by decide) rfl (fun _ => Nat.le_of_ble_eq_true rfl) (fun _ => rfl) _ rfl (fun v u hp => ?_)
          obtain rfl := hp
          refine KJ.eqs (st' := .int (g4 k) :: []) rfl ?_
          refine KJ.topi (y := (nI (to k))) (r4 k hk) ?_
          exact k_iret hC hE 81 () dX1_detail_81 rfl (by simp [dtl, hm, yn_0.mp h8]) rfl ⟨Nat.zero_le _, Nat.zero_le _⟩
        · skip
          refine k_tableIn hC 37 82 dX1_detail_37 (by decide) (by decide) rfl (by decide) ?_
          refine k_aload_n hC 82 dX1_detail_82 rfl ?_
          refine k_getf hC 83 0 5 dX1_detail_83 rfl rfl inlX1 (by decide) wq_2_6 rfl ?_
          refine k_iload_n hC 86 dX1_detail_86 rfl ?_
          refine k_callVr hC 87 11 [11, 12] (c_X2_of l D (a 11) (a 12) g5 k hk) cw_RX1_81 dX1_detail_87 ⟨Nat.le_of_ble_eq_true rfl, Nat.le_of_ble_eq_true rfl, Nat.le_of_ble_eq_true rfl, Nat.le_of_ble_eq_true rfl⟩ rfl (Nat.le_of_ble_eq_true rfl) rfl rfl rfl (by decide) rfl (fun _ => Nat.le_of_ble_eq_true rfl) (fun _ => rfl) _ rfl (fun v u hp => ?_)
          obtain rfl := hp
          refine KJ.eqs (st' := .int (g5 k) :: []) rfl ?_
          refine KJ.topi (y := (nI (pi k))) (r5 k hk) ?_
          exact k_iret hC hE 90 () dX1_detail_90 rfl (by simp [dtl, hm, yn_0.mp h8]) rfl ⟨Nat.zero_le _, Nat.zero_le _⟩
        · skip
          refine k_tableOut hC 37 91 dX1_detail_37 (by decide) (by decide) ?_
          refine k_aload_n hC 91 dX1_detail_91 rfl ?_
          refine k_getf hC 92 0 6 dX1_detail_92 rfl rfl inlX1 (by decide) wq_2_7 rfl ?_
          refine k_iload_n hC 95 dX1_detail_95 rfl ?_
          refine k_callVr hC 96 13 [13, 14] (c_X2_of l D (a 13) (a 14) g6 k hk) cw_RX1_81 dX1_detail_96 ⟨Nat.le_of_ble_eq_true rfl, Nat.le_of_ble_eq_true rfl, Nat.le_of_ble_eq_true rfl, Nat.le_of_ble_eq_true rfl⟩ rfl (Nat.le_of_ble_eq_true rfl) rfl rfl rfl (by decide) rfl (fun _ => Nat.le_of_ble_eq_true rfl) (fun _ => rfl) _ rfl (fun v u hp => ?_)
          obtain rfl := hp
          refine KJ.eqs (st' := .int (g6 k) :: []) rfl ?_
          refine KJ.topi (y := (fe k)) (r6 k hk) ?_
          exact k_iret hC hE 99 () dX1_detail_99 rfl (by simp [dtl, hm, yn_0.mp h8]) rfl ⟨Nat.zero_le _, Nat.zero_le _⟩
      · skip
        exact absurd h31 (nI_m1 (by omega))
    · skip
      rw [ixv_out hm]
      refine k_iload hC 28 dX1_detail_28 rfl ?_
      refine k_iconst hC 30 dX1_detail_30 (-1) (by decide) ?_
      refine k_icmp_ne hC 31 36 dX1_detail_31 (by decide) (fun h31 => ?_) (fun h31 => ?_)
      · skip
        exact absurd rfl h31
      · skip
        refine k_iconst hC 34 dX1_detail_34 (-1) (by decide) ?_
        exact k_iret hC hE 35 () dX1_detail_35 rfl (by simp [dtl, hm, yn_0.mp h8]) rfl ⟨Nat.zero_le _, Nat.zero_le _⟩
  · skip
    refine k_iconst hC 11 dX1_detail_11 (nI 0) (by decide) ?_
    refine k_goto hC 12 16 dX1_detail_12 (by decide) ?_
    refine k_istore_n hC 16 3 [(3, .int (nI 0)), (0, .ref (a 0)), (1, .int (nI k)), (2, .int (nI n))] dX1_detail_16 rfl (by decide) rfl ?_
    refine k_aload_n hC 17 dX1_detail_17 rfl ?_
    refine k_iload_n hC 18 dX1_detail_18 rfl ?_
    refine k_callVr hC 19 0 [0, 1, 2, 3, 4, 5, 6, 7, 8, 9, 10, 11, 12, 13, 14] (c_X1_rowOf0 l D a N T A B to pi fe pl go hi mi re lo g0 g1 g2 g3 g4 g5 g6 hS0 hW0) cw_RX1_141 dX1_detail_19 ⟨Nat.le_of_ble_eq_true rfl, Nat.le_of_ble_eq_true rfl, Nat.le_of_ble_eq_true rfl, Nat.le_of_ble_eq_true rfl⟩ rfl (Nat.le_of_ble_eq_true rfl) rfl rfl rfl (by decide) rfl (fun _ => Nat.le_of_ble_eq_true rfl) (fun _ => rfl) _ rfl (fun v u hp => ?_)
    obtain rfl := hp
    refine KJ.eqs (st' := .ref (a 1) :: []) rfl ?_
    refine k_iload_n hC 22 dX1_detail_22 rfl ?_
    refine k_callVr hC 23 1 [1, 2] (c_X0_placeOf l D (a 1) (a 2) N g0 k r0 (by omega) kN hk) cw_RX1_124 dX1_detail_23 ⟨Nat.le_of_ble_eq_true rfl, Nat.le_of_ble_eq_true rfl, Nat.le_of_ble_eq_true rfl, Nat.le_of_ble_eq_true rfl⟩ rfl (Nat.le_of_ble_eq_true rfl) rfl rfl rfl (by decide) rfl (fun _ => Nat.le_of_ble_eq_true rfl) (fun _ => rfl) _ rfl (fun v u hp => ?_)
    obtain rfl := hp
    refine KJ.eqs (st' := .int (ixv N k) :: []) rfl ?_
    refine k_istore hC 26 4 [(4, .int (ixv N k)), (3, .int (nI 0)), (0, .ref (a 0)), (1, .int (nI k)), (2, .int (nI n))] dX1_detail_26 (by decide) rfl ?_
    by_cases hm : k ∈ N
    · skip
      rw [ixv_in hm]
      have hlt := List.idxOf_lt_length_of_mem hm
      refine k_iload hC 28 dX1_detail_28 rfl ?_
      refine k_iconst hC 30 dX1_detail_30 (-1) (by decide) ?_
      refine k_icmp_ne hC 31 36 dX1_detail_31 (by decide) (fun h31 => ?_) (fun h31 => ?_)
      · skip
        refine k_iload_n hC 36 dX1_detail_36 rfl ?_
        rcases (show n = 0 ∨ n = 1 ∨ n = 2 ∨ n = 3 ∨ n = 4 by omega) with rfl | rfl | rfl | rfl | rfl
        · skip
          refine k_tableIn hC 37 68 dX1_detail_37 (by decide) (by decide) rfl (by decide) ?_
          refine k_iload_n hC 68 dX1_detail_68 rfl ?_
          exact k_iret hC hE 69 () dX1_detail_69 rfl (by simp [dtl, hm]) rfl ⟨Nat.zero_le _, Nat.zero_le _⟩
        · skip
          refine k_tableIn hC 37 70 dX1_detail_37 (by decide) (by decide) rfl (by decide) ?_
          refine k_iload hC 70 dX1_detail_70 rfl ?_
          exact k_iret hC hE 72 () dX1_detail_72 rfl (by simp [dtl, hm]) rfl ⟨Nat.zero_le _, Nat.zero_le _⟩
        · skip
          refine k_tableIn hC 37 73 dX1_detail_37 (by decide) (by decide) rfl (by decide) ?_
          refine k_aload_n hC 73 dX1_detail_73 rfl ?_
          refine k_getf hC 74 0 4 dX1_detail_74 rfl rfl inlX1 (by decide) wq_2_5 rfl ?_
          refine k_iload_n hC 77 dX1_detail_77 rfl ?_
          refine k_callVr hC 78 9 [9, 10] (c_X2_of l D (a 9) (a 10) g4 k hk) cw_RX1_81 dX1_detail_78 ⟨Nat.le_of_ble_eq_true rfl, Nat.le_of_ble_eq_true rfl, Nat.le_of_ble_eq_true rfl, Nat.le_of_ble_eq_true rfl⟩ rfl (Nat.le_of_ble_eq_true rfl) rfl rfl rfl (by decide) rfl (fun _ => Nat.le_of_ble_eq_true rfl) (fun _ => rfl) _ rfl (fun v u hp => ?_)
          obtain rfl := hp
          refine KJ.eqs (st' := .int (g4 k) :: []) rfl ?_
          refine KJ.topi (y := (nI (to k))) (r4 k hk) ?_
          exact k_iret hC hE 81 () dX1_detail_81 rfl (by simp [dtl, hm]) rfl ⟨Nat.zero_le _, Nat.zero_le _⟩
        · skip
          refine k_tableIn hC 37 82 dX1_detail_37 (by decide) (by decide) rfl (by decide) ?_
          refine k_aload_n hC 82 dX1_detail_82 rfl ?_
          refine k_getf hC 83 0 5 dX1_detail_83 rfl rfl inlX1 (by decide) wq_2_6 rfl ?_
          refine k_iload_n hC 86 dX1_detail_86 rfl ?_
          refine k_callVr hC 87 11 [11, 12] (c_X2_of l D (a 11) (a 12) g5 k hk) cw_RX1_81 dX1_detail_87 ⟨Nat.le_of_ble_eq_true rfl, Nat.le_of_ble_eq_true rfl, Nat.le_of_ble_eq_true rfl, Nat.le_of_ble_eq_true rfl⟩ rfl (Nat.le_of_ble_eq_true rfl) rfl rfl rfl (by decide) rfl (fun _ => Nat.le_of_ble_eq_true rfl) (fun _ => rfl) _ rfl (fun v u hp => ?_)
          obtain rfl := hp
          refine KJ.eqs (st' := .int (g5 k) :: []) rfl ?_
          refine KJ.topi (y := (nI (pi k))) (r5 k hk) ?_
          exact k_iret hC hE 90 () dX1_detail_90 rfl (by simp [dtl, hm]) rfl ⟨Nat.zero_le _, Nat.zero_le _⟩
        · skip
          refine k_tableOut hC 37 91 dX1_detail_37 (by decide) (by decide) ?_
          refine k_aload_n hC 91 dX1_detail_91 rfl ?_
          refine k_getf hC 92 0 6 dX1_detail_92 rfl rfl inlX1 (by decide) wq_2_7 rfl ?_
          refine k_iload_n hC 95 dX1_detail_95 rfl ?_
          refine k_callVr hC 96 13 [13, 14] (c_X2_of l D (a 13) (a 14) g6 k hk) cw_RX1_81 dX1_detail_96 ⟨Nat.le_of_ble_eq_true rfl, Nat.le_of_ble_eq_true rfl, Nat.le_of_ble_eq_true rfl, Nat.le_of_ble_eq_true rfl⟩ rfl (Nat.le_of_ble_eq_true rfl) rfl rfl rfl (by decide) rfl (fun _ => Nat.le_of_ble_eq_true rfl) (fun _ => rfl) _ rfl (fun v u hp => ?_)
          obtain rfl := hp
          refine KJ.eqs (st' := .int (g6 k) :: []) rfl ?_
          refine KJ.topi (y := (fe k)) (r6 k hk) ?_
          exact k_iret hC hE 99 () dX1_detail_99 rfl (by simp [dtl, hm]) rfl ⟨Nat.zero_le _, Nat.zero_le _⟩
      · skip
        exact absurd h31 (nI_m1 (by omega))
    · skip
      exact absurd (yn_f hm) h8
set_option maxHeartbeats 4000000 in
set_option maxRecDepth 100000 in
/-- fetchesOfAll -/
theorem c_X1_fetchesOfAll (l : Launch) (D : va_G) (a : Nat → Nat) (N T A B : List Nat) (to pi : Nat → Nat) (fe : Nat → Int32) (pl go : Nat) (hi mi re lo : Int32) (g0 g1 g2 g3 g4 g5 g6 : Nat → Int32) (hS : SR (N, T, A, B, to, pi, fe, pl, go, hi, mi, re, lo) (g0, g1, g2, g3, g4, g5, g6)) (hW : WF (N, T, A, B, to, pi, fe, pl, go, hi, mi, re, lo)) : MU l yX1_fetchesOfAll cX1_fetchesOfAll 3 (some .int) 3 64 D [.ref (a 0)] [((a 0), .inr (1, [.ref (a 1), .ref (a 3), .ref (a 5), .ref (a 7), .ref (a 9), .ref (a 11), .ref (a 13), .int (nI pl), .int (nI go), .int hi, .int mi, .int re, .int lo])), ((a 1), .inr (0, [.ref (a 2), .int (nI N.length)])), ((a 2), .inl (D.1 20, 40, .inl g0)), ((a 3), .inr (0, [.ref (a 4), .int (nI T.length)])), ((a 4), .inl (D.1 20, 40, .inl g1)), ((a 5), .inr (0, [.ref (a 6), .int (nI A.length)])), ((a 6), .inl (D.1 20, 40, .inl g2)), ((a 7), .inr (0, [.ref (a 8), .int (nI B.length)])), ((a 8), .inl (D.1 20, 40, .inl g3)), ((a 9), .inr (2, [.ref (a 10)])), ((a 10), .inl (D.1 20, 40, .inl g4)), ((a 11), .inr (2, [.ref (a 12)])), ((a 12), .inl (D.1 20, 40, .inl g5)), ((a 13), .inr (2, [.ref (a 14)])), ((a 14), .inl (D.1 20, 40, .inl g6))] (fun v (_ : Unit) => v = some (.int (fsm N T fe 40))) (fun _ => [((a 0), .inr (1, [.ref (a 1), .ref (a 3), .ref (a 5), .ref (a 7), .ref (a 9), .ref (a 11), .ref (a 13), .int (nI pl), .int (nI go), .int hi, .int mi, .int re, .int lo])), ((a 1), .inr (0, [.ref (a 2), .int (nI N.length)])), ((a 2), .inl (D.1 20, 40, .inl g0)), ((a 3), .inr (0, [.ref (a 4), .int (nI T.length)])), ((a 4), .inl (D.1 20, 40, .inl g1)), ((a 5), .inr (0, [.ref (a 6), .int (nI A.length)])), ((a 6), .inl (D.1 20, 40, .inl g2)), ((a 7), .inr (0, [.ref (a 8), .int (nI B.length)])), ((a 8), .inl (D.1 20, 40, .inl g3)), ((a 9), .inr (2, [.ref (a 10)])), ((a 10), .inl (D.1 20, 40, .inl g4)), ((a 11), .inr (2, [.ref (a 12)])), ((a 12), .inl (D.1 20, 40, .inl g5)), ((a 13), .inr (2, [.ref (a 14)])), ((a 14), .inl (D.1 20, 40, .inl g6))]) 0 0 := by
  refine MU.enter (by decide) [(0, .ref (a 0))] rfl (Nat.le_of_ble_eq_true rfl) (fun G hC hE => ?_)
  have hC : CX G D cX1_fetchesOfAll RX1 3 := hC
  have hS0 := hS
  have hW0 := hW
  obtain ⟨r0, r1, r2, r3, r4, r5, r6⟩ := hS
  obtain ⟨kN, kT, kA, kB, nd, len, lA, lB, p2, p12, g12, t1, p9⟩ := hW
  refine k_iconst hC 0 dX1_fetchesOfAll_0 (nI 0) (by decide) ?_
  refine KJ.topi (y := fsm N T fe 0) rfl ?_
  refine k_istore_n hC 1 1 [(1, .int (fsm N T fe 0)), (0, .ref (a 0))] dX1_fetchesOfAll_1 rfl (by decide) rfl ?_
  refine k_iconst hC 2 dX1_fetchesOfAll_2 (nI 0) (by decide) ?_
  refine k_istore_n hC 3 2 [(2, .int (nI 0)), (1, .int (fsm N T fe 0)), (0, .ref (a 0))] dX1_fetchesOfAll_3 rfl (by decide) rfl ?_
  have loop4 : ∀ (n4 : Nat) (i : Nat), 40 - i < n4 → i ≤ 40 → KJ l G D ({ frames := 3, cells := 0, slots := 0, locals := 64 } : Room) 3 0 0 [((a 0), .inr (1, [.ref (a 1), .ref (a 3), .ref (a 5), .ref (a 7), .ref (a 9), .ref (a 11), .ref (a 13), .int (nI pl), .int (nI go), .int hi, .int mi, .int re, .int lo])), ((a 1), .inr (0, [.ref (a 2), .int (nI N.length)])), ((a 2), .inl (D.1 20, 40, .inl g0)), ((a 3), .inr (0, [.ref (a 4), .int (nI T.length)])), ((a 4), .inl (D.1 20, 40, .inl g1)), ((a 5), .inr (0, [.ref (a 6), .int (nI A.length)])), ((a 6), .inl (D.1 20, 40, .inl g2)), ((a 7), .inr (0, [.ref (a 8), .int (nI B.length)])), ((a 8), .inl (D.1 20, 40, .inl g3)), ((a 9), .inr (2, [.ref (a 10)])), ((a 10), .inl (D.1 20, 40, .inl g4)), ((a 11), .inr (2, [.ref (a 12)])), ((a 12), .inl (D.1 20, 40, .inl g5)), ((a 13), .inr (2, [.ref (a 14)])), ((a 14), .inl (D.1 20, 40, .inl g6))] [(2, .int (nI i)), (1, .int (fsm N T fe i)), (0, .ref (a 0))] 4 [] := by
    intro n4
    induction n4 with
    | zero => intro i h; exact absurd h (Nat.not_lt_zero _)
    | succ n4 ih4 =>
      intro i hn4 hi2
      refine k_iload_n hC 4 dX1_fetchesOfAll_4 rfl ?_
      refine k_bipush hC 5 dX1_fetchesOfAll_5 (nI 40) (by decide) ?_
      refine n_icmp_ge hC 7 35 dX1_fetchesOfAll_7 (by decide) (by omega) (by omega) (fun h7 => ?_) (fun h7 => ?_)
      · skip
        refine k_iload_n hC 35 dX1_fetchesOfAll_35 rfl ?_
        exact k_iret hC hE 36 () dX1_fetchesOfAll_36 rfl (by rw [show i = 40 by omega]) rfl ⟨Nat.zero_le _, Nat.zero_le _⟩
      · skip
        refine k_aload_n hC 10 dX1_fetchesOfAll_10 rfl ?_
        refine k_iload_n hC 11 dX1_fetchesOfAll_11 rfl ?_
        refine k_callVr hC 12 0 [0, 1, 2, 3, 4, 5, 6, 7, 8, 9, 10, 11, 12, 13, 14] (c_X1_hasJar l D a N T A B to pi fe pl go hi mi re lo g0 g1 g2 g3 g4 g5 g6 i hS0 hW0 h7) cw_RX1_84 dX1_fetchesOfAll_12 ⟨Nat.le_of_ble_eq_true rfl, Nat.le_of_ble_eq_true rfl, Nat.le_of_ble_eq_true rfl, Nat.le_of_ble_eq_true rfl⟩ rfl (Nat.le_of_ble_eq_true rfl) rfl rfl rfl (by decide) rfl (fun _ => Nat.le_of_ble_eq_true rfl) (fun _ => rfl) _ rfl (fun v u hp => ?_)
        obtain rfl := hp
        refine KJ.eqs (st' := .int (nI (yn (i ∈ N ∨ i ∈ T))) :: []) rfl ?_
        refine n_if_eq hC 15 29 dX1_fetchesOfAll_15 (by decide) (Nat.lt_of_le_of_lt yn_le (by decide)) (fun h15 => ?_) (fun h15 => ?_)
        · skip
          refine k_iinc hC 29 0 (nI (i + 1)) [(2, .int (nI (i + 1))), (1, .int (fsm N T fe i)), (0, .ref (a 0))] dX1_fetchesOfAll_29 rfl (nI_1 _) (by decide) rfl ?_
          refine k_goto hC 32 4 dX1_fetchesOfAll_32 (by decide) ?_
          have es : fsm N T fe i = fsm N T fe (i + 1) := (if_neg (yn_0.mp h15)).symm
          rw [es]
          exact ih4 (i + 1) (by omega) (by omega)
        · skip
          refine k_iload_n hC 18 dX1_fetchesOfAll_18 rfl ?_
          refine k_aload_n hC 19 dX1_fetchesOfAll_19 rfl ?_
          refine k_getf hC 20 0 6 dX1_fetchesOfAll_20 rfl rfl inlX1 (by decide) wq_2_7 rfl ?_
          refine k_iload_n hC 23 dX1_fetchesOfAll_23 rfl ?_
          refine k_callVr hC 24 13 [13, 14] (c_X2_of l D (a 13) (a 14) g6 i h7) cw_RX1_81 dX1_fetchesOfAll_24 ⟨Nat.le_of_ble_eq_true rfl, Nat.le_of_ble_eq_true rfl, Nat.le_of_ble_eq_true rfl, Nat.le_of_ble_eq_true rfl⟩ rfl (Nat.le_of_ble_eq_true rfl) rfl rfl rfl (by decide) rfl (fun _ => Nat.le_of_ble_eq_true rfl) (fun _ => rfl) _ rfl (fun v u hp => ?_)
          obtain rfl := hp
          refine KJ.eqs (st' := .int (g6 i) :: .int (fsm N T fe i) :: []) rfl ?_
          refine KJ.topi (y := (fe i)) (r6 i h7) ?_
          refine k_iadd hC 27 dX1_fetchesOfAll_27 (KJ.topi (y := (fsm N T fe (i + 1))) (if_pos (Classical.byContradiction (fun z => h15 (yn_f z)))).symm ?_)
          refine k_istore_n hC 28 1 [(1, .int (fsm N T fe (i + 1))), (2, .int (nI i)), (0, .ref (a 0))] dX1_fetchesOfAll_28 rfl (by decide) rfl ?_
          refine k_iinc hC 29 1 (nI (i + 1)) [(2, .int (nI (i + 1))), (1, .int (fsm N T fe (i + 1))), (0, .ref (a 0))] dX1_fetchesOfAll_29 rfl (nI_1 _) (by decide) rfl ?_
          refine k_goto hC 32 4 dX1_fetchesOfAll_32 (by decide) ?_
          exact ih4 (i + 1) (by omega) (by omega)
  exact loop4 41 0 (by omega) (by omega)
set_option maxHeartbeats 4000000 in
set_option maxRecDepth 100000 in
/-- Store() -/
theorem c_X1_init (l : Launch) (D : va_G) (h : Nat)  : MU l yX1_init cX1_init 1 none 2 32 D [.ref h] [(h, .inr (1, [.null, .null, .null, .null, .null, .null, .null, .int 0, .int 0, .int 0, .int 0, .int 0, .int 0]))] (fun v (u : Nat → Nat) => v = none ∧ u 0 = h) (fun u => wSt D u initS zeroG) 14 291 := by
  refine MU.enter (by decide) [(0, .ref h)] rfl (Nat.le_of_ble_eq_true rfl) (fun G hC hE => ?_)
  have hC : CX G D cX1_init RX1 1 := hC
  refine k_aload_n hC 0 dX1_init_0 rfl ?_
  refine k_objInit hC 1 dX1_init_1 wq_1_18 wq_1_8 wq_1_9 ⟨Nat.le_of_ble_eq_true rfl, Nat.le_of_ble_eq_true rfl⟩ ?_
  refine k_aload_n hC 4 dX1_init_4 rfl ?_
  refine k_new hC 5 0 [.null, .int 0] dX1_init_5 rfl inlX0 tyX0_ok wq_1_19 wq_1_20 wq_1_21 (fun j hj => by rcases (show j = 0 ∨ j = 1 by omega) with rfl | rfl <;> rfl) ⟨Nat.le_of_ble_eq_true rfl, Nat.le_of_ble_eq_true rfl⟩ (fun q5 => ?_)
  refine KJ.eqw (ws' := [(h, .inr (1, [.null, .null, .null, .null, .null, .null, .null, .int 0, .int 0, .int 0, .int 0, .int 0, .int 0])), (q5, .inr (0, [.null, .int 0]))]) rfl ?_
  refine k_dup hC 8 dX1_init_8 rfl ?_
  refine k_callI hC 9 [1] (fun q5a => [(h, .inr (1, [.null, .null, .null, .null, .null, .null, .null, .int 0, .int 0, .int 0, .int 0, .int 0, .int 0])), (q5, .inr (0, [.ref q5a, .int (nI (([] : List Nat).length))])), (q5a, .inl (D.1 20, 40, .inl (fun _ => 0)))]) (c_X0_init l D q5) cw_RX1_11 dX1_init_9 ⟨Nat.le_of_ble_eq_true rfl, Nat.le_of_ble_eq_true rfl, Nat.le_of_ble_eq_true rfl, Nat.le_of_ble_eq_true rfl⟩ rfl (Nat.le_of_ble_eq_true rfl) (by decide) rfl (fun _ => Nat.le_of_ble_eq_true rfl) (fun _ => rfl) _ rfl (fun v q5a hp => ?_)
  obtain rfl := hp
  refine KJ.eqs (st' := .ref q5 :: .ref h :: []) rfl ?_
  refine k_putfF hC 12 (ty0 := tyX1) 0 0 [(h, .inr (1, [.ref q5, .null, .null, .null, .null, .null, .null, .int 0, .int 0, .int 0, .int 0, .int 0, .int 0])), (q5, .inr (0, [.ref q5a, .int (nI (([] : List Nat).length))])), (q5a, .inl (D.1 20, 40, .inl (fun _ => 0)))] dX1_init_12 rfl rfl inlX1 tyX1_ok nmX1 (by decide) wq_1_22 rfl hE.2.2.2.2 rfl rfl rfl (Nat.le_of_ble_eq_true rfl) rfl ?_
  refine k_aload_n hC 15 dX1_init_15 rfl ?_
  refine k_new hC 16 0 [.null, .int 0] dX1_init_16 rfl inlX0 tyX0_ok wq_1_19 wq_1_20 wq_1_21 (fun j hj => by rcases (show j = 0 ∨ j = 1 by omega) with rfl | rfl <;> rfl) ⟨Nat.le_of_ble_eq_true rfl, Nat.le_of_ble_eq_true rfl⟩ (fun q16 => ?_)
  refine KJ.eqw (ws' := [(h, .inr (1, [.ref q5, .null, .null, .null, .null, .null, .null, .int 0, .int 0, .int 0, .int 0, .int 0, .int 0])), (q5, .inr (0, [.ref q5a, .int (nI (([] : List Nat).length))])), (q5a, .inl (D.1 20, 40, .inl (fun _ => 0))), (q16, .inr (0, [.null, .int 0]))]) rfl ?_
  refine k_dup hC 19 dX1_init_19 rfl ?_
  refine k_callI hC 20 [3] (fun q16a => [(h, .inr (1, [.ref q5, .null, .null, .null, .null, .null, .null, .int 0, .int 0, .int 0, .int 0, .int 0, .int 0])), (q5, .inr (0, [.ref q5a, .int (nI (([] : List Nat).length))])), (q5a, .inl (D.1 20, 40, .inl (fun _ => 0))), (q16, .inr (0, [.ref q16a, .int (nI (([] : List Nat).length))])), (q16a, .inl (D.1 20, 40, .inl (fun _ => 0)))]) (c_X0_init l D q16) cw_RX1_11 dX1_init_20 ⟨Nat.le_of_ble_eq_true rfl, Nat.le_of_ble_eq_true rfl, Nat.le_of_ble_eq_true rfl, Nat.le_of_ble_eq_true rfl⟩ rfl (Nat.le_of_ble_eq_true rfl) (by decide) rfl (fun _ => Nat.le_of_ble_eq_true rfl) (fun _ => rfl) _ rfl (fun v q16a hp => ?_)
  obtain rfl := hp
  refine KJ.eqs (st' := .ref q16 :: .ref h :: []) rfl ?_
  refine k_putfF hC 23 (ty0 := tyX1) 0 1 [(h, .inr (1, [.ref q5, .ref q16, .null, .null, .null, .null, .null, .int 0, .int 0, .int 0, .int 0, .int 0, .int 0])), (q5, .inr (0, [.ref q5a, .int (nI (([] : List Nat).length))])), (q5a, .inl (D.1 20, 40, .inl (fun _ => 0))), (q16, .inr (0, [.ref q16a, .int (nI (([] : List Nat).length))])), (q16a, .inl (D.1 20, 40, .inl (fun _ => 0)))] dX1_init_23 rfl rfl inlX1 tyX1_ok nmX1 (by decide) wq_1_23 rfl hE.2.2.2.2 rfl rfl rfl (Nat.le_of_ble_eq_true rfl) rfl ?_
  refine k_aload_n hC 26 dX1_init_26 rfl ?_
  refine k_new hC 27 0 [.null, .int 0] dX1_init_27 rfl inlX0 tyX0_ok wq_1_19 wq_1_20 wq_1_21 (fun j hj => by rcases (show j = 0 ∨ j = 1 by omega) with rfl | rfl <;> rfl) ⟨Nat.le_of_ble_eq_true rfl, Nat.le_of_ble_eq_true rfl⟩ (fun q27 => ?_)
  refine KJ.eqw (ws' := [(h, .inr (1, [.ref q5, .ref q16, .null, .null, .null, .null, .null, .int 0, .int 0, .int 0, .int 0, .int 0, .int 0])), (q5, .inr (0, [.ref q5a, .int (nI (([] : List Nat).length))])), (q5a, .inl (D.1 20, 40, .inl (fun _ => 0))), (q16, .inr (0, [.ref q16a, .int (nI (([] : List Nat).length))])), (q16a, .inl (D.1 20, 40, .inl (fun _ => 0))), (q27, .inr (0, [.null, .int 0]))]) rfl ?_
  refine k_dup hC 30 dX1_init_30 rfl ?_
  refine k_callI hC 31 [5] (fun q27a => [(h, .inr (1, [.ref q5, .ref q16, .null, .null, .null, .null, .null, .int 0, .int 0, .int 0, .int 0, .int 0, .int 0])), (q5, .inr (0, [.ref q5a, .int (nI (([] : List Nat).length))])), (q5a, .inl (D.1 20, 40, .inl (fun _ => 0))), (q16, .inr (0, [.ref q16a, .int (nI (([] : List Nat).length))])), (q16a, .inl (D.1 20, 40, .inl (fun _ => 0))), (q27, .inr (0, [.ref q27a, .int (nI (([] : List Nat).length))])), (q27a, .inl (D.1 20, 40, .inl (fun _ => 0)))]) (c_X0_init l D q27) cw_RX1_11 dX1_init_31 ⟨Nat.le_of_ble_eq_true rfl, Nat.le_of_ble_eq_true rfl, Nat.le_of_ble_eq_true rfl, Nat.le_of_ble_eq_true rfl⟩ rfl (Nat.le_of_ble_eq_true rfl) (by decide) rfl (fun _ => Nat.le_of_ble_eq_true rfl) (fun _ => rfl) _ rfl (fun v q27a hp => ?_)
  obtain rfl := hp
  refine KJ.eqs (st' := .ref q27 :: .ref h :: []) rfl ?_
  refine k_putfF hC 34 (ty0 := tyX1) 0 2 [(h, .inr (1, [.ref q5, .ref q16, .ref q27, .null, .null, .null, .null, .int 0, .int 0, .int 0, .int 0, .int 0, .int 0])), (q5, .inr (0, [.ref q5a, .int (nI (([] : List Nat).length))])), (q5a, .inl (D.1 20, 40, .inl (fun _ => 0))), (q16, .inr (0, [.ref q16a, .int (nI (([] : List Nat).length))])), (q16a, .inl (D.1 20, 40, .inl (fun _ => 0))), (q27, .inr (0, [.ref q27a, .int (nI (([] : List Nat).length))])), (q27a, .inl (D.1 20, 40, .inl (fun _ => 0)))] dX1_init_34 rfl rfl inlX1 tyX1_ok nmX1 (by decide) wq_2_0 rfl hE.2.2.2.2 rfl rfl rfl (Nat.le_of_ble_eq_true rfl) rfl ?_
  refine k_aload_n hC 37 dX1_init_37 rfl ?_
  refine k_new hC 38 0 [.null, .int 0] dX1_init_38 rfl inlX0 tyX0_ok wq_1_19 wq_1_20 wq_1_21 (fun j hj => by rcases (show j = 0 ∨ j = 1 by omega) with rfl | rfl <;> rfl) ⟨Nat.le_of_ble_eq_true rfl, Nat.le_of_ble_eq_true rfl⟩ (fun q38 => ?_)
  refine KJ.eqw (ws' := [(h, .inr (1, [.ref q5, .ref q16, .ref q27, .null, .null, .null, .null, .int 0, .int 0, .int 0, .int 0, .int 0, .int 0])), (q5, .inr (0, [.ref q5a, .int (nI (([] : List Nat).length))])), (q5a, .inl (D.1 20, 40, .inl (fun _ => 0))), (q16, .inr (0, [.ref q16a, .int (nI (([] : List Nat).length))])), (q16a, .inl (D.1 20, 40, .inl (fun _ => 0))), (q27, .inr (0, [.ref q27a, .int (nI (([] : List Nat).length))])), (q27a, .inl (D.1 20, 40, .inl (fun _ => 0))), (q38, .inr (0, [.null, .int 0]))]) rfl ?_
  refine k_dup hC 41 dX1_init_41 rfl ?_
  refine k_callI hC 42 [7] (fun q38a => [(h, .inr (1, [.ref q5, .ref q16, .ref q27, .null, .null, .null, .null, .int 0, .int 0, .int 0, .int 0, .int 0, .int 0])), (q5, .inr (0, [.ref q5a, .int (nI (([] : List Nat).length))])), (q5a, .inl (D.1 20, 40, .inl (fun _ => 0))), (q16, .inr (0, [.ref q16a, .int (nI (([] : List Nat).length))])), (q16a, .inl (D.1 20, 40, .inl (fun _ => 0))), (q27, .inr (0, [.ref q27a, .int (nI (([] : List Nat).length))])), (q27a, .inl (D.1 20, 40, .inl (fun _ => 0))), (q38, .inr (0, [.ref q38a, .int (nI (([] : List Nat).length))])), (q38a, .inl (D.1 20, 40, .inl (fun _ => 0)))]) (c_X0_init l D q38) cw_RX1_11 dX1_init_42 ⟨Nat.le_of_ble_eq_true rfl, Nat.le_of_ble_eq_true rfl, Nat.le_of_ble_eq_true rfl, Nat.le_of_ble_eq_true rfl⟩ rfl (Nat.le_of_ble_eq_true rfl) (by decide) rfl (fun _ => Nat.le_of_ble_eq_true rfl) (fun _ => rfl) _ rfl (fun v q38a hp => ?_)
  obtain rfl := hp
  refine KJ.eqs (st' := .ref q38 :: .ref h :: []) rfl ?_
  refine k_putfF hC 45 (ty0 := tyX1) 0 3 [(h, .inr (1, [.ref q5, .ref q16, .ref q27, .ref q38, .null, .null, .null, .int 0, .int 0, .int 0, .int 0, .int 0, .int 0])), (q5, .inr (0, [.ref q5a, .int (nI (([] : List Nat).length))])), (q5a, .inl (D.1 20, 40, .inl (fun _ => 0))), (q16, .inr (0, [.ref q16a, .int (nI (([] : List Nat).length))])), (q16a, .inl (D.1 20, 40, .inl (fun _ => 0))), (q27, .inr (0, [.ref q27a, .int (nI (([] : List Nat).length))])), (q27a, .inl (D.1 20, 40, .inl (fun _ => 0))), (q38, .inr (0, [.ref q38a, .int (nI (([] : List Nat).length))])), (q38a, .inl (D.1 20, 40, .inl (fun _ => 0)))] dX1_init_45 rfl rfl inlX1 tyX1_ok nmX1 (by decide) wq_2_1 rfl hE.2.2.2.2 rfl rfl rfl (Nat.le_of_ble_eq_true rfl) rfl ?_
  refine k_aload_n hC 48 dX1_init_48 rfl ?_
  refine k_new hC 49 2 [.null] dX1_init_49 rfl inlX2 tyX2_ok wq_2_2 wq_2_3 wq_2_4 (fun j hj => by rcases (show j = 0 by omega) with rfl <;> rfl) ⟨Nat.le_of_ble_eq_true rfl, Nat.le_of_ble_eq_true rfl⟩ (fun q49 => ?_)
  refine KJ.eqw (ws' := [(h, .inr (1, [.ref q5, .ref q16, .ref q27, .ref q38, .null, .null, .null, .int 0, .int 0, .int 0, .int 0, .int 0, .int 0])), (q5, .inr (0, [.ref q5a, .int (nI (([] : List Nat).length))])), (q5a, .inl (D.1 20, 40, .inl (fun _ => 0))), (q16, .inr (0, [.ref q16a, .int (nI (([] : List Nat).length))])), (q16a, .inl (D.1 20, 40, .inl (fun _ => 0))), (q27, .inr (0, [.ref q27a, .int (nI (([] : List Nat).length))])), (q27a, .inl (D.1 20, 40, .inl (fun _ => 0))), (q38, .inr (0, [.ref q38a, .int (nI (([] : List Nat).length))])), (q38a, .inl (D.1 20, 40, .inl (fun _ => 0))), (q49, .inr (2, [.null]))]) rfl ?_
  refine k_dup hC 52 dX1_init_52 rfl ?_
  refine k_callI hC 53 [9] (fun q49a => [(h, .inr (1, [.ref q5, .ref q16, .ref q27, .ref q38, .null, .null, .null, .int 0, .int 0, .int 0, .int 0, .int 0, .int 0])), (q5, .inr (0, [.ref q5a, .int (nI (([] : List Nat).length))])), (q5a, .inl (D.1 20, 40, .inl (fun _ => 0))), (q16, .inr (0, [.ref q16a, .int (nI (([] : List Nat).length))])), (q16a, .inl (D.1 20, 40, .inl (fun _ => 0))), (q27, .inr (0, [.ref q27a, .int (nI (([] : List Nat).length))])), (q27a, .inl (D.1 20, 40, .inl (fun _ => 0))), (q38, .inr (0, [.ref q38a, .int (nI (([] : List Nat).length))])), (q38a, .inl (D.1 20, 40, .inl (fun _ => 0))), (q49, .inr (2, [.ref q49a])), (q49a, .inl (D.1 20, 40, .inl (fun _ => 0)))]) (c_X2_init l D q49) cw_RX1_29 dX1_init_53 ⟨Nat.le_of_ble_eq_true rfl, Nat.le_of_ble_eq_true rfl, Nat.le_of_ble_eq_true rfl, Nat.le_of_ble_eq_true rfl⟩ rfl (Nat.le_of_ble_eq_true rfl) (by decide) rfl (fun _ => Nat.le_of_ble_eq_true rfl) (fun _ => rfl) _ rfl (fun v q49a hp => ?_)
  obtain rfl := hp
  refine KJ.eqs (st' := .ref q49 :: .ref h :: []) rfl ?_
  refine k_putfF hC 56 (ty0 := tyX1) 0 4 [(h, .inr (1, [.ref q5, .ref q16, .ref q27, .ref q38, .ref q49, .null, .null, .int 0, .int 0, .int 0, .int 0, .int 0, .int 0])), (q5, .inr (0, [.ref q5a, .int (nI (([] : List Nat).length))])), (q5a, .inl (D.1 20, 40, .inl (fun _ => 0))), (q16, .inr (0, [.ref q16a, .int (nI (([] : List Nat).length))])), (q16a, .inl (D.1 20, 40, .inl (fun _ => 0))), (q27, .inr (0, [.ref q27a, .int (nI (([] : List Nat).length))])), (q27a, .inl (D.1 20, 40, .inl (fun _ => 0))), (q38, .inr (0, [.ref q38a, .int (nI (([] : List Nat).length))])), (q38a, .inl (D.1 20, 40, .inl (fun _ => 0))), (q49, .inr (2, [.ref q49a])), (q49a, .inl (D.1 20, 40, .inl (fun _ => 0)))] dX1_init_56 rfl rfl inlX1 tyX1_ok nmX1 (by decide) wq_2_5 rfl hE.2.2.2.2 rfl rfl rfl (Nat.le_of_ble_eq_true rfl) rfl ?_
  refine k_aload_n hC 59 dX1_init_59 rfl ?_
  refine k_new hC 60 2 [.null] dX1_init_60 rfl inlX2 tyX2_ok wq_2_2 wq_2_3 wq_2_4 (fun j hj => by rcases (show j = 0 by omega) with rfl <;> rfl) ⟨Nat.le_of_ble_eq_true rfl, Nat.le_of_ble_eq_true rfl⟩ (fun q60 => ?_)
  refine KJ.eqw (ws' := [(h, .inr (1, [.ref q5, .ref q16, .ref q27, .ref q38, .ref q49, .null, .null, .int 0, .int 0, .int 0, .int 0, .int 0, .int 0])), (q5, .inr (0, [.ref q5a, .int (nI (([] : List Nat).length))])), (q5a, .inl (D.1 20, 40, .inl (fun _ => 0))), (q16, .inr (0, [.ref q16a, .int (nI (([] : List Nat).length))])), (q16a, .inl (D.1 20, 40, .inl (fun _ => 0))), (q27, .inr (0, [.ref q27a, .int (nI (([] : List Nat).length))])), (q27a, .inl (D.1 20, 40, .inl (fun _ => 0))), (q38, .inr (0, [.ref q38a, .int (nI (([] : List Nat).length))])), (q38a, .inl (D.1 20, 40, .inl (fun _ => 0))), (q49, .inr (2, [.ref q49a])), (q49a, .inl (D.1 20, 40, .inl (fun _ => 0))), (q60, .inr (2, [.null]))]) rfl ?_
  refine k_dup hC 63 dX1_init_63 rfl ?_
  refine k_callI hC 64 [11] (fun q60a => [(h, .inr (1, [.ref q5, .ref q16, .ref q27, .ref q38, .ref q49, .null, .null, .int 0, .int 0, .int 0, .int 0, .int 0, .int 0])), (q5, .inr (0, [.ref q5a, .int (nI (([] : List Nat).length))])), (q5a, .inl (D.1 20, 40, .inl (fun _ => 0))), (q16, .inr (0, [.ref q16a, .int (nI (([] : List Nat).length))])), (q16a, .inl (D.1 20, 40, .inl (fun _ => 0))), (q27, .inr (0, [.ref q27a, .int (nI (([] : List Nat).length))])), (q27a, .inl (D.1 20, 40, .inl (fun _ => 0))), (q38, .inr (0, [.ref q38a, .int (nI (([] : List Nat).length))])), (q38a, .inl (D.1 20, 40, .inl (fun _ => 0))), (q49, .inr (2, [.ref q49a])), (q49a, .inl (D.1 20, 40, .inl (fun _ => 0))), (q60, .inr (2, [.ref q60a])), (q60a, .inl (D.1 20, 40, .inl (fun _ => 0)))]) (c_X2_init l D q60) cw_RX1_29 dX1_init_64 ⟨Nat.le_of_ble_eq_true rfl, Nat.le_of_ble_eq_true rfl, Nat.le_of_ble_eq_true rfl, Nat.le_of_ble_eq_true rfl⟩ rfl (Nat.le_of_ble_eq_true rfl) (by decide) rfl (fun _ => Nat.le_of_ble_eq_true rfl) (fun _ => rfl) _ rfl (fun v q60a hp => ?_)
  obtain rfl := hp
  refine KJ.eqs (st' := .ref q60 :: .ref h :: []) rfl ?_
  refine k_putfF hC 67 (ty0 := tyX1) 0 5 [(h, .inr (1, [.ref q5, .ref q16, .ref q27, .ref q38, .ref q49, .ref q60, .null, .int 0, .int 0, .int 0, .int 0, .int 0, .int 0])), (q5, .inr (0, [.ref q5a, .int (nI (([] : List Nat).length))])), (q5a, .inl (D.1 20, 40, .inl (fun _ => 0))), (q16, .inr (0, [.ref q16a, .int (nI (([] : List Nat).length))])), (q16a, .inl (D.1 20, 40, .inl (fun _ => 0))), (q27, .inr (0, [.ref q27a, .int (nI (([] : List Nat).length))])), (q27a, .inl (D.1 20, 40, .inl (fun _ => 0))), (q38, .inr (0, [.ref q38a, .int (nI (([] : List Nat).length))])), (q38a, .inl (D.1 20, 40, .inl (fun _ => 0))), (q49, .inr (2, [.ref q49a])), (q49a, .inl (D.1 20, 40, .inl (fun _ => 0))), (q60, .inr (2, [.ref q60a])), (q60a, .inl (D.1 20, 40, .inl (fun _ => 0)))] dX1_init_67 rfl rfl inlX1 tyX1_ok nmX1 (by decide) wq_2_6 rfl hE.2.2.2.2 rfl rfl rfl (Nat.le_of_ble_eq_true rfl) rfl ?_
  refine k_aload_n hC 70 dX1_init_70 rfl ?_
  refine k_new hC 71 2 [.null] dX1_init_71 rfl inlX2 tyX2_ok wq_2_2 wq_2_3 wq_2_4 (fun j hj => by rcases (show j = 0 by omega) with rfl <;> rfl) ⟨Nat.le_of_ble_eq_true rfl, Nat.le_of_ble_eq_true rfl⟩ (fun q71 => ?_)
  refine KJ.eqw (ws' := [(h, .inr (1, [.ref q5, .ref q16, .ref q27, .ref q38, .ref q49, .ref q60, .null, .int 0, .int 0, .int 0, .int 0, .int 0, .int 0])), (q5, .inr (0, [.ref q5a, .int (nI (([] : List Nat).length))])), (q5a, .inl (D.1 20, 40, .inl (fun _ => 0))), (q16, .inr (0, [.ref q16a, .int (nI (([] : List Nat).length))])), (q16a, .inl (D.1 20, 40, .inl (fun _ => 0))), (q27, .inr (0, [.ref q27a, .int (nI (([] : List Nat).length))])), (q27a, .inl (D.1 20, 40, .inl (fun _ => 0))), (q38, .inr (0, [.ref q38a, .int (nI (([] : List Nat).length))])), (q38a, .inl (D.1 20, 40, .inl (fun _ => 0))), (q49, .inr (2, [.ref q49a])), (q49a, .inl (D.1 20, 40, .inl (fun _ => 0))), (q60, .inr (2, [.ref q60a])), (q60a, .inl (D.1 20, 40, .inl (fun _ => 0))), (q71, .inr (2, [.null]))]) rfl ?_
  refine k_dup hC 74 dX1_init_74 rfl ?_
  refine k_callI hC 75 [13] (fun q71a => [(h, .inr (1, [.ref q5, .ref q16, .ref q27, .ref q38, .ref q49, .ref q60, .null, .int 0, .int 0, .int 0, .int 0, .int 0, .int 0])), (q5, .inr (0, [.ref q5a, .int (nI (([] : List Nat).length))])), (q5a, .inl (D.1 20, 40, .inl (fun _ => 0))), (q16, .inr (0, [.ref q16a, .int (nI (([] : List Nat).length))])), (q16a, .inl (D.1 20, 40, .inl (fun _ => 0))), (q27, .inr (0, [.ref q27a, .int (nI (([] : List Nat).length))])), (q27a, .inl (D.1 20, 40, .inl (fun _ => 0))), (q38, .inr (0, [.ref q38a, .int (nI (([] : List Nat).length))])), (q38a, .inl (D.1 20, 40, .inl (fun _ => 0))), (q49, .inr (2, [.ref q49a])), (q49a, .inl (D.1 20, 40, .inl (fun _ => 0))), (q60, .inr (2, [.ref q60a])), (q60a, .inl (D.1 20, 40, .inl (fun _ => 0))), (q71, .inr (2, [.ref q71a])), (q71a, .inl (D.1 20, 40, .inl (fun _ => 0)))]) (c_X2_init l D q71) cw_RX1_29 dX1_init_75 ⟨Nat.le_of_ble_eq_true rfl, Nat.le_of_ble_eq_true rfl, Nat.le_of_ble_eq_true rfl, Nat.le_of_ble_eq_true rfl⟩ rfl (Nat.le_of_ble_eq_true rfl) (by decide) rfl (fun _ => Nat.le_of_ble_eq_true rfl) (fun _ => rfl) _ rfl (fun v q71a hp => ?_)
  obtain rfl := hp
  refine KJ.eqs (st' := .ref q71 :: .ref h :: []) rfl ?_
  refine k_putfF hC 78 (ty0 := tyX1) 0 6 [(h, .inr (1, [.ref q5, .ref q16, .ref q27, .ref q38, .ref q49, .ref q60, .ref q71, .int 0, .int 0, .int 0, .int 0, .int 0, .int 0])), (q5, .inr (0, [.ref q5a, .int (nI (([] : List Nat).length))])), (q5a, .inl (D.1 20, 40, .inl (fun _ => 0))), (q16, .inr (0, [.ref q16a, .int (nI (([] : List Nat).length))])), (q16a, .inl (D.1 20, 40, .inl (fun _ => 0))), (q27, .inr (0, [.ref q27a, .int (nI (([] : List Nat).length))])), (q27a, .inl (D.1 20, 40, .inl (fun _ => 0))), (q38, .inr (0, [.ref q38a, .int (nI (([] : List Nat).length))])), (q38a, .inl (D.1 20, 40, .inl (fun _ => 0))), (q49, .inr (2, [.ref q49a])), (q49a, .inl (D.1 20, 40, .inl (fun _ => 0))), (q60, .inr (2, [.ref q60a])), (q60a, .inl (D.1 20, 40, .inl (fun _ => 0))), (q71, .inr (2, [.ref q71a])), (q71a, .inl (D.1 20, 40, .inl (fun _ => 0)))] dX1_init_78 rfl rfl inlX1 tyX1_ok nmX1 (by decide) wq_2_7 rfl hE.2.2.2.2 rfl rfl rfl (Nat.le_of_ble_eq_true rfl) rfl ?_
  refine k_aload_n hC 81 dX1_init_81 rfl ?_
  refine k_bipush hC 82 dX1_init_82 (nI 6) (by decide) ?_
  refine k_putf hC 84 (ty0 := tyX1) 0 7 [(h, .inr (1, [.ref q5, .ref q16, .ref q27, .ref q38, .ref q49, .ref q60, .ref q71, .int (nI 6), .int 0, .int 0, .int 0, .int 0, .int 0])), (q5, .inr (0, [.ref q5a, .int (nI (([] : List Nat).length))])), (q5a, .inl (D.1 20, 40, .inl (fun _ => 0))), (q16, .inr (0, [.ref q16a, .int (nI (([] : List Nat).length))])), (q16a, .inl (D.1 20, 40, .inl (fun _ => 0))), (q27, .inr (0, [.ref q27a, .int (nI (([] : List Nat).length))])), (q27a, .inl (D.1 20, 40, .inl (fun _ => 0))), (q38, .inr (0, [.ref q38a, .int (nI (([] : List Nat).length))])), (q38a, .inl (D.1 20, 40, .inl (fun _ => 0))), (q49, .inr (2, [.ref q49a])), (q49a, .inl (D.1 20, 40, .inl (fun _ => 0))), (q60, .inr (2, [.ref q60a])), (q60a, .inl (D.1 20, 40, .inl (fun _ => 0))), (q71, .inr (2, [.ref q71a])), (q71a, .inl (D.1 20, 40, .inl (fun _ => 0)))] dX1_init_84 rfl rfl inlX1 tyX1_ok nmX1 (by decide) wq_2_8 rfl rfl rfl (Nat.le_of_ble_eq_true rfl) rfl ?_
  exact k_vret hC hE 87 (fun i => ([h, q5, q5a, q16, q16a, q27, q27a, q38, q38a, q49, q49a, q60, q60a, q71, q71a] : List Nat).getD i 0) dX1_init_87 (⟨rfl, rfl⟩) rfl ⟨Nat.le_of_ble_eq_true rfl, Nat.le_of_ble_eq_true rfl⟩
