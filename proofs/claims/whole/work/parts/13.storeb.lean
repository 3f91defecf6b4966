/-! PinnedPantry$Store: what changes it -/
theorem c_X0_takeOut_ix (l : Launch) (D : va_G) (r q : Nat) (L : List Nat) (f : Nat → Int32) (k : Nat) (hR : RowL L f) (hL : L.length ≤ 40) : MU l yX0_takeOut cX0_takeOut 3 none 0 0 D [.ref r, .int (ixv L k)] [(r, .inr (0, [.ref q, .int (nI L.length)])), (q, .inl (D.1 5, 40, .inl f))] (fun v (u : Nat → Int32) => v = none ∧ RowL (ea L k) u) (fun u => [(r, .inr (0, [.ref q, .int (nI (ea L k).length)])), (q, .inl (D.1 5, 40, .inl u))]) 0 0 := by
  by_cases h : k ∈ L
  · rw [ixv_in h, ea, if_pos h]
    exact c_X0_takeOut l D r q L f (L.idxOf k) hR hL (List.idxOf_lt_length_of_mem h)
  · rw [ixv_out h, ea, if_neg h]
    exact c_X0_takeOut_no l D r q L f hR hL
set_option maxHeartbeats 4000000 in
set_option maxRecDepth 100000 in
/-- recall -/
theorem c_X1_recall (l : Launch) (D : va_G) (a : Nat → Nat) (N T A B : List Nat) (to pi : Nat → Nat) (fe : Nat → Int32) (pl go : Nat) (hi mi re lo : Int32) (g0 g1 g2 g3 g4 g5 g6 : Nat → Int32) (k o : Nat) (hS : SR (N, T, A, B, to, pi, fe, pl, go, hi, mi, re, lo) (g0, g1, g2, g3, g4, g5, g6)) (hW : WF (N, T, A, B, to, pi, fe, pl, go, hi, mi, re, lo)) (hk : k < 40) (ho : o < 4) (h2 : o = 2 → k ∈ A) (h3 : o = 3 → k ∈ B) : MU l yX1_recall cX1_recall 3 none 2 35 D [.ref (a 0), .int (nI k), .int (nI o)] [((a 0), .inr (1, [.ref (a 1), .ref (a 3), .ref (a 5), .ref (a 7), .ref (a 9), .ref (a 11), .ref (a 13), .int (nI pl), .int (nI go), .int hi, .int mi, .int re, .int lo])), ((a 1), .inr (0, [.ref (a 2), .int (nI N.length)])), ((a 2), .inl (D.1 5, 40, .inl g0)), ((a 3), .inr (0, [.ref (a 4), .int (nI T.length)])), ((a 4), .inl (D.1 5, 40, .inl g1)), ((a 5), .inr (0, [.ref (a 6), .int (nI A.length)])), ((a 6), .inl (D.1 5, 40, .inl g2)), ((a 7), .inr (0, [.ref (a 8), .int (nI B.length)])), ((a 8), .inl (D.1 5, 40, .inl g3)), ((a 9), .inr (2, [.ref (a 10)])), ((a 10), .inl (D.1 5, 40, .inl g4)), ((a 11), .inr (2, [.ref (a 12)])), ((a 12), .inl (D.1 5, 40, .inl g5)), ((a 13), .inr (2, [.ref (a 14)])), ((a 14), .inl (D.1 5, 40, .inl g6))] (fun v (u : PS × PG) => v = none ∧ u.1 = rcl (N, T, A, B, to, pi, fe, pl, go, hi, mi, re, lo) k o ∧ SR u.1 u.2) (fun u => wSt D a u.1 u.2) 0 0 := by
  refine MU.enter (by decide) [(0, .ref (a 0)), (1, .int (nI k)), (2, .int (nI o))] rfl (Nat.le_of_ble_eq_true rfl) (fun G hC hE => ?_)
  have hC : CX G D cX1_recall RX1 3 := hC
  have hS0 := hS
  have hW0 := hW
  obtain ⟨r0, r1, r2, r3, r4, r5, r6⟩ := hS
  obtain ⟨kN, kT, kA, kB, nd, len, lA, lB, p2, p12, g12, t1, p9⟩ := hW
  have tb1 := tn_le (x := B) (y := A) lB
  have tb2 := tn_le (x := A) (y := B) lA
  refine k_iload_n hC 0 dX1_recall_0 rfl ?_
  refine k_iconst hC 1 dX1_recall_1 (nI 2) (by decide) ?_
  refine n_icmp_ne hC 2 60 dX1_recall_2 (by decide) (by omega) (by omega) (fun e2 => ?_) (fun e2 => ?_)
  · skip
    refine k_iload_n hC 60 dX1_recall_60 rfl ?_
    refine k_iconst hC 61 dX1_recall_61 (nI 3) (by decide) ?_
    refine n_icmp_ne hC 62 114 dX1_recall_62 (by decide) (by omega) (by omega) (fun e3 => ?_) (fun e3 => ?_)
    · skip
      exact k_vret hC hE 114 ((N, T, A, B, to, pi, fe, pl, go, hi, mi, re, lo), (g0, g1, g2, g3, g4, g5, g6)) dX1_recall_114 (⟨rfl, by rw [rcl, if_neg e2, if_neg e3], r0, r1, r2, r3, r4, r5, r6⟩) rfl ⟨Nat.zero_le _, Nat.zero_le _⟩
    · skip
      refine k_aload_n hC 65 dX1_recall_65 rfl ?_
      refine k_iconst hC 66 dX1_recall_66 (nI 0) (by decide) ?_
      refine k_aload_n hC 67 dX1_recall_67 rfl ?_
      refine k_getf hC 68 0 8 dX1_recall_68 rfl rfl inlX1 (by decide) wq_6_3 rfl ?_
      refine k_aload_n hC 71 dX1_recall_71 rfl ?_
      refine k_getf hC 72 0 2 dX1_recall_72 rfl rfl inlX1 (by decide) wq_2_3 rfl ?_
      refine k_aload_n hC 75 dX1_recall_75 rfl ?_
      refine k_getf hC 76 0 3 dX1_recall_76 rfl rfl inlX1 (by decide) wq_2_4 rfl ?_
      have hm := h3 e3
      refine k_callSr hC 79 [5, 7] (c_X1_turn l D (a 5) (a 6) (a 7) (a 8) A.length B.length (by omega) (by omega)) cw_RX1_114 dX1_recall_79 ⟨Nat.le_of_ble_eq_true rfl, Nat.le_of_ble_eq_true rfl, Nat.le_of_ble_eq_true rfl, Nat.le_of_ble_eq_true rfl⟩ rfl (Nat.le_of_ble_eq_true rfl) (by decide) rfl (fun _ => Nat.le_of_ble_eq_true rfl) (fun _ => rfl) _ rfl (fun v u hp => ?_)
      obtain rfl := hp
      refine KJ.eqs (st' := .int (nI (max 1 (A.length / B.length))) :: .int (nI go) :: .int (nI 0) :: .ref (a 0) :: []) rfl ?_
      refine KJ.topi (y := (nI (tn A B))) rfl ?_
      refine k_isub hC 82 dX1_recall_82 (KJ.topi (y := (nI go - nI (tn A B))) rfl ?_)
      refine k_max hC 83 dX1_recall_83 wq_6_9 wq_6_10 wq_6_6 wq_6_11 ⟨Nat.le_of_ble_eq_true rfl, Nat.le_of_ble_eq_true rfl, Nat.le_of_ble_eq_true rfl, Nat.le_of_ble_eq_true rfl⟩ (KJ.topi (y := (nI (go - tn A B))) (nsubmax (by omega) (by omega)) ?_)
      refine k_putf hC 86 (ty0 := tyX1) 0 8 [((a 0), .inr (1, [.ref (a 1), .ref (a 3), .ref (a 5), .ref (a 7), .ref (a 9), .ref (a 11), .ref (a 13), .int (nI pl), .int (nI (go - tn A B)), .int hi, .int mi, .int re, .int lo])), ((a 1), .inr (0, [.ref (a 2), .int (nI N.length)])), ((a 2), .inl (D.1 5, 40, .inl g0)), ((a 3), .inr (0, [.ref (a 4), .int (nI T.length)])), ((a 4), .inl (D.1 5, 40, .inl g1)), ((a 5), .inr (0, [.ref (a 6), .int (nI A.length)])), ((a 6), .inl (D.1 5, 40, .inl g2)), ((a 7), .inr (0, [.ref (a 8), .int (nI B.length)])), ((a 8), .inl (D.1 5, 40, .inl g3)), ((a 9), .inr (2, [.ref (a 10)])), ((a 10), .inl (D.1 5, 40, .inl g4)), ((a 11), .inr (2, [.ref (a 12)])), ((a 12), .inl (D.1 5, 40, .inl g5)), ((a 13), .inr (2, [.ref (a 14)])), ((a 14), .inl (D.1 5, 40, .inl g6))] dX1_recall_86 rfl rfl inlX1 tyX1_ok nmX1 (by decide) wq_6_3 rfl rfl rfl (Nat.le_of_ble_eq_true rfl) rfl ?_
      refine k_aload_n hC 89 dX1_recall_89 rfl ?_
      refine k_getf hC 90 0 3 dX1_recall_90 rfl rfl inlX1 (by decide) wq_2_4 rfl ?_
      refine k_aload_n hC 93 dX1_recall_93 rfl ?_
      refine k_getf hC 94 0 3 dX1_recall_94 rfl rfl inlX1 (by decide) wq_2_4 rfl ?_
      refine k_iload_n hC 97 dX1_recall_97 rfl ?_
      refine k_callVr hC 98 7 [7, 8] (c_X0_placeOf l D (a 7) (a 8) B g3 k r3 (by omega) kB hk) cw_RX1_124 dX1_recall_98 ⟨Nat.le_of_ble_eq_true rfl, Nat.le_of_ble_eq_true rfl, Nat.le_of_ble_eq_true rfl, Nat.le_of_ble_eq_true rfl⟩ rfl (Nat.le_of_ble_eq_true rfl) rfl rfl rfl (by decide) rfl (fun _ => Nat.le_of_ble_eq_true rfl) (fun _ => rfl) _ rfl (fun v u hp => ?_)
      obtain rfl := hp
      refine KJ.eqs (st' := .int (ixv B k) :: .ref (a 7) :: []) rfl ?_
      refine KJ.topi (y := (nI (B.idxOf k))) (ixv_in hm) ?_
      refine k_callV hC 101 7 [7, 8] (fun x => [((a 0), .inr (1, [.ref (a 1), .ref (a 3), .ref (a 5), .ref (a 7), .ref (a 9), .ref (a 11), .ref (a 13), .int (nI pl), .int (nI (go - tn A B)), .int hi, .int mi, .int re, .int lo])), ((a 1), .inr (0, [.ref (a 2), .int (nI N.length)])), ((a 2), .inl (D.1 5, 40, .inl g0)), ((a 3), .inr (0, [.ref (a 4), .int (nI T.length)])), ((a 4), .inl (D.1 5, 40, .inl g1)), ((a 5), .inr (0, [.ref (a 6), .int (nI A.length)])), ((a 6), .inl (D.1 5, 40, .inl g2)), ((a 7), .inr (0, [.ref (a 8), .int (nI ((B.eraseIdx (B.idxOf k)).length))])), ((a 8), .inl (D.1 5, 40, .inl x)), ((a 9), .inr (2, [.ref (a 10)])), ((a 10), .inl (D.1 5, 40, .inl g4)), ((a 11), .inr (2, [.ref (a 12)])), ((a 12), .inl (D.1 5, 40, .inl g5)), ((a 13), .inr (2, [.ref (a 14)])), ((a 14), .inl (D.1 5, 40, .inl g6))]) (c_X0_takeOut l D (a 7) (a 8) B g3 (B.idxOf k) r3 (by omega) (List.idxOf_lt_length_of_mem hm)) cw_RX1_127 dX1_recall_101 ⟨Nat.le_of_ble_eq_true rfl, Nat.le_of_ble_eq_true rfl, Nat.le_of_ble_eq_true rfl, Nat.le_of_ble_eq_true rfl⟩ rfl (Nat.le_of_ble_eq_true rfl) rfl rfl rfl (by decide) rfl (fun _ => Nat.le_of_ble_eq_true rfl) (fun _ => rfl) _ rfl (fun v x hp => ?_)
      obtain ⟨rfl, hx⟩ := hp
      refine KJ.eqs (st' := []) rfl ?_
      refine k_aload_n hC 104 dX1_recall_104 rfl ?_
      refine k_dup hC 105 dX1_recall_105 rfl ?_
      refine k_getf hC 106 0 11 dX1_recall_106 rfl rfl inlX1 (by decide) wq_6_8 rfl ?_
      refine k_iconst hC 109 dX1_recall_109 (nI 1) (by decide) ?_
      refine k_iadd hC 110 dX1_recall_110 (KJ.topi (y := (re + 1)) rfl ?_)
      refine k_putf hC 111 (ty0 := tyX1) 0 11 [((a 0), .inr (1, [.ref (a 1), .ref (a 3), .ref (a 5), .ref (a 7), .ref (a 9), .ref (a 11), .ref (a 13), .int (nI pl), .int (nI (go - tn A B)), .int hi, .int mi, .int (re + 1), .int lo])), ((a 1), .inr (0, [.ref (a 2), .int (nI N.length)])), ((a 2), .inl (D.1 5, 40, .inl g0)), ((a 3), .inr (0, [.ref (a 4), .int (nI T.length)])), ((a 4), .inl (D.1 5, 40, .inl g1)), ((a 5), .inr (0, [.ref (a 6), .int (nI A.length)])), ((a 6), .inl (D.1 5, 40, .inl g2)), ((a 7), .inr (0, [.ref (a 8), .int (nI ((B.eraseIdx (B.idxOf k)).length))])), ((a 8), .inl (D.1 5, 40, .inl x)), ((a 9), .inr (2, [.ref (a 10)])), ((a 10), .inl (D.1 5, 40, .inl g4)), ((a 11), .inr (2, [.ref (a 12)])), ((a 12), .inl (D.1 5, 40, .inl g5)), ((a 13), .inr (2, [.ref (a 14)])), ((a 14), .inl (D.1 5, 40, .inl g6))] dX1_recall_111 rfl rfl inlX1 tyX1_ok nmX1 (by decide) wq_6_8 rfl rfl rfl (Nat.le_of_ble_eq_true rfl) rfl ?_
      exact k_vret hC hE 114 ((N, T, A, (B.eraseIdx (B.idxOf k)), to, pi, fe, pl, go - tn A B, hi, mi, re + 1, lo), (g0, g1, g2, x, g4, g5, g6)) dX1_recall_114 (⟨rfl, by rw [rcl, if_neg e2, if_pos e3], r0, r1, r2, hx, r4, r5, r6⟩) rfl ⟨Nat.zero_le _, Nat.zero_le _⟩
  · skip
    refine k_aload_n hC 5 dX1_recall_5 rfl ?_
    refine k_aload_n hC 6 dX1_recall_6 rfl ?_
    refine k_getf hC 7 0 7 dX1_recall_7 rfl rfl inlX1 (by decide) wq_2_11 rfl ?_
    refine k_aload_n hC 10 dX1_recall_10 rfl ?_
    refine k_getf hC 11 0 8 dX1_recall_11 rfl rfl inlX1 (by decide) wq_6_3 rfl ?_
    refine k_aload_n hC 14 dX1_recall_14 rfl ?_
    refine k_getf hC 15 0 3 dX1_recall_15 rfl rfl inlX1 (by decide) wq_2_4 rfl ?_
    refine k_aload_n hC 18 dX1_recall_18 rfl ?_
    refine k_getf hC 19 0 2 dX1_recall_19 rfl rfl inlX1 (by decide) wq_2_3 rfl ?_
    have hm := h2 e2
    refine k_callSr hC 22 [7, 5] (c_X1_turn l D (a 7) (a 8) (a 5) (a 6) B.length A.length (by omega) (by omega)) cw_RX1_114 dX1_recall_22 ⟨Nat.le_of_ble_eq_true rfl, Nat.le_of_ble_eq_true rfl, Nat.le_of_ble_eq_true rfl, Nat.le_of_ble_eq_true rfl⟩ rfl (Nat.le_of_ble_eq_true rfl) (by decide) rfl (fun _ => Nat.le_of_ble_eq_true rfl) (fun _ => rfl) _ rfl (fun v u hp => ?_)
    obtain rfl := hp
    refine KJ.eqs (st' := .int (nI (max 1 (B.length / A.length))) :: .int (nI go) :: .int (nI pl) :: .ref (a 0) :: []) rfl ?_
    refine KJ.topi (y := (nI (tn B A))) rfl ?_
    refine n_iadd hC 25 (go + (tn B A)) dX1_recall_25 rfl ?_
    refine k_min hC 26 dX1_recall_26 wq_6_4 wq_6_5 wq_6_6 wq_6_7 ⟨Nat.le_of_ble_eq_true rfl, Nat.le_of_ble_eq_true rfl, Nat.le_of_ble_eq_true rfl, Nat.le_of_ble_eq_true rfl⟩ (KJ.topi (y := (nI (min pl (go + tn B A)))) (nmin (by omega) (by omega)) ?_)
    refine k_putf hC 29 (ty0 := tyX1) 0 8 [((a 0), .inr (1, [.ref (a 1), .ref (a 3), .ref (a 5), .ref (a 7), .ref (a 9), .ref (a 11), .ref (a 13), .int (nI pl), .int (nI (min pl (go + tn B A))), .int hi, .int mi, .int re, .int lo])), ((a 1), .inr (0, [.ref (a 2), .int (nI N.length)])), ((a 2), .inl (D.1 5, 40, .inl g0)), ((a 3), .inr (0, [.ref (a 4), .int (nI T.length)])), ((a 4), .inl (D.1 5, 40, .inl g1)), ((a 5), .inr (0, [.ref (a 6), .int (nI A.length)])), ((a 6), .inl (D.1 5, 40, .inl g2)), ((a 7), .inr (0, [.ref (a 8), .int (nI B.length)])), ((a 8), .inl (D.1 5, 40, .inl g3)), ((a 9), .inr (2, [.ref (a 10)])), ((a 10), .inl (D.1 5, 40, .inl g4)), ((a 11), .inr (2, [.ref (a 12)])), ((a 12), .inl (D.1 5, 40, .inl g5)), ((a 13), .inr (2, [.ref (a 14)])), ((a 14), .inl (D.1 5, 40, .inl g6))] dX1_recall_29 rfl rfl inlX1 tyX1_ok nmX1 (by decide) wq_6_3 rfl rfl rfl (Nat.le_of_ble_eq_true rfl) rfl ?_
    refine k_aload_n hC 32 dX1_recall_32 rfl ?_
    refine k_getf hC 33 0 2 dX1_recall_33 rfl rfl inlX1 (by decide) wq_2_3 rfl ?_
    refine k_aload_n hC 36 dX1_recall_36 rfl ?_
    refine k_getf hC 37 0 2 dX1_recall_37 rfl rfl inlX1 (by decide) wq_2_3 rfl ?_
    refine k_iload_n hC 40 dX1_recall_40 rfl ?_
    refine k_callVr hC 41 5 [5, 6] (c_X0_placeOf l D (a 5) (a 6) A g2 k r2 (by omega) kA hk) cw_RX1_124 dX1_recall_41 ⟨Nat.le_of_ble_eq_true rfl, Nat.le_of_ble_eq_true rfl, Nat.le_of_ble_eq_true rfl, Nat.le_of_ble_eq_true rfl⟩ rfl (Nat.le_of_ble_eq_true rfl) rfl rfl rfl (by decide) rfl (fun _ => Nat.le_of_ble_eq_true rfl) (fun _ => rfl) _ rfl (fun v u hp => ?_)
    obtain rfl := hp
    refine KJ.eqs (st' := .int (ixv A k) :: .ref (a 5) :: []) rfl ?_
    refine KJ.topi (y := (nI (A.idxOf k))) (ixv_in hm) ?_
    refine k_callV hC 44 5 [5, 6] (fun x => [((a 0), .inr (1, [.ref (a 1), .ref (a 3), .ref (a 5), .ref (a 7), .ref (a 9), .ref (a 11), .ref (a 13), .int (nI pl), .int (nI (min pl (go + tn B A))), .int hi, .int mi, .int re, .int lo])), ((a 1), .inr (0, [.ref (a 2), .int (nI N.length)])), ((a 2), .inl (D.1 5, 40, .inl g0)), ((a 3), .inr (0, [.ref (a 4), .int (nI T.length)])), ((a 4), .inl (D.1 5, 40, .inl g1)), ((a 5), .inr (0, [.ref (a 6), .int (nI ((A.eraseIdx (A.idxOf k)).length))])), ((a 6), .inl (D.1 5, 40, .inl x)), ((a 7), .inr (0, [.ref (a 8), .int (nI B.length)])), ((a 8), .inl (D.1 5, 40, .inl g3)), ((a 9), .inr (2, [.ref (a 10)])), ((a 10), .inl (D.1 5, 40, .inl g4)), ((a 11), .inr (2, [.ref (a 12)])), ((a 12), .inl (D.1 5, 40, .inl g5)), ((a 13), .inr (2, [.ref (a 14)])), ((a 14), .inl (D.1 5, 40, .inl g6))]) (c_X0_takeOut l D (a 5) (a 6) A g2 (A.idxOf k) r2 (by omega) (List.idxOf_lt_length_of_mem hm)) cw_RX1_127 dX1_recall_44 ⟨Nat.le_of_ble_eq_true rfl, Nat.le_of_ble_eq_true rfl, Nat.le_of_ble_eq_true rfl, Nat.le_of_ble_eq_true rfl⟩ rfl (Nat.le_of_ble_eq_true rfl) rfl rfl rfl (by decide) rfl (fun _ => Nat.le_of_ble_eq_true rfl) (fun _ => rfl) _ rfl (fun v x hp => ?_)
    obtain ⟨rfl, hx⟩ := hp
    refine KJ.eqs (st' := []) rfl ?_
    refine k_aload_n hC 47 dX1_recall_47 rfl ?_
    refine k_dup hC 48 dX1_recall_48 rfl ?_
    refine k_getf hC 49 0 11 dX1_recall_49 rfl rfl inlX1 (by decide) wq_6_8 rfl ?_
    refine k_iconst hC 52 dX1_recall_52 (nI 1) (by decide) ?_
    refine k_iadd hC 53 dX1_recall_53 (KJ.topi (y := (re + 1)) rfl ?_)
    refine k_putf hC 54 (ty0 := tyX1) 0 11 [((a 0), .inr (1, [.ref (a 1), .ref (a 3), .ref (a 5), .ref (a 7), .ref (a 9), .ref (a 11), .ref (a 13), .int (nI pl), .int (nI (min pl (go + tn B A))), .int hi, .int mi, .int (re + 1), .int lo])), ((a 1), .inr (0, [.ref (a 2), .int (nI N.length)])), ((a 2), .inl (D.1 5, 40, .inl g0)), ((a 3), .inr (0, [.ref (a 4), .int (nI T.length)])), ((a 4), .inl (D.1 5, 40, .inl g1)), ((a 5), .inr (0, [.ref (a 6), .int (nI ((A.eraseIdx (A.idxOf k)).length))])), ((a 6), .inl (D.1 5, 40, .inl x)), ((a 7), .inr (0, [.ref (a 8), .int (nI B.length)])), ((a 8), .inl (D.1 5, 40, .inl g3)), ((a 9), .inr (2, [.ref (a 10)])), ((a 10), .inl (D.1 5, 40, .inl g4)), ((a 11), .inr (2, [.ref (a 12)])), ((a 12), .inl (D.1 5, 40, .inl g5)), ((a 13), .inr (2, [.ref (a 14)])), ((a 14), .inl (D.1 5, 40, .inl g6))] dX1_recall_54 rfl rfl inlX1 tyX1_ok nmX1 (by decide) wq_6_8 rfl rfl rfl (Nat.le_of_ble_eq_true rfl) rfl ?_
    refine k_goto hC 57 114 dX1_recall_57 (by decide) ?_
    exact k_vret hC hE 114 ((N, T, (A.eraseIdx (A.idxOf k)), B, to, pi, fe, pl, min pl (go + tn B A), hi, mi, re + 1, lo), (g0, g1, x, g3, g4, g5, g6)) dX1_recall_114 (⟨rfl, by rw [rcl, if_pos e2], r0, r1, hx, r3, r4, r5, r6⟩) rfl ⟨Nat.zero_le _, Nat.zero_le _⟩
set_option maxHeartbeats 4000000 in
set_option maxRecDepth 100000 in
/-- placeNewJar -/
theorem c_X1_placeNewJar0 (l : Launch) (D : va_G) (a : Nat → Nat) (N T A B : List Nat) (to pi : Nat → Nat) (fe : Nat → Int32) (pl go : Nat) (hi mi re lo : Int32) (g0 g1 g2 g3 g4 g5 g6 : Nat → Int32) (k o : Nat) (hS : SR (N, T, A, B, to, pi, fe, pl, go, hi, mi, re, lo) (g0, g1, g2, g3, g4, g5, g6)) (hW : WF (N, T, A, B, to, pi, fe, pl, go, hi, mi, re, lo)) (hk : k < 40) (ho : o = 1) : MU l yX1_placeNewJar cX1_placeNewJar 3 none 1 22 D [.ref (a 0), .int (nI k), .ref (a 1)] [((a 0), .inr (1, [.ref (a 1), .ref (a 3), .ref (a 5), .ref (a 7), .ref (a 9), .ref (a 11), .ref (a 13), .int (nI pl), .int (nI go), .int hi, .int mi, .int re, .int lo])), ((a 1), .inr (0, [.ref (a 2), .int (nI N.length)])), ((a 2), .inl (D.1 5, 40, .inl g0)), ((a 3), .inr (0, [.ref (a 4), .int (nI T.length)])), ((a 4), .inl (D.1 5, 40, .inl g1)), ((a 5), .inr (0, [.ref (a 6), .int (nI A.length)])), ((a 6), .inl (D.1 5, 40, .inl g2)), ((a 7), .inr (0, [.ref (a 8), .int (nI B.length)])), ((a 8), .inl (D.1 5, 40, .inl g3)), ((a 9), .inr (2, [.ref (a 10)])), ((a 10), .inl (D.1 5, 40, .inl g4)), ((a 11), .inr (2, [.ref (a 12)])), ((a 12), .inl (D.1 5, 40, .inl g5)), ((a 13), .inr (2, [.ref (a 14)])), ((a 14), .inl (D.1 5, 40, .inl g6))] (fun v (u : PS × PG) => v = none ∧ u.1 = plc (N, T, A, B, to, pi, fe, pl, go, hi, mi, re, lo) k o ∧ SR u.1 u.2) (fun u => wSt D a u.1 u.2) 0 0 := by
  refine MU.enter (by decide) [(0, .ref (a 0)), (1, .int (nI k)), (2, .ref (a 1))] rfl (Nat.le_of_ble_eq_true rfl) (fun G hC hE => ?_)
  have hC : CX G D cX1_placeNewJar RX1 3 := hC
  have hS0 := hS
  have hW0 := hW
  obtain ⟨r0, r1, r2, r3, r4, r5, r6⟩ := hS
  obtain ⟨kN, kT, kA, kB, nd, len, lA, lB, p2, p12, g12, t1, p9⟩ := hW
  refine k_aload_n hC 0 dX1_placeNewJar_0 rfl ?_
  refine k_iload_n hC 1 dX1_placeNewJar_1 rfl ?_
  refine k_callV hC 2 1 [1, 2] (fun x => [((a 0), .inr (1, [.ref (a 1), .ref (a 3), .ref (a 5), .ref (a 7), .ref (a 9), .ref (a 11), .ref (a 13), .int (nI pl), .int (nI go), .int hi, .int mi, .int re, .int lo])), ((a 1), .inr (0, [.ref (a 2), .int (nI ((N ++ [k]).length))])), ((a 2), .inl (D.1 5, 40, .inl x)), ((a 3), .inr (0, [.ref (a 4), .int (nI T.length)])), ((a 4), .inl (D.1 5, 40, .inl g1)), ((a 5), .inr (0, [.ref (a 6), .int (nI A.length)])), ((a 6), .inl (D.1 5, 40, .inl g2)), ((a 7), .inr (0, [.ref (a 8), .int (nI B.length)])), ((a 8), .inl (D.1 5, 40, .inl g3)), ((a 9), .inr (2, [.ref (a 10)])), ((a 10), .inl (D.1 5, 40, .inl g4)), ((a 11), .inr (2, [.ref (a 12)])), ((a 12), .inl (D.1 5, 40, .inl g5)), ((a 13), .inr (2, [.ref (a 14)])), ((a 14), .inl (D.1 5, 40, .inl g6))]) (c_X0_append l D (a 1) (a 2) N g0 k r0 (by omega) hk) cw_RX1_134 dX1_placeNewJar_2 ⟨Nat.le_of_ble_eq_true rfl, Nat.le_of_ble_eq_true rfl, Nat.le_of_ble_eq_true rfl, Nat.le_of_ble_eq_true rfl⟩ rfl (Nat.le_of_ble_eq_true rfl) rfl rfl rfl (by decide) rfl (fun _ => Nat.le_of_ble_eq_true rfl) (fun _ => rfl) _ rfl (fun v x hp => ?_)
  obtain ⟨rfl, hx⟩ := hp
  refine KJ.eqs (st' := []) rfl ?_
  refine k_aload_n hC 5 dX1_placeNewJar_5 rfl ?_
  refine k_getf hC 6 0 4 dX1_placeNewJar_6 rfl rfl inlX1 (by decide) wq_2_8 rfl ?_
  refine k_iload_n hC 9 dX1_placeNewJar_9 rfl ?_
  refine k_iconst hC 10 dX1_placeNewJar_10 (nI 0) (by decide) ?_
  refine k_callV hC 11 9 [9, 10] (fun _ => [((a 0), .inr (1, [.ref (a 1), .ref (a 3), .ref (a 5), .ref (a 7), .ref (a 9), .ref (a 11), .ref (a 13), .int (nI pl), .int (nI go), .int hi, .int mi, .int re, .int lo])), ((a 1), .inr (0, [.ref (a 2), .int (nI ((N ++ [k]).length))])), ((a 2), .inl (D.1 5, 40, .inl x)), ((a 3), .inr (0, [.ref (a 4), .int (nI T.length)])), ((a 4), .inl (D.1 5, 40, .inl g1)), ((a 5), .inr (0, [.ref (a 6), .int (nI A.length)])), ((a 6), .inl (D.1 5, 40, .inl g2)), ((a 7), .inr (0, [.ref (a 8), .int (nI B.length)])), ((a 8), .inl (D.1 5, 40, .inl g3)), ((a 9), .inr (2, [.ref (a 10)])), ((a 10), .inl (D.1 5, 40, .inl (upd g4 k (nI 0)))), ((a 11), .inr (2, [.ref (a 12)])), ((a 12), .inl (D.1 5, 40, .inl g5)), ((a 13), .inr (2, [.ref (a 14)])), ((a 14), .inl (D.1 5, 40, .inl g6))]) (c_X2_put l D (a 9) (a 10) g4 k (nI 0) hk) cw_RX1_97 dX1_placeNewJar_11 ⟨Nat.le_of_ble_eq_true rfl, Nat.le_of_ble_eq_true rfl, Nat.le_of_ble_eq_true rfl, Nat.le_of_ble_eq_true rfl⟩ rfl (Nat.le_of_ble_eq_true rfl) rfl rfl rfl (by decide) rfl (fun _ => Nat.le_of_ble_eq_true rfl) (fun _ => rfl) _ rfl (fun v _ hp => ?_)
  obtain rfl := hp
  refine KJ.eqs (st' := []) rfl ?_
  refine k_aload_n hC 14 dX1_placeNewJar_14 rfl ?_
  refine k_getf hC 15 0 5 dX1_placeNewJar_15 rfl rfl inlX1 (by decide) wq_2_9 rfl ?_
  refine k_iload_n hC 18 dX1_placeNewJar_18 rfl ?_
  refine k_iconst hC 19 dX1_placeNewJar_19 (nI 0) (by decide) ?_
  refine k_callV hC 20 11 [11, 12] (fun _ => [((a 0), .inr (1, [.ref (a 1), .ref (a 3), .ref (a 5), .ref (a 7), .ref (a 9), .ref (a 11), .ref (a 13), .int (nI pl), .int (nI go), .int hi, .int mi, .int re, .int lo])), ((a 1), .inr (0, [.ref (a 2), .int (nI ((N ++ [k]).length))])), ((a 2), .inl (D.1 5, 40, .inl x)), ((a 3), .inr (0, [.ref (a 4), .int (nI T.length)])), ((a 4), .inl (D.1 5, 40, .inl g1)), ((a 5), .inr (0, [.ref (a 6), .int (nI A.length)])), ((a 6), .inl (D.1 5, 40, .inl g2)), ((a 7), .inr (0, [.ref (a 8), .int (nI B.length)])), ((a 8), .inl (D.1 5, 40, .inl g3)), ((a 9), .inr (2, [.ref (a 10)])), ((a 10), .inl (D.1 5, 40, .inl (upd g4 k (nI 0)))), ((a 11), .inr (2, [.ref (a 12)])), ((a 12), .inl (D.1 5, 40, .inl (upd g5 k (nI 0)))), ((a 13), .inr (2, [.ref (a 14)])), ((a 14), .inl (D.1 5, 40, .inl g6))]) (c_X2_put l D (a 11) (a 12) g5 k (nI 0) hk) cw_RX1_97 dX1_placeNewJar_20 ⟨Nat.le_of_ble_eq_true rfl, Nat.le_of_ble_eq_true rfl, Nat.le_of_ble_eq_true rfl, Nat.le_of_ble_eq_true rfl⟩ rfl (Nat.le_of_ble_eq_true rfl) rfl rfl rfl (by decide) rfl (fun _ => Nat.le_of_ble_eq_true rfl) (fun _ => rfl) _ rfl (fun v _ hp => ?_)
  obtain rfl := hp
  refine KJ.eqs (st' := []) rfl ?_
  refine k_aload_n hC 23 dX1_placeNewJar_23 rfl ?_
  refine k_getf hC 24 0 6 dX1_placeNewJar_24 rfl rfl inlX1 (by decide) wq_2_10 rfl ?_
  refine k_iload_n hC 27 dX1_placeNewJar_27 rfl ?_
  refine k_iconst hC 28 dX1_placeNewJar_28 (nI 1) (by decide) ?_
  refine k_callV hC 29 13 [13, 14] (fun _ => [((a 0), .inr (1, [.ref (a 1), .ref (a 3), .ref (a 5), .ref (a 7), .ref (a 9), .ref (a 11), .ref (a 13), .int (nI pl), .int (nI go), .int hi, .int mi, .int re, .int lo])), ((a 1), .inr (0, [.ref (a 2), .int (nI ((N ++ [k]).length))])), ((a 2), .inl (D.1 5, 40, .inl x)), ((a 3), .inr (0, [.ref (a 4), .int (nI T.length)])), ((a 4), .inl (D.1 5, 40, .inl g1)), ((a 5), .inr (0, [.ref (a 6), .int (nI A.length)])), ((a 6), .inl (D.1 5, 40, .inl g2)), ((a 7), .inr (0, [.ref (a 8), .int (nI B.length)])), ((a 8), .inl (D.1 5, 40, .inl g3)), ((a 9), .inr (2, [.ref (a 10)])), ((a 10), .inl (D.1 5, 40, .inl (upd g4 k (nI 0)))), ((a 11), .inr (2, [.ref (a 12)])), ((a 12), .inl (D.1 5, 40, .inl (upd g5 k (nI 0)))), ((a 13), .inr (2, [.ref (a 14)])), ((a 14), .inl (D.1 5, 40, .inl (upd g6 k (nI 1))))]) (c_X2_put l D (a 13) (a 14) g6 k (nI 1) hk) cw_RX1_97 dX1_placeNewJar_29 ⟨Nat.le_of_ble_eq_true rfl, Nat.le_of_ble_eq_true rfl, Nat.le_of_ble_eq_true rfl, Nat.le_of_ble_eq_true rfl⟩ rfl (Nat.le_of_ble_eq_true rfl) rfl rfl rfl (by decide) rfl (fun _ => Nat.le_of_ble_eq_true rfl) (fun _ => rfl) _ rfl (fun v _ hp => ?_)
  obtain rfl := hp
  refine KJ.eqs (st' := []) rfl ?_
  exact k_vret hC hE 32 (((N ++ [k]), T, A, B, va_up to k 0, va_up pi k 0, va_up fe k 1, pl, go, hi, mi, re, lo), (x, g1, g2, g3, upd g4 k (nI 0), upd g5 k (nI 0), upd g6 k (nI 1))) dX1_placeNewJar_32 (⟨rfl, by rw [plc, if_pos ho], hx, r1, r2, r3, tup r4 k 0, tup r5 k 0, tupI r6 k 1⟩) rfl ⟨Nat.zero_le _, Nat.zero_le _⟩
set_option maxHeartbeats 4000000 in
set_option maxRecDepth 100000 in
/-- placeNewJar -/
theorem c_X1_placeNewJar1 (l : Launch) (D : va_G) (a : Nat → Nat) (N T A B : List Nat) (to pi : Nat → Nat) (fe : Nat → Int32) (pl go : Nat) (hi mi re lo : Int32) (g0 g1 g2 g3 g4 g5 g6 : Nat → Int32) (k o : Nat) (hS : SR (N, T, A, B, to, pi, fe, pl, go, hi, mi, re, lo) (g0, g1, g2, g3, g4, g5, g6)) (hW : WF (N, T, A, B, to, pi, fe, pl, go, hi, mi, re, lo)) (hk : k < 40) (ho : ¬ o = 1) : MU l yX1_placeNewJar cX1_placeNewJar 3 none 1 22 D [.ref (a 0), .int (nI k), .ref (a 3)] [((a 0), .inr (1, [.ref (a 1), .ref (a 3), .ref (a 5), .ref (a 7), .ref (a 9), .ref (a 11), .ref (a 13), .int (nI pl), .int (nI go), .int hi, .int mi, .int re, .int lo])), ((a 1), .inr (0, [.ref (a 2), .int (nI N.length)])), ((a 2), .inl (D.1 5, 40, .inl g0)), ((a 3), .inr (0, [.ref (a 4), .int (nI T.length)])), ((a 4), .inl (D.1 5, 40, .inl g1)), ((a 5), .inr (0, [.ref (a 6), .int (nI A.length)])), ((a 6), .inl (D.1 5, 40, .inl g2)), ((a 7), .inr (0, [.ref (a 8), .int (nI B.length)])), ((a 8), .inl (D.1 5, 40, .inl g3)), ((a 9), .inr (2, [.ref (a 10)])), ((a 10), .inl (D.1 5, 40, .inl g4)), ((a 11), .inr (2, [.ref (a 12)])), ((a 12), .inl (D.1 5, 40, .inl g5)), ((a 13), .inr (2, [.ref (a 14)])), ((a 14), .inl (D.1 5, 40, .inl g6))] (fun v (u : PS × PG) => v = none ∧ u.1 = plc (N, T, A, B, to, pi, fe, pl, go, hi, mi, re, lo) k o ∧ SR u.1 u.2) (fun u => wSt D a u.1 u.2) 0 0 := by
  refine MU.enter (by decide) [(0, .ref (a 0)), (1, .int (nI k)), (2, .ref (a 3))] rfl (Nat.le_of_ble_eq_true rfl) (fun G hC hE => ?_)
  have hC : CX G D cX1_placeNewJar RX1 3 := hC
  have hS0 := hS
  have hW0 := hW
  obtain ⟨r0, r1, r2, r3, r4, r5, r6⟩ := hS
  obtain ⟨kN, kT, kA, kB, nd, len, lA, lB, p2, p12, g12, t1, p9⟩ := hW
  refine k_aload_n hC 0 dX1_placeNewJar_0 rfl ?_
  refine k_iload_n hC 1 dX1_placeNewJar_1 rfl ?_
  refine k_callV hC 2 3 [3, 4] (fun x => [((a 0), .inr (1, [.ref (a 1), .ref (a 3), .ref (a 5), .ref (a 7), .ref (a 9), .ref (a 11), .ref (a 13), .int (nI pl), .int (nI go), .int hi, .int mi, .int re, .int lo])), ((a 1), .inr (0, [.ref (a 2), .int (nI N.length)])), ((a 2), .inl (D.1 5, 40, .inl g0)), ((a 3), .inr (0, [.ref (a 4), .int (nI ((T ++ [k]).length))])), ((a 4), .inl (D.1 5, 40, .inl x)), ((a 5), .inr (0, [.ref (a 6), .int (nI A.length)])), ((a 6), .inl (D.1 5, 40, .inl g2)), ((a 7), .inr (0, [.ref (a 8), .int (nI B.length)])), ((a 8), .inl (D.1 5, 40, .inl g3)), ((a 9), .inr (2, [.ref (a 10)])), ((a 10), .inl (D.1 5, 40, .inl g4)), ((a 11), .inr (2, [.ref (a 12)])), ((a 12), .inl (D.1 5, 40, .inl g5)), ((a 13), .inr (2, [.ref (a 14)])), ((a 14), .inl (D.1 5, 40, .inl g6))]) (c_X0_append l D (a 3) (a 4) T g1 k r1 (by omega) hk) cw_RX1_134 dX1_placeNewJar_2 ⟨Nat.le_of_ble_eq_true rfl, Nat.le_of_ble_eq_true rfl, Nat.le_of_ble_eq_true rfl, Nat.le_of_ble_eq_true rfl⟩ rfl (Nat.le_of_ble_eq_true rfl) rfl rfl rfl (by decide) rfl (fun _ => Nat.le_of_ble_eq_true rfl) (fun _ => rfl) _ rfl (fun v x hp => ?_)
  obtain ⟨rfl, hx⟩ := hp
  refine KJ.eqs (st' := []) rfl ?_
  refine k_aload_n hC 5 dX1_placeNewJar_5 rfl ?_
  refine k_getf hC 6 0 4 dX1_placeNewJar_6 rfl rfl inlX1 (by decide) wq_2_8 rfl ?_
  refine k_iload_n hC 9 dX1_placeNewJar_9 rfl ?_
  refine k_iconst hC 10 dX1_placeNewJar_10 (nI 0) (by decide) ?_
  refine k_callV hC 11 9 [9, 10] (fun _ => [((a 0), .inr (1, [.ref (a 1), .ref (a 3), .ref (a 5), .ref (a 7), .ref (a 9), .ref (a 11), .ref (a 13), .int (nI pl), .int (nI go), .int hi, .int mi, .int re, .int lo])), ((a 1), .inr (0, [.ref (a 2), .int (nI N.length)])), ((a 2), .inl (D.1 5, 40, .inl g0)), ((a 3), .inr (0, [.ref (a 4), .int (nI ((T ++ [k]).length))])), ((a 4), .inl (D.1 5, 40, .inl x)), ((a 5), .inr (0, [.ref (a 6), .int (nI A.length)])), ((a 6), .inl (D.1 5, 40, .inl g2)), ((a 7), .inr (0, [.ref (a 8), .int (nI B.length)])), ((a 8), .inl (D.1 5, 40, .inl g3)), ((a 9), .inr (2, [.ref (a 10)])), ((a 10), .inl (D.1 5, 40, .inl (upd g4 k (nI 0)))), ((a 11), .inr (2, [.ref (a 12)])), ((a 12), .inl (D.1 5, 40, .inl g5)), ((a 13), .inr (2, [.ref (a 14)])), ((a 14), .inl (D.1 5, 40, .inl g6))]) (c_X2_put l D (a 9) (a 10) g4 k (nI 0) hk) cw_RX1_97 dX1_placeNewJar_11 ⟨Nat.le_of_ble_eq_true rfl, Nat.le_of_ble_eq_true rfl, Nat.le_of_ble_eq_true rfl, Nat.le_of_ble_eq_true rfl⟩ rfl (Nat.le_of_ble_eq_true rfl) rfl rfl rfl (by decide) rfl (fun _ => Nat.le_of_ble_eq_true rfl) (fun _ => rfl) _ rfl (fun v _ hp => ?_)
  obtain rfl := hp
  refine KJ.eqs (st' := []) rfl ?_
  refine k_aload_n hC 14 dX1_placeNewJar_14 rfl ?_
  refine k_getf hC 15 0 5 dX1_placeNewJar_15 rfl rfl inlX1 (by decide) wq_2_9 rfl ?_
  refine k_iload_n hC 18 dX1_placeNewJar_18 rfl ?_
  refine k_iconst hC 19 dX1_placeNewJar_19 (nI 0) (by decide) ?_
  refine k_callV hC 20 11 [11, 12] (fun _ => [((a 0), .inr (1, [.ref (a 1), .ref (a 3), .ref (a 5), .ref (a 7), .ref (a 9), .ref (a 11), .ref (a 13), .int (nI pl), .int (nI go), .int hi, .int mi, .int re, .int lo])), ((a 1), .inr (0, [.ref (a 2), .int (nI N.length)])), ((a 2), .inl (D.1 5, 40, .inl g0)), ((a 3), .inr (0, [.ref (a 4), .int (nI ((T ++ [k]).length))])), ((a 4), .inl (D.1 5, 40, .inl x)), ((a 5), .inr (0, [.ref (a 6), .int (nI A.length)])), ((a 6), .inl (D.1 5, 40, .inl g2)), ((a 7), .inr (0, [.ref (a 8), .int (nI B.length)])), ((a 8), .inl (D.1 5, 40, .inl g3)), ((a 9), .inr (2, [.ref (a 10)])), ((a 10), .inl (D.1 5, 40, .inl (upd g4 k (nI 0)))), ((a 11), .inr (2, [.ref (a 12)])), ((a 12), .inl (D.1 5, 40, .inl (upd g5 k (nI 0)))), ((a 13), .inr (2, [.ref (a 14)])), ((a 14), .inl (D.1 5, 40, .inl g6))]) (c_X2_put l D (a 11) (a 12) g5 k (nI 0) hk) cw_RX1_97 dX1_placeNewJar_20 ⟨Nat.le_of_ble_eq_true rfl, Nat.le_of_ble_eq_true rfl, Nat.le_of_ble_eq_true rfl, Nat.le_of_ble_eq_true rfl⟩ rfl (Nat.le_of_ble_eq_true rfl) rfl rfl rfl (by decide) rfl (fun _ => Nat.le_of_ble_eq_true rfl) (fun _ => rfl) _ rfl (fun v _ hp => ?_)
  obtain rfl := hp
  refine KJ.eqs (st' := []) rfl ?_
  refine k_aload_n hC 23 dX1_placeNewJar_23 rfl ?_
  refine k_getf hC 24 0 6 dX1_placeNewJar_24 rfl rfl inlX1 (by decide) wq_2_10 rfl ?_
  refine k_iload_n hC 27 dX1_placeNewJar_27 rfl ?_
  refine k_iconst hC 28 dX1_placeNewJar_28 (nI 1) (by decide) ?_
  refine k_callV hC 29 13 [13, 14] (fun _ => [((a 0), .inr (1, [.ref (a 1), .ref (a 3), .ref (a 5), .ref (a 7), .ref (a 9), .ref (a 11), .ref (a 13), .int (nI pl), .int (nI go), .int hi, .int mi, .int re, .int lo])), ((a 1), .inr (0, [.ref (a 2), .int (nI N.length)])), ((a 2), .inl (D.1 5, 40, .inl g0)), ((a 3), .inr (0, [.ref (a 4), .int (nI ((T ++ [k]).length))])), ((a 4), .inl (D.1 5, 40, .inl x)), ((a 5), .inr (0, [.ref (a 6), .int (nI A.length)])), ((a 6), .inl (D.1 5, 40, .inl g2)), ((a 7), .inr (0, [.ref (a 8), .int (nI B.length)])), ((a 8), .inl (D.1 5, 40, .inl g3)), ((a 9), .inr (2, [.ref (a 10)])), ((a 10), .inl (D.1 5, 40, .inl (upd g4 k (nI 0)))), ((a 11), .inr (2, [.ref (a 12)])), ((a 12), .inl (D.1 5, 40, .inl (upd g5 k (nI 0)))), ((a 13), .inr (2, [.ref (a 14)])), ((a 14), .inl (D.1 5, 40, .inl (upd g6 k (nI 1))))]) (c_X2_put l D (a 13) (a 14) g6 k (nI 1) hk) cw_RX1_97 dX1_placeNewJar_29 ⟨Nat.le_of_ble_eq_true rfl, Nat.le_of_ble_eq_true rfl, Nat.le_of_ble_eq_true rfl, Nat.le_of_ble_eq_true rfl⟩ rfl (Nat.le_of_ble_eq_true rfl) rfl rfl rfl (by decide) rfl (fun _ => Nat.le_of_ble_eq_true rfl) (fun _ => rfl) _ rfl (fun v _ hp => ?_)
  obtain rfl := hp
  refine KJ.eqs (st' := []) rfl ?_
  exact k_vret hC hE 32 ((N, (T ++ [k]), A, B, va_up to k 0, va_up pi k 0, va_up fe k 1, pl, go, hi, mi, re, lo), (g0, x, g2, g3, upd g4 k (nI 0), upd g5 k (nI 0), upd g6 k (nI 1))) dX1_placeNewJar_32 (⟨rfl, by rw [plc, if_neg ho], r0, hx, r2, r3, tup r4 k 0, tup r5 k 0, tupI r6 k 1⟩) rfl ⟨Nat.zero_le _, Nat.zero_le _⟩
