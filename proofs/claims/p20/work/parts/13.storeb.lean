/-! PinnedPantry$Store: what changes it -/
theorem c_X0_takeOut_ix (l : Launch) (D : va_G) (r q : Nat) (L : List Nat) (f : Nat → Int32) (k : Nat) (hR : RowL L f) (hL : L.length ≤ 40) : MU l yX0_takeOut cX0_takeOut 3 none 0 0 D [.ref r, .int (ixv L k)] [(r, .inr (0, [.ref q, .int (nI L.length)])), (q, .inl (D.1 20, 40, .inl f))] (fun v (u : Nat → Int32) => v = none ∧ RowL (ea L k) u) (fun u => [(r, .inr (0, [.ref q, .int (nI (ea L k).length)])), (q, .inl (D.1 20, 40, .inl u))]) 0 0 := by
  by_cases h : k ∈ L
  · rw [ixv_in h, ea, if_pos h]
    exact c_X0_takeOut l D r q L f (L.idxOf k) hR hL (List.idxOf_lt_length_of_mem h)
  · rw [ixv_out h, ea, if_neg h]
    exact c_X0_takeOut_no l D r q L f hR hL
set_option maxHeartbeats 4000000 in
set_option maxRecDepth 100000 in
/-- recall -/
theorem c_X1_recall (l : Launch) (D : va_G) (a : Nat → Nat) (N T A B : List Nat) (to pi : Nat → Nat) (fe : Nat → Int32) (pl go : Nat) (hi mi re lo : Int32) (g0 g1 g2 g3 g4 g5 g6 : Nat → Int32) (k o : Nat) (hS : SR (N, T, A, B, to, pi, fe, pl, go, hi, mi, re, lo) (g0, g1, g2, g3, g4, g5, g6)) (hW : WF (N, T, A, B, to, pi, fe, pl, go, hi, mi, re, lo)) (hk : k < 40) (ho : o < 4) (h2 : o = 2 → k ∈ A) (h3 : o = 3 → k ∈ B) : MU l yX1_recall cX1_recall 3 none 2 35 D [.ref (a 0), .int (nI k), .int (nI o)] [((a 0), .inr (1, [.ref (a 1), .ref (a 3), .ref (a 5), .ref (a 7), .ref (a 9), .ref (a 11), .ref (a 13), .int (nI pl), .int (nI go), .int hi, .int mi, .int re, .int lo])), ((a 1), .inr (0, [.ref (a 2), .int (nI N.length)])), ((a 2), .inl (D.1 20, 40, .inl g0)), ((a 3), .inr (0, [.ref (a 4), .int (nI T.length)])), ((a 4), .inl (D.1 20, 40, .inl g1)), ((a 5), .inr (0, [.ref (a 6), .int (nI A.length)])), ((a 6), .inl (D.1 20, 40, .inl g2)), ((a 7), .inr (0, [.ref (a 8), .int (nI B.length)])), ((a 8), .inl (D.1 20, 40, .inl g3)), ((a 9), .inr (2, [.ref (a 10)])), ((a 10), .inl (D.1 20, 40, .inl g4)), ((a 11), .inr (2, [.ref (a 12)])), ((a 12), .inl (D.1 20, 40, .inl g5)), ((a 13), .inr (2, [.ref (a 14)])), ((a 14), .inl (D.1 20, 40, .inl g6))] (fun v (u : PS × PG) => v = none ∧ u.1 = rcl (N, T, A, B, to, pi, fe, pl, go, hi, mi, re, lo) k o ∧ SR u.1 u.2) (fun u => wSt D a u.1 u.2) 0 0 := by
  refine MU.enter (by decide) [(0, .ref (a 0)), (1, .int (nI k)), (2, .int (nI o))] rfl (Nat.le_of_ble_eq_true rfl) (fun G hC hE => ?_)
  have hC : CX G D cX1_recall RX1 3 := hC
  have hS0 := hS
  have hW0 := hW
  obtain ⟨r0, r1, r2, r3, r4, r5, r6⟩ := hS
  obtain ⟨kN, kT, kA, kB, nd, len, lA, lB, p2, p12, g12, t1, p9⟩ := hW
  have tb1 := tn_le (x := B) (y := A) lB
  have tb2 := tn_le (x := A) (y := B) lA
  refine k_iload_n hC 0 dX1_recall_0 rfl ?_
  refine k_iconst hC 1 dX1_recall_1 (nI 2) (by decide) ?_
  refine n_icmp_ne hC 2 60 dX1_recall_2 (by decide) (by omega) (by omega) (fun e2 => ?_) (fun e2 => ?_)
  · skip
    refine k_iload_n hC 60 dX1_recall_60 rfl ?_
    refine k_iconst hC 61 dX1_recall_61 (nI 3) (by decide) ?_
    refine n_icmp_ne hC 62 114 dX1_recall_62 (by decide) (by omega) (by omega) (fun e3 => ?_) (fun e3 => ?_)
    · skip
      exact k_vret hC hE 114 ((N, T, A, B, to, pi, fe, pl, go, hi, mi, re, lo), (g0, g1, g2, g3, g4, g5, g6)) dX1_recall_114 (⟨rfl, by rw [rcl, if_neg e2, if_neg e3], r0, r1, r2, r3, r4, r5, r6⟩) rfl ⟨Nat.zero_le _, Nat.zero_le _⟩
    · skip
      refine k_aload_n hC 65 dX1_recall_65 rfl ?_
      refine k_iconst hC 66 dX1_recall_66 (nI 0) (by decide) ?_
      refine k_aload_n hC 67 dX1_recall_67 rfl ?_
      refine k_getf hC 68 0 8 dX1_recall_68 rfl rfl inlX1 (by decide) wq_9_3 rfl ?_
      refine k_aload_n hC 71 dX1_recall_71 rfl ?_
      refine k_getf hC 72 0 2 dX1_recall_72 rfl rfl inlX1 (by decide) wq_2_0 rfl ?_
      refine k_aload_n hC 75 dX1_recall_75 rfl ?_
      refine k_getf hC 76 0 3 dX1_recall_76 rfl rfl inlX1 (by decide) wq_2_1 rfl ?_
      have hm := h3 e3
      refine k_callSr hC 79 [5, 7] (c_X1_turn l D (a 5) (a 6) (a 7) (a 8) A.length B.length (by omega) (by omega)) cw_RX1_114 dX1_recall_79 ⟨Nat.le_of_ble_eq_true rfl, Nat.le_of_ble_eq_true rfl, Nat.le_of_ble_eq_true rfl, Nat.le_of_ble_eq_true rfl⟩ rfl (Nat.le_of_ble_eq_true rfl) (by decide) rfl (fun _ => Nat.le_of_ble_eq_true rfl) (fun _ => rfl) _ rfl (fun v u hp => ?_)
      obtain rfl := hp
      refine KJ.eqs (st' := .int (nI (max 1 (A.length / B.length))) :: .int (nI go) :: .int (nI 0) :: .ref (a 0) :: []) rfl ?_
      refine KJ.topi (y := (nI (tn A B))) rfl ?_
      refine k_isub hC 82 dX1_recall_82 (KJ.topi (y := (nI go - nI (tn A B))) rfl ?_)
      refine k_max hC 83 dX1_recall_83 wq_9_23 wq_10_0 wq_9_6 wq_10_1 ⟨Nat.le_of_ble_eq_true rfl, Nat.le_of_ble_eq_true rfl, Nat.le_of_ble_eq_true rfl, Nat.le_of_ble_eq_true rfl⟩ (KJ.topi (y := (nI (go - tn A B))) (nsubmax (by omega) (by omega)) ?_)
      refine k_putf hC 86 (ty0 := tyX1) 0 8 [((a 0), .inr (1, [.ref (a 1), .ref (a 3), .ref (a 5), .ref (a 7), .ref (a 9), .ref (a 11), .ref (a 13), .int (nI pl), .int (nI (go - tn A B)), .int hi, .int mi, .int re, .int lo])), ((a 1), .inr (0, [.ref (a 2), .int (nI N.length)])), ((a 2), .inl (D.1 20, 40, .inl g0)), ((a 3), .inr (0, [.ref (a 4), .int (nI T.length)])), ((a 4), .inl (D.1 20, 40, .inl g1)), ((a 5), .inr (0, [.ref (a 6), .int (nI A.length)])), ((a 6), .inl (D.1 20, 40, .inl g2)), ((a 7), .inr (0, [.ref (a 8), .int (nI B.length)])), ((a 8), .inl (D.1 20, 40, .inl g3)), ((a 9), .inr (2, [.ref (a 10)])), ((a 10), .inl (D.1 20, 40, .inl g4)), ((a 11), .inr (2, [.ref (a 12)])), ((a 12), .inl (D.1 20, 40, .inl g5)), ((a 13), .inr (2, [.ref (a 14)])), ((a 14), .inl (D.1 20, 40, .inl g6))] dX1_recall_86 rfl rfl inlX1 tyX1_ok nmX1 (by decide) wq_9_3 rfl rfl rfl (Nat.le_of_ble_eq_true rfl) rfl ?_
      refine k_aload_n hC 89 dX1_recall_89 rfl ?_
      refine k_getf hC 90 0 3 dX1_recall_90 rfl rfl inlX1 (by decide) wq_2_1 rfl ?_
      refine k_aload_n hC 93 dX1_recall_93 rfl ?_
      refine k_getf hC 94 0 3 dX1_recall_94 rfl rfl inlX1 (by decide) wq_2_1 rfl ?_
      refine k_iload_n hC 97 dX1_recall_97 rfl ?_
      refine k_callVr hC 98 7 [7, 8] (c_X0_placeOf l D (a 7) (a 8) B g3 k r3 (by omega) kB hk) cw_RX1_124 dX1_recall_98 ⟨Nat.le_of_ble_eq_true rfl, Nat.le_of_ble_eq_true rfl, Nat.le_of_ble_eq_true rfl, Nat.le_of_ble_eq_true rfl⟩ rfl (Nat.le_of_ble_eq_true rfl) rfl rfl rfl (by decide) rfl (fun _ => Nat.le_of_ble_eq_true rfl) (fun _ => rfl) _ rfl (fun v u hp => ?_)
      obtain rfl := hp
      refine KJ.eqs (st' := .int (ixv B k) :: .ref (a 7) :: []) rfl ?_
      refine KJ.topi (y := (nI (B.idxOf k))) (ixv_in hm) ?_
      refine k_callV hC 101 7 [7, 8] (fun x => [((a 0), .inr (1, [.ref (a 1), .ref (a 3), .ref (a 5), .ref (a 7), .ref (a 9), .ref (a 11), .ref (a 13), .int (nI pl), .int (nI (go - tn A B)), .int hi, .int mi, .int re, .int lo])), ((a 1), .inr (0, [.ref (a 2), .int (nI N.length)])), ((a 2), .inl (D.1 20, 40, .inl g0)), ((a 3), .inr (0, [.ref (a 4), .int (nI T.length)])), ((a 4), .inl (D.1 20, 40, .inl g1)), ((a 5), .inr (0, [.ref (a 6), .int (nI A.length)])), ((a 6), .inl (D.1 20, 40, .inl g2)), ((a 7), .inr (0, [.ref (a 8), .int (nI ((B.eraseIdx (B.idxOf k)).length))])), ((a 8), .inl (D.1 20, 40, .inl x)), ((a 9), .inr (2, [.ref (a 10)])), ((a 10), .inl (D.1 20, 40, .inl g4)), ((a 11), .inr (2, [.ref (a 12)])), ((a 12), .inl (D.1 20, 40, .inl g5)), ((a 13), .inr (2, [.ref (a 14)])), ((a 14), .inl (D.1 20, 40, .inl g6))]) (c_X0_takeOut l D (a 7) (a 8) B g3 (B.idxOf k) r3 (by omega) (List.idxOf_lt_length_of_mem hm)) cw_RX1_127 dX1_recall_101 ⟨Nat.le_of_ble_eq_true rfl, Nat.le_of_ble_eq_true rfl, Nat.le_of_ble_eq_true rfl, Nat.le_of_ble_eq_true rfl⟩ rfl (Nat.le_of_ble_eq_true rfl) rfl rfl rfl (by decide) rfl (fun _ => Nat.le_of_ble_eq_true rfl) (fun _ => rfl) _ rfl (fun v x hp => ?_)
      obtain ⟨rfl, hx⟩ := hp
      refine KJ.eqs (st' := []) rfl ?_
      refine k_aload_n hC 104 dX1_recall_104 rfl ?_
      refine k_dup hC 105 dX1_recall_105 rfl ?_
      refine k_getf hC 106 0 11 dX1_recall_106 rfl rfl inlX1 (by decide) wq_12_1 rfl ?_
      refine k_iconst hC 109 dX1_recall_109 (nI 1) (by decide) ?_
      refine k_iadd hC 110 dX1_recall_110 (KJ.topi (y := (re + 1)) rfl ?_)
      refine k_putf hC 111 (ty0 := tyX1) 0 11 [((a 0), .inr (1, [.ref (a 1), .ref (a 3), .ref (a 5), .ref (a 7), .ref (a 9), .ref (a 11), .ref (a 13), .int (nI pl), .int (nI (go - tn A B)), .int hi, .int mi, .int (re + 1), .int lo])), ((a 1), .inr (0, [.ref (a 2), .int (nI N.length)])), ((a 2), .inl (D.1 20, 40, .inl g0)), ((a 3), .inr (0, [.ref (a 4), .int (nI T.length)])), ((a 4), .inl (D.1 20, 40, .inl g1)), ((a 5), .inr (0, [.ref (a 6), .int (nI A.length)])), ((a 6), .inl (D.1 20, 40, .inl g2)), ((a 7), .inr (0, [.ref (a 8), .int (nI ((B.eraseIdx (B.idxOf k)).length))])), ((a 8), .inl (D.1 20, 40, .inl x)), ((a 9), .inr (2, [.ref (a 10)])), ((a 10), .inl (D.1 20, 40, .inl g4)), ((a 11), .inr (2, [.ref (a 12)])), ((a 12), .inl (D.1 20, 40, .inl g5)), ((a 13), .inr (2, [.ref (a 14)])), ((a 14), .inl (D.1 20, 40, .inl g6))] dX1_recall_111 rfl rfl inlX1 tyX1_ok nmX1 (by decide) wq_12_1 rfl rfl rfl (Nat.le_of_ble_eq_true rfl) rfl ?_
      exact k_vret hC hE 114 ((N, T, A, (B.eraseIdx (B.idxOf k)), to, pi, fe, pl, go - tn A B, hi, mi, re + 1, lo), (g0, g1, g2, x, g4, g5, g6)) dX1_recall_114 (⟨rfl, by rw [rcl, if_neg e2, if_pos e3], r0, r1, r2, hx, r4, r5, r6⟩) rfl ⟨Nat.zero_le _, Nat.zero_le _⟩
  · skip
    refine k_aload_n hC 5 dX1_recall_5 rfl ?_
    refine k_aload_n hC 6 dX1_recall_6 rfl ?_
    refine k_getf hC 7 0 7 dX1_recall_7 rfl rfl inlX1 (by decide) wq_2_8 rfl ?_
    refine k_aload_n hC 10 dX1_recall_10 rfl ?_
    refine k_getf hC 11 0 8 dX1_recall_11 rfl rfl inlX1 (by decide) wq_9_3 rfl ?_
    refine k_aload_n hC 14 dX1_recall_14 rfl ?_
    refine k_getf hC 15 0 3 dX1_recall_15 rfl rfl inlX1 (by decide) wq_2_1 rfl ?_
    refine k_aload_n hC 18 dX1_recall_18 rfl ?_
    refine k_getf hC 19 0 2 dX1_recall_19 rfl rfl inlX1 (by decide) wq_2_0 rfl ?_
    have hm := h2 e2
    refine k_callSr hC 22 [7, 5] (c_X1_turn l D (a 7) (a 8) (a 5) (a 6) B.length A.length (by omega) (by omega)) cw_RX1_114 dX1_recall_22 ⟨Nat.le_of_ble_eq_true rfl, Nat.le_of_ble_eq_true rfl, Nat.le_of_ble_eq_true rfl, Nat.le_of_ble_eq_true rfl⟩ rfl (Nat.le_of_ble_eq_true rfl) (by decide) rfl (fun _ => Nat.le_of_ble_eq_true rfl) (fun _ => rfl) _ rfl (fun v u hp => ?_)
    obtain rfl := hp
    refine KJ.eqs (st' := .int (nI (max 1 (B.length / A.length))) :: .int (nI go) :: .int (nI pl) :: .ref (a 0) :: []) rfl ?_
    refine KJ.topi (y := (nI (tn B A))) rfl ?_
    refine n_iadd hC 25 (go + (tn B A)) dX1_recall_25 rfl ?_
    refine k_min hC 26 dX1_recall_26 wq_9_4 wq_9_5 wq_9_6 wq_9_7 ⟨Nat.le_of_ble_eq_true rfl, Nat.le_of_ble_eq_true rfl, Nat.le_of_ble_eq_true rfl, Nat.le_of_ble_eq_true rfl⟩ (KJ.topi (y := (nI (min pl (go + tn B A)))) (nmin (by omega) (by omega)) ?_)
    refine k_putf hC 29 (ty0 := tyX1) 0 8 [((a 0), .inr (1, [.ref (a 1), .ref (a 3), .ref (a 5), .ref (a 7), .ref (a 9), .ref (a 11), .ref (a 13), .int (nI pl), .int (nI (min pl (go + tn B A))), .int hi, .int mi, .int re, .int lo])), ((a 1), .inr (0, [.ref (a 2), .int (nI N.length)])), ((a 2), .inl (D.1 20, 40, .inl g0)), ((a 3), .inr (0, [.ref (a 4), .int (nI T.length)])), ((a 4), .inl (D.1 20, 40, .inl g1)), ((a 5), .inr (0, [.ref (a 6), .int (nI A.length)])), ((a 6), .inl (D.1 20, 40, .inl g2)), ((a 7), .inr (0, [.ref (a 8), .int (nI B.length)])), ((a 8), .inl (D.1 20, 40, .inl g3)), ((a 9), .inr (2, [.ref (a 10)])), ((a 10), .inl (D.1 20, 40, .inl g4)), ((a 11), .inr (2, [.ref (a 12)])), ((a 12), .inl (D.1 20, 40, .inl g5)), ((a 13), .inr (2, [.ref (a 14)])), ((a 14), .inl (D.1 20, 40, .inl g6))] dX1_recall_29 rfl rfl inlX1 tyX1_ok nmX1 (by decide) wq_9_3 rfl rfl rfl (Nat.le_of_ble_eq_true rfl) rfl ?_
    refine k_aload_n hC 32 dX1_recall_32 rfl ?_
    refine k_getf hC 33 0 2 dX1_recall_33 rfl rfl inlX1 (by decide) wq_2_0 rfl ?_
    refine k_aload_n hC 36 dX1_recall_36 rfl ?_
    refine k_getf hC 37 0 2 dX1_recall_37 rfl rfl inlX1 (by decide) wq_2_0 rfl ?_
    refine k_iload_n hC 40 dX1_recall_40 rfl ?_
    refine k_callVr hC 41 5 [5, 6] (c_X0_placeOf l D (a 5) (a 6) A g2 k r2 (by omega) kA hk) cw_RX1_124 dX1_recall_41 ⟨Nat.le_of_ble_eq_true rfl, Nat.le_of_ble_eq_true rfl, Nat.le_of_ble_eq_true rfl, Nat.le_of_ble_eq_true rfl⟩ rfl (Nat.le_of_ble_eq_true rfl) rfl rfl rfl (by decide) rfl (fun _ => Nat.le_of_ble_eq_true rfl) (fun _ => rfl) _ rfl (fun v u hp => ?_)
    obtain rfl := hp
    refine KJ.eqs (st' := .int (ixv A k) :: .ref (a 5) :: []) rfl ?_
    refine KJ.topi (y := (nI (A.idxOf k))) (ixv_in hm) ?_
    refine k_callV hC 44 5 [5, 6] (fun x => [((a 0), .inr (1, [.ref (a 1), .ref (a 3), .ref (a 5), .ref (a 7), .ref (a 9), .ref (a 11), .ref (a 13), .int (nI pl), .int (nI (min pl (go + tn B A))), .int hi, .int mi, .int re, .int lo])), ((a 1), .inr (0, [.ref (a 2), .int (nI N.length)])), ((a 2), .inl (D.1 20, 40, .inl g0)), ((a 3), .inr (0, [.ref (a 4), .int (nI T.length)])), ((a 4), .inl (D.1 20, 40, .inl g1)), ((a 5), .inr (0, [.ref (a 6), .int (nI ((A.eraseIdx (A.idxOf k)).length))])), ((a 6), .inl (D.1 20, 40, .inl x)), ((a 7), .inr (0, [.ref (a 8), .int (nI B.length)])), ((a 8), .inl (D.1 20, 40, .inl g3)), ((a 9), .inr (2, [.ref (a 10)])), ((a 10), .inl (D.1 20, 40, .inl g4)), ((a 11), .inr (2, [.ref (a 12)])), ((a 12), .inl (D.1 20, 40, .inl g5)), ((a 13), .inr (2, [.ref (a 14)])), ((a 14), .inl (D.1 20, 40, .inl g6))]) (c_X0_takeOut l D (a 5) (a 6) A g2 (A.idxOf k) r2 (by omega) (List.idxOf_lt_length_of_mem hm)) cw_RX1_127 dX1_recall_44 ⟨Nat.le_of_ble_eq_true rfl, Nat.le_of_ble_eq_true rfl, Nat.le_of_ble_eq_true rfl, Nat.le_of_ble_eq_true rfl⟩ rfl (Nat.le_of_ble_eq_true rfl) rfl rfl rfl (by decide) rfl (fun _ => Nat.le_of_ble_eq_true rfl) (fun _ => rfl) _ rfl (fun v x hp => ?_)
    obtain ⟨rfl, hx⟩ := hp
    refine KJ.eqs (st' := []) rfl ?_
    refine k_aload_n hC 47 dX1_recall_47 rfl ?_
    refine k_dup hC 48 dX1_recall_48 rfl ?_
    refine k_getf hC 49 0 11 dX1_recall_49 rfl rfl inlX1 (by decide) wq_12_1 rfl ?_
    refine k_iconst hC 52 dX1_recall_52 (nI 1) (by decide) ?_
    refine k_iadd hC 53 dX1_recall_53 (KJ.topi (y := (re + 1)) rfl ?_)
    refine k_putf hC 54 (ty0 := tyX1) 0 11 [((a 0), .inr (1, [.ref (a 1), .ref (a 3), .ref (a 5), .ref (a 7), .ref (a 9), .ref (a 11), .ref (a 13), .int (nI pl), .int (nI (min pl (go + tn B A))), .int hi, .int mi, .int (re + 1), .int lo])), ((a 1), .inr (0, [.ref (a 2), .int (nI N.length)])), ((a 2), .inl (D.1 20, 40, .inl g0)), ((a 3), .inr (0, [.ref (a 4), .int (nI T.length)])), ((a 4), .inl (D.1 20, 40, .inl g1)), ((a 5), .inr (0, [.ref (a 6), .int (nI ((A.eraseIdx (A.idxOf k)).length))])), ((a 6), .inl (D.1 20, 40, .inl x)), ((a 7), .inr (0, [.ref (a 8), .int (nI B.length)])), ((a 8), .inl (D.1 20, 40, .inl g3)), ((a 9), .inr (2, [.ref (a 10)])), ((a 10), .inl (D.1 20, 40, .inl g4)), ((a 11), .inr (2, [.ref (a 12)])), ((a 12), .inl (D.1 20, 40, .inl g5)), ((a 13), .inr (2, [.ref (a 14)])), ((a 14), .inl (D.1 20, 40, .inl g6))] dX1_recall_54 rfl rfl inlX1 tyX1_ok nmX1 (by decide) wq_12_1 rfl rfl rfl (Nat.le_of_ble_eq_true rfl) rfl ?_
    refine k_goto hC 57 114 dX1_recall_57 (by decide) ?_
    exact k_vret hC hE 114 ((N, T, (A.eraseIdx (A.idxOf k)), B, to, pi, fe, pl, min pl (go + tn B A), hi, mi, re + 1, lo), (g0, g1, x, g3, g4, g5, g6)) dX1_recall_114 (⟨rfl, by rw [rcl, if_pos e2], r0, r1, hx, r3, r4, r5, r6⟩) rfl ⟨Nat.zero_le _, Nat.zero_le _⟩
set_option maxHeartbeats 4000000 in
set_option maxRecDepth 100000 in
/-- placeNewJar -/
theorem c_X1_placeNewJar0 (l : Launch) (D : va_G) (a : Nat → Nat) (N T A B : List Nat) (to pi : Nat → Nat) (fe : Nat → Int32) (pl go : Nat) (hi mi re lo : Int32) (g0 g1 g2 g3 g4 g5 g6 : Nat → Int32) (k o : Nat) (hS : SR (N, T, A, B, to, pi, fe, pl, go, hi, mi, re, lo) (g0, g1, g2, g3, g4, g5, g6)) (hW : WF (N, T, A, B, to, pi, fe, pl, go, hi, mi, re, lo)) (hk : k < 40) (ho : o = 1) : MU l yX1_placeNewJar cX1_placeNewJar 3 none 1 22 D [.ref (a 0), .int (nI k), .ref (a 1)] [((a 0), .inr (1, [.ref (a 1), .ref (a 3), .ref (a 5), .ref (a 7), .ref (a 9), .ref (a 11), .ref (a 13), .int (nI pl), .int (nI go), .int hi, .int mi, .int re, .int lo])), ((a 1), .inr (0, [.ref (a 2), .int (nI N.length)])), ((a 2), .inl (D.1 20, 40, .inl g0)), ((a 3), .inr (0, [.ref (a 4), .int (nI T.length)])), ((a 4), .inl (D.1 20, 40, .inl g1)), ((a 5), .inr (0, [.ref (a 6), .int (nI A.length)])), ((a 6), .inl (D.1 20, 40, .inl g2)), ((a 7), .inr (0, [.ref (a 8), .int (nI B.length)])), ((a 8), .inl (D.1 20, 40, .inl g3)), ((a 9), .inr (2, [.ref (a 10)])), ((a 10), .inl (D.1 20, 40, .inl g4)), ((a 11), .inr (2, [.ref (a 12)])), ((a 12), .inl (D.1 20, 40, .inl g5)), ((a 13), .inr (2, [.ref (a 14)])), ((a 14), .inl (D.1 20, 40, .inl g6))] (fun v (u : PS × PG) => v = none ∧ u.1 = plc (N, T, A, B, to, pi, fe, pl, go, hi, mi, re, lo) k o ∧ SR u.1 u.2) (fun u => wSt D a u.1 u.2) 0 0 := by
  refine MU.enter (by decide) [(0, .ref (a 0)), (1, .int (nI k)), (2, .ref (a 1))] rfl (Nat.le_of_ble_eq_true rfl) (fun G hC hE => ?_)
  have hC : CX G D cX1_placeNewJar RX1 3 := hC
  have hS0 := hS
  have hW0 := hW
  obtain ⟨r0, r1, r2, r3, r4, r5, r6⟩ := hS
  obtain ⟨kN, kT, kA, kB, nd, len, lA, lB, p2, p12, g12, t1, p9⟩ := hW
  refine k_aload_n hC 0 dX1_placeNewJar_0 rfl ?_
  refine k_iload_n hC 1 dX1_placeNewJar_1 rfl ?_
  refine k_callV hC 2 1 [1, 2] (fun x => [((a 0), .inr (1, [.ref (a 1), .ref (a 3), .ref (a 5), .ref (a 7), .ref (a 9), .ref (a 11), .ref (a 13), .int (nI pl), .int (nI go), .int hi, .int mi, .int re, .int lo])), ((a 1), .inr (0, [.ref (a 2), .int (nI ((N ++ [k]).length))])), ((a 2), .inl (D.1 20, 40, .inl x)), ((a 3), .inr (0, [.ref (a 4), .int (nI T.length)])), ((a 4), .inl (D.1 20, 40, .inl g1)), ((a 5), .inr (0, [.ref (a 6), .int (nI A.length)])), ((a 6), .inl (D.1 20, 40, .inl g2)), ((a 7), .inr (0, [.ref (a 8), .int (nI B.length)])), ((a 8), .inl (D.1 20, 40, .inl g3)), ((a 9), .inr (2, [.ref (a 10)])), ((a 10), .inl (D.1 20, 40, .inl g4)), ((a 11), .inr (2, [.ref (a 12)])), ((a 12), .inl (D.1 20, 40, .inl g5)), ((a 13), .inr (2, [.ref (a 14)])), ((a 14), .inl (D.1 20, 40, .inl g6))]) (c_X0_append l D (a 1) (a 2) N g0 k r0 (by omega) hk) cw_RX1_134 dX1_placeNewJar_2 ⟨Nat.le_of_ble_eq_true rfl, Nat.le_of_ble_eq_true rfl, Nat.le_of_ble_eq_true rfl, Nat.le_of_ble_eq_true rfl⟩ rfl (Nat.le_of_ble_eq_true rfl) rfl rfl rfl (by decide) rfl (fun _ => Nat.le_of_ble_eq_true rfl) (fun _ => rfl) _ rfl (fun v x hp => ?_)
  obtain ⟨rfl, hx⟩ := hp
  refine KJ.eqs (st' := []) rfl ?_
  refine k_aload_n hC 5 dX1_placeNewJar_5 rfl ?_
  refine k_getf hC 6 0 4 dX1_placeNewJar_6 rfl rfl inlX1 (by decide) wq_2_5 rfl ?_
  refine k_iload_n hC 9 dX1_placeNewJar_9 rfl ?_
  refine k_iconst hC 10 dX1_placeNewJar_10 (nI 0) (by decide) ?_
  refine k_callV hC 11 9 [9, 10] (fun _ => [((a 0), .inr (1, [.ref (a 1), .ref (a 3), .ref (a 5), .ref (a 7), .ref (a 9), .ref (a 11), .ref (a 13), .int (nI pl), .int (nI go), .int hi, .int mi, .int re, .int lo])), ((a 1), .inr (0, [.ref (a 2), .int (nI ((N ++ [k]).length))])), ((a 2), .inl (D.1 20, 40, .inl x)), ((a 3), .inr (0, [.ref (a 4), .int (nI T.length)])), ((a 4), .inl (D.1 20, 40, .inl g1)), ((a 5), .inr (0, [.ref (a 6), .int (nI A.length)])), ((a 6), .inl (D.1 20, 40, .inl g2)), ((a 7), .inr (0, [.ref (a 8), .int (nI B.length)])), ((a 8), .inl (D.1 20, 40, .inl g3)), ((a 9), .inr (2, [.ref (a 10)])), ((a 10), .inl (D.1 20, 40, .inl (upd g4 k (nI 0)))), ((a 11), .inr (2, [.ref (a 12)])), ((a 12), .inl (D.1 20, 40, .inl g5)), ((a 13), .inr (2, [.ref (a 14)])), ((a 14), .inl (D.1 20, 40, .inl g6))]) (c_X2_put l D (a 9) (a 10) g4 k (nI 0) hk) cw_RX1_97 dX1_placeNewJar_11 ⟨Nat.le_of_ble_eq_true rfl, Nat.le_of_ble_eq_true rfl, Nat.le_of_ble_eq_true rfl, Nat.le_of_ble_eq_true rfl⟩ rfl (Nat.le_of_ble_eq_true rfl) rfl rfl rfl (by decide) rfl (fun _ => Nat.le_of_ble_eq_true rfl) (fun _ => rfl) _ rfl (fun v _ hp => ?_)
  obtain rfl := hp
  refine KJ.eqs (st' := []) rfl ?_
  refine k_aload_n hC 14 dX1_placeNewJar_14 rfl ?_
  refine k_getf hC 15 0 5 dX1_placeNewJar_15 rfl rfl inlX1 (by decide) wq_2_6 rfl ?_
  refine k_iload_n hC 18 dX1_placeNewJar_18 rfl ?_
  refine k_iconst hC 19 dX1_placeNewJar_19 (nI 0) (by decide) ?_
  refine k_callV hC 20 11 [11, 12] (fun _ => [((a 0), .inr (1, [.ref (a 1), .ref (a 3), .ref (a 5), .ref (a 7), .ref (a 9), .ref (a 11), .ref (a 13), .int (nI pl), .int (nI go), .int hi, .int mi, .int re, .int lo])), ((a 1), .inr (0, [.ref (a 2), .int (nI ((N ++ [k]).length))])), ((a 2), .inl (D.1 20, 40, .inl x)), ((a 3), .inr (0, [.ref (a 4), .int (nI T.length)])), ((a 4), .inl (D.1 20, 40, .inl g1)), ((a 5), .inr (0, [.ref (a 6), .int (nI A.length)])), ((a 6), .inl (D.1 20, 40, .inl g2)), ((a 7), .inr (0, [.ref (a 8), .int (nI B.length)])), ((a 8), .inl (D.1 20, 40, .inl g3)), ((a 9), .inr (2, [.ref (a 10)])), ((a 10), .inl (D.1 20, 40, .inl (upd g4 k (nI 0)))), ((a 11), .inr (2, [.ref (a 12)])), ((a 12), .inl (D.1 20, 40, .inl (upd g5 k (nI 0)))), ((a 13), .inr (2, [.ref (a 14)])), ((a 14), .inl (D.1 20, 40, .inl g6))]) (c_X2_put l D (a 11) (a 12) g5 k (nI 0) hk) cw_RX1_97 dX1_placeNewJar_20 ⟨Nat.le_of_ble_eq_true rfl, Nat.le_of_ble_eq_true rfl, Nat.le_of_ble_eq_true rfl, Nat.le_of_ble_eq_true rfl⟩ rfl (Nat.le_of_ble_eq_true rfl) rfl rfl rfl (by decide) rfl (fun _ => Nat.le_of_ble_eq_true rfl) (fun _ => rfl) _ rfl (fun v _ hp => ?_)
  obtain rfl := hp
  refine KJ.eqs (st' := []) rfl ?_
  refine k_aload_n hC 23 dX1_placeNewJar_23 rfl ?_
  refine k_getf hC 24 0 6 dX1_placeNewJar_24 rfl rfl inlX1 (by decide) wq_2_7 rfl ?_
  refine k_iload_n hC 27 dX1_placeNewJar_27 rfl ?_
  refine k_iconst hC 28 dX1_placeNewJar_28 (nI 1) (by decide) ?_
  refine k_callV hC 29 13 [13, 14] (fun _ => [((a 0), .inr (1, [.ref (a 1), .ref (a 3), .ref (a 5), .ref (a 7), .ref (a 9), .ref (a 11), .ref (a 13), .int (nI pl), .int (nI go), .int hi, .int mi, .int re, .int lo])), ((a 1), .inr (0, [.ref (a 2), .int (nI ((N ++ [k]).length))])), ((a 2), .inl (D.1 20, 40, .inl x)), ((a 3), .inr (0, [.ref (a 4), .int (nI T.length)])), ((a 4), .inl (D.1 20, 40, .inl g1)), ((a 5), .inr (0, [.ref (a 6), .int (nI A.length)])), ((a 6), .inl (D.1 20, 40, .inl g2)), ((a 7), .inr (0, [.ref (a 8), .int (nI B.length)])), ((a 8), .inl (D.1 20, 40, .inl g3)), ((a 9), .inr (2, [.ref (a 10)])), ((a 10), .inl (D.1 20, 40, .inl (upd g4 k (nI 0)))), ((a 11), .inr (2, [.ref (a 12)])), ((a 12), .inl (D.1 20, 40, .inl (upd g5 k (nI 0)))), ((a 13), .inr (2, [.ref (a 14)])), ((a 14), .inl (D.1 20, 40, .inl (upd g6 k (nI 1))))]) (c_X2_put l D (a 13) (a 14) g6 k (nI 1) hk) cw_RX1_97 dX1_placeNewJar_29 ⟨Nat.le_of_ble_eq_true rfl, Nat.le_of_ble_eq_true rfl, Nat.le_of_ble_eq_true rfl, Nat.le_of_ble_eq_true rfl⟩ rfl (Nat.le_of_ble_eq_true rfl) rfl rfl rfl (by decide) rfl (fun _ => Nat.le_of_ble_eq_true rfl) (fun _ => rfl) _ rfl (fun v _ hp => ?_)
  obtain rfl := hp
  refine KJ.eqs (st' := []) rfl ?_
  exact k_vret hC hE 32 (((N ++ [k]), T, A, B, va_up to k 0, va_up pi k 0, va_up fe k 1, pl, go, hi, mi, re, lo), (x, g1, g2, g3, upd g4 k (nI 0), upd g5 k (nI 0), upd g6 k (nI 1))) dX1_placeNewJar_32 (⟨rfl, by rw [plc, if_pos ho], hx, r1, r2, r3, tup r4 k 0, tup r5 k 0, tupI r6 k 1⟩) rfl ⟨Nat.zero_le _, Nat.zero_le _⟩
set_option maxHeartbeats 4000000 in
set_option maxRecDepth 100000 in
/-- placeNewJar -/
theorem c_X1_placeNewJar1 (l : Launch) (D : va_G) (a : Nat → Nat) (N T A B : List Nat) (to pi : Nat → Nat) (fe : Nat → Int32) (pl go : Nat) (hi mi re lo : Int32) (g0 g1 g2 g3 g4 g5 g6 : Nat → Int32) (k o : Nat) (hS : SR (N, T, A, B, to, pi, fe, pl, go, hi, mi, re, lo) (g0, g1, g2, g3, g4, g5, g6)) (hW : WF (N, T, A, B, to, pi, fe, pl, go, hi, mi, re, lo)) (hk : k < 40) (ho : ¬ o = 1) : MU l yX1_placeNewJar cX1_placeNewJar 3 none 1 22 D [.ref (a 0), .int (nI k), .ref (a 3)] [((a 0), .inr (1, [.ref (a 1), .ref (a 3), .ref (a 5), .ref (a 7), .ref (a 9), .ref (a 11), .ref (a 13), .int (nI pl), .int (nI go), .int hi, .int mi, .int re, .int lo])), ((a 1), .inr (0, [.ref (a 2), .int (nI N.length)])), ((a 2), .inl (D.1 20, 40, .inl g0)), ((a 3), .inr (0, [.ref (a 4), .int (nI T.length)])), ((a 4), .inl (D.1 20, 40, .inl g1)), ((a 5), .inr (0, [.ref (a 6), .int (nI A.length)])), ((a 6), .inl (D.1 20, 40, .inl g2)), ((a 7), .inr (0, [.ref (a 8), .int (nI B.length)])), ((a 8), .inl (D.1 20, 40, .inl g3)), ((a 9), .inr (2, [.ref (a 10)])), ((a 10), .inl (D.1 20, 40, .inl g4)), ((a 11), .inr (2, [.ref (a 12)])), ((a 12), .inl (D.1 20, 40, .inl g5)), ((a 13), .inr (2, [.ref (a 14)])), ((a 14), .inl (D.1 20, 40, .inl g6))] (fun v (u : PS × PG) => v = none ∧ u.1 = plc (N, T, A, B, to, pi, fe, pl, go, hi, mi, re, lo) k o ∧ SR u.1 u.2) (fun u => wSt D a u.1 u.2) 0 0 := by
  refine MU.enter (by decide) [(0, .ref (a 0)), (1, .int (nI k)), (2, .ref (a 3))] rfl (Nat.le_of_ble_eq_true rfl) (fun G hC hE => ?_)
  have hC : CX G D cX1_placeNewJar RX1 3 := hC
  have hS0 := hS
  have hW0 := hW
  obtain ⟨r0, r1, r2, r3, r4, r5, r6⟩ := hS
  obtain ⟨kN, kT, kA, kB, nd, len, lA, lB, p2, p12, g12, t1, p9⟩ := hW
  refine k_aload_n hC 0 dX1_placeNewJar_0 rfl ?_
  refine k_iload_n hC 1 dX1_placeNewJar_1 rfl ?_
  refine k_callV hC 2 3 [3, 4] (fun x => [((a 0), .inr (1, [.ref (a 1), .ref (a 3), .ref (a 5), .ref (a 7), .ref (a 9), .ref (a 11), .ref (a 13), .int (nI pl), .int (nI go), .int hi, .int mi, .int re, .int lo])), ((a 1), .inr (0, [.ref (a 2), .int (nI N.length)])), ((a 2), .inl (D.1 20, 40, .inl g0)), ((a 3), .inr (0, [.ref (a 4), .int (nI ((T ++ [k]).length))])), ((a 4), .inl (D.1 20, 40, .inl x)), ((a 5), .inr (0, [.ref (a 6), .int (nI A.length)])), ((a 6), .inl (D.1 20, 40, .inl g2)), ((a 7), .inr (0, [.ref (a 8), .int (nI B.length)])), ((a 8), .inl (D.1 20, 40, .inl g3)), ((a 9), .inr (2, [.ref (a 10)])), ((a 10), .inl (D.1 20, 40, .inl g4)), ((a 11), .inr (2, [.ref (a 12)])), ((a 12), .inl (D.1 20, 40, .inl g5)), ((a 13), .inr (2, [.ref (a 14)])), ((a 14), .inl (D.1 20, 40, .inl g6))]) (c_X0_append l D (a 3) (a 4) T g1 k r1 (by omega) hk) cw_RX1_134 dX1_placeNewJar_2 ⟨Nat.le_of_ble_eq_true rfl, Nat.le_of_ble_eq_true rfl, Nat.le_of_ble_eq_true rfl, Nat.le_of_ble_eq_true rfl⟩ rfl (Nat.le_of_ble_eq_true rfl) rfl rfl rfl (by decide) rfl (fun _ => Nat.le_of_ble_eq_true rfl) (fun _ => rfl) _ rfl (fun v x hp => ?_)
  obtain ⟨rfl, hx⟩ := hp
  refine KJ.eqs (st' := []) rfl ?_
  refine k_aload_n hC 5 dX1_placeNewJar_5 rfl ?_
  refine k_getf hC 6 0 4 dX1_placeNewJar_6 rfl rfl inlX1 (by decide) wq_2_5 rfl ?_
  refine k_iload_n hC 9 dX1_placeNewJar_9 rfl ?_
  refine k_iconst hC 10 dX1_placeNewJar_10 (nI 0) (by decide) ?_
  refine k_callV hC 11 9 [9, 10] (fun _ => [((a 0), .inr (1, [.ref (a 1), .ref (a 3), .ref (a 5), .ref (a 7), .ref (a 9), .ref (a 11), .ref (a 13), .int (nI pl), .int (nI go), .int hi, .int mi, .int re, .int lo])), ((a 1), .inr (0, [.ref (a 2), .int (nI N.length)])), ((a 2), .inl (D.1 20, 40, .inl g0)), ((a 3), .inr (0, [.ref (a 4), .int (nI ((T ++ [k]).length))])), ((a 4), .inl (D.1 20, 40, .inl x)), ((a 5), .inr (0, [.ref (a 6), .int (nI A.length)])), ((a 6), .inl (D.1 20, 40, .inl g2)), ((a 7), .inr (0, [.ref (a 8), .int (nI B.length)])), ((a 8), .inl (D.1 20, 40, .inl g3)), ((a 9), .inr (2, [.ref (a 10)])), ((a 10), .inl (D.1 20, 40, .inl (upd g4 k (nI 0)))), ((a 11), .inr (2, [.ref (a 12)])), ((a 12), .inl (D.1 20, 40, .inl g5)), ((a 13), .inr (2, [.ref (a 14)])), ((a 14), .inl (D.1 20, 40, .inl g6))]) (c_X2_put l D (a 9) (a 10) g4 k (nI 0) hk) cw_RX1_97 dX1_placeNewJar_11 ⟨Nat.le_of_ble_eq_true rfl, Nat.le_of_ble_eq_true rfl, Nat.le_of_ble_eq_true rfl, Nat.le_of_ble_eq_true rfl⟩ rfl (Nat.le_of_ble_eq_true rfl) rfl rfl rfl (by decide) rfl (fun _ => Nat.le_of_ble_eq_true rfl) (fun _ => rfl) _ rfl (fun v _ hp => ?_)
  obtain rfl := hp
  refine KJ.eqs (st' := []) rfl ?_
  refine k_aload_n hC 14 dX1_placeNewJar_14 rfl ?_
  refine k_getf hC 15 0 5 dX1_placeNewJar_15 rfl rfl inlX1 (by decide) wq_2_6 rfl ?_
  refine k_iload_n hC 18 dX1_placeNewJar_18 rfl ?_
  refine k_iconst hC 19 dX1_placeNewJar_19 (nI 0) (by decide) ?_
  refine k_callV hC 20 11 [11, 12] (fun _ => [((a 0), .inr (1, [.ref (a 1), .ref (a 3), .ref (a 5), .ref (a 7), .ref (a 9), .ref (a 11), .ref (a 13), .int (nI pl), .int (nI go), .int hi, .int mi, .int re, .int lo])), ((a 1), .inr (0, [.ref (a 2), .int (nI N.length)])), ((a 2), .inl (D.1 20, 40, .inl g0)), ((a 3), .inr (0, [.ref (a 4), .int (nI ((T ++ [k]).length))])), ((a 4), .inl (D.1 20, 40, .inl x)), ((a 5), .inr (0, [.ref (a 6), .int (nI A.length)])), ((a 6), .inl (D.1 20, 40, .inl g2)), ((a 7), .inr (0, [.ref (a 8), .int (nI B.length)])), ((a 8), .inl (D.1 20, 40, .inl g3)), ((a 9), .inr (2, [.ref (a 10)])), ((a 10), .inl (D.1 20, 40, .inl (upd g4 k (nI 0)))), ((a 11), .inr (2, [.ref (a 12)])), ((a 12), .inl (D.1 20, 40, .inl (upd g5 k (nI 0)))), ((a 13), .inr (2, [.ref (a 14)])), ((a 14), .inl (D.1 20, 40, .inl g6))]) (c_X2_put l D (a 11) (a 12) g5 k (nI 0) hk) cw_RX1_97 dX1_placeNewJar_20 ⟨Nat.le_of_ble_eq_true rfl, Nat.le_of_ble_eq_true rfl, Nat.le_of_ble_eq_true rfl, Nat.le_of_ble_eq_true rfl⟩ rfl (Nat.le_of_ble_eq_true rfl) rfl rfl rfl (by decide) rfl (fun _ => Nat.le_of_ble_eq_true rfl) (fun _ => rfl) _ rfl (fun v _ hp => ?_)
  obtain rfl := hp
  refine KJ.eqs (st' := []) rfl ?_
  refine k_aload_n hC 23 dX1_placeNewJar_23 rfl ?_
  refine k_getf hC 24 0 6 dX1_placeNewJar_24 rfl rfl inlX1 (by decide) wq_2_7 rfl ?_
  refine k_iload_n hC 27 dX1_placeNewJar_27 rfl ?_
  refine k_iconst hC 28 dX1_placeNewJar_28 (nI 1) (by decide) ?_
  refine k_callV hC 29 13 [13, 14] (fun _ => [((a 0), .inr (1, [.ref (a 1), .ref (a 3), .ref (a 5), .ref (a 7), .ref (a 9), .ref (a 11), .ref (a 13), .int (nI pl), .int (nI go), .int hi, .int mi, .int re, .int lo])), ((a 1), .inr (0, [.ref (a 2), .int (nI N.length)])), ((a 2), .inl (D.1 20, 40, .inl g0)), ((a 3), .inr (0, [.ref (a 4), .int (nI ((T ++ [k]).length))])), ((a 4), .inl (D.1 20, 40, .inl x)), ((a 5), .inr (0, [.ref (a 6), .int (nI A.length)])), ((a 6), .inl (D.1 20, 40, .inl g2)), ((a 7), .inr (0, [.ref (a 8), .int (nI B.length)])), ((a 8), .inl (D.1 20, 40, .inl g3)), ((a 9), .inr (2, [.ref (a 10)])), ((a 10), .inl (D.1 20, 40, .inl (upd g4 k (nI 0)))), ((a 11), .inr (2, [.ref (a 12)])), ((a 12), .inl (D.1 20, 40, .inl (upd g5 k (nI 0)))), ((a 13), .inr (2, [.ref (a 14)])), ((a 14), .inl (D.1 20, 40, .inl (upd g6 k (nI 1))))]) (c_X2_put l D (a 13) (a 14) g6 k (nI 1) hk) cw_RX1_97 dX1_placeNewJar_29 ⟨Nat.le_of_ble_eq_true rfl, Nat.le_of_ble_eq_true rfl, Nat.le_of_ble_eq_true rfl, Nat.le_of_ble_eq_true rfl⟩ rfl (Nat.le_of_ble_eq_true rfl) rfl rfl rfl (by decide) rfl (fun _ => Nat.le_of_ble_eq_true rfl) (fun _ => rfl) _ rfl (fun v _ hp => ?_)
  obtain rfl := hp
  refine KJ.eqs (st' := []) rfl ?_
  exact k_vret hC hE 32 ((N, (T ++ [k]), A, B, va_up to k 0, va_up pi k 0, va_up fe k 1, pl, go, hi, mi, re, lo), (g0, x, g2, g3, upd g4 k (nI 0), upd g5 k (nI 0), upd g6 k (nI 1))) dX1_placeNewJar_32 (⟨rfl, by rw [plc, if_neg ho], r0, hx, r2, r3, tup r4 k 0, tup r5 k 0, tupI r6 k 1⟩) rfl ⟨Nat.zero_le _, Nat.zero_le _⟩
set_option maxHeartbeats 4000000 in
set_option maxRecDepth 100000 in
/-- changePins -/
theorem c_X1_changePins (l : Launch) (D : va_G) (a : Nat → Nat) (N T A B : List Nat) (to pi : Nat → Nat) (fe : Nat → Int32) (pl go : Nat) (hi mi re lo : Int32) (g0 g1 g2 g3 g4 g5 g6 : Nat → Int32) (k x : Nat) (m : Int32) (hS : SR (N, T, A, B, to, pi, fe, pl, go, hi, mi, re, lo) (g0, g1, g2, g3, g4, g5, g6)) (hW : WF (N, T, A, B, to, pi, fe, pl, go, hi, mi, re, lo)) (hk : k < 40) (hx : nI (pi k) + m = nI x) : MU l yX1_changePins cX1_changePins 3 (some .int) 1 22 D [.ref (a 0), .int (nI k), .int m] [((a 0), .inr (1, [.ref (a 1), .ref (a 3), .ref (a 5), .ref (a 7), .ref (a 9), .ref (a 11), .ref (a 13), .int (nI pl), .int (nI go), .int hi, .int mi, .int re, .int lo])), ((a 1), .inr (0, [.ref (a 2), .int (nI N.length)])), ((a 2), .inl (D.1 20, 40, .inl g0)), ((a 3), .inr (0, [.ref (a 4), .int (nI T.length)])), ((a 4), .inl (D.1 20, 40, .inl g1)), ((a 5), .inr (0, [.ref (a 6), .int (nI A.length)])), ((a 6), .inl (D.1 20, 40, .inl g2)), ((a 7), .inr (0, [.ref (a 8), .int (nI B.length)])), ((a 8), .inl (D.1 20, 40, .inl g3)), ((a 9), .inr (2, [.ref (a 10)])), ((a 10), .inl (D.1 20, 40, .inl g4)), ((a 11), .inr (2, [.ref (a 12)])), ((a 12), .inl (D.1 20, 40, .inl g5)), ((a 13), .inr (2, [.ref (a 14)])), ((a 14), .inl (D.1 20, 40, .inl g6))] (fun v (u : PS × PG) => v = some (.int (nI x)) ∧ u.1 = (N, T, A, B, to, va_up pi k x, fe, pl, go, hi, mi, re, lo) ∧ SR u.1 u.2) (fun u => wSt D a u.1 u.2) 0 0 := by
  refine MU.enter (by decide) [(0, .ref (a 0)), (1, .int (nI k)), (2, .int m)] rfl (Nat.le_of_ble_eq_true rfl) (fun G hC hE => ?_)
  have hC : CX G D cX1_changePins RX1 3 := hC
  have hS0 := hS
  have hW0 := hW
  obtain ⟨r0, r1, r2, r3, r4, r5, r6⟩ := hS
  obtain ⟨kN, kT, kA, kB, nd, len, lA, lB, p2, p12, g12, t1, p9⟩ := hW
  refine k_aload_n hC 0 dX1_changePins_0 rfl ?_
  refine k_getf hC 1 0 5 dX1_changePins_1 rfl rfl inlX1 (by decide) wq_2_6 rfl ?_
  refine k_iload_n hC 4 dX1_changePins_4 rfl ?_
  refine k_aload_n hC 5 dX1_changePins_5 rfl ?_
  refine k_getf hC 6 0 5 dX1_changePins_6 rfl rfl inlX1 (by decide) wq_2_6 rfl ?_
  refine k_iload_n hC 9 dX1_changePins_9 rfl ?_
  refine k_callVr hC 10 11 [11, 12] (c_X2_of l D (a 11) (a 12) g5 k hk) cw_RX1_81 dX1_changePins_10 ⟨Nat.le_of_ble_eq_true rfl, Nat.le_of_ble_eq_true rfl, Nat.le_of_ble_eq_true rfl, Nat.le_of_ble_eq_true rfl⟩ rfl (Nat.le_of_ble_eq_true rfl) rfl rfl rfl (by decide) rfl (fun _ => Nat.le_of_ble_eq_true rfl) (fun _ => rfl) _ rfl (fun v u hp => ?_)
  obtain rfl := hp
  refine KJ.eqs (st' := .int (g5 k) :: .int (nI k) :: .ref (a 11) :: []) rfl ?_
  refine KJ.topi (y := (nI (pi k))) (r5 k hk) ?_
  refine k_iload_n hC 13 dX1_changePins_13 rfl ?_
  refine k_iadd hC 14 dX1_changePins_14 (KJ.topi (y := (nI x)) hx ?_)
  refine k_callV hC 15 11 [11, 12] (fun _ => [((a 0), .inr (1, [.ref (a 1), .ref (a 3), .ref (a 5), .ref (a 7), .ref (a 9), .ref (a 11), .ref (a 13), .int (nI pl), .int (nI go), .int hi, .int mi, .int re, .int lo])), ((a 1), .inr (0, [.ref (a 2), .int (nI N.length)])), ((a 2), .inl (D.1 20, 40, .inl g0)), ((a 3), .inr (0, [.ref (a 4), .int (nI T.length)])), ((a 4), .inl (D.1 20, 40, .inl g1)), ((a 5), .inr (0, [.ref (a 6), .int (nI A.length)])), ((a 6), .inl (D.1 20, 40, .inl g2)), ((a 7), .inr (0, [.ref (a 8), .int (nI B.length)])), ((a 8), .inl (D.1 20, 40, .inl g3)), ((a 9), .inr (2, [.ref (a 10)])), ((a 10), .inl (D.1 20, 40, .inl g4)), ((a 11), .inr (2, [.ref (a 12)])), ((a 12), .inl (D.1 20, 40, .inl (upd g5 k (nI x)))), ((a 13), .inr (2, [.ref (a 14)])), ((a 14), .inl (D.1 20, 40, .inl g6))]) (c_X2_put l D (a 11) (a 12) g5 k (nI x) hk) cw_RX1_97 dX1_changePins_15 ⟨Nat.le_of_ble_eq_true rfl, Nat.le_of_ble_eq_true rfl, Nat.le_of_ble_eq_true rfl, Nat.le_of_ble_eq_true rfl⟩ rfl (Nat.le_of_ble_eq_true rfl) rfl rfl rfl (by decide) rfl (fun _ => Nat.le_of_ble_eq_true rfl) (fun _ => rfl) _ rfl (fun v _ hp => ?_)
  obtain rfl := hp
  refine KJ.eqs (st' := []) rfl ?_
  refine k_aload_n hC 18 dX1_changePins_18 rfl ?_
  refine k_getf hC 19 0 5 dX1_changePins_19 rfl rfl inlX1 (by decide) wq_2_6 rfl ?_
  refine k_iload_n hC 22 dX1_changePins_22 rfl ?_
  refine k_callVr hC 23 11 [11, 12] (c_X2_of l D (a 11) (a 12) (upd g5 k (nI x)) k hk) cw_RX1_81 dX1_changePins_23 ⟨Nat.le_of_ble_eq_true rfl, Nat.le_of_ble_eq_true rfl, Nat.le_of_ble_eq_true rfl, Nat.le_of_ble_eq_true rfl⟩ rfl (Nat.le_of_ble_eq_true rfl) rfl rfl rfl (by decide) rfl (fun _ => Nat.le_of_ble_eq_true rfl) (fun _ => rfl) _ rfl (fun v u hp => ?_)
  obtain rfl := hp
  refine KJ.eqs (st' := .int (upd g5 k (nI x) k) :: []) rfl ?_
  refine KJ.topi (y := (nI x)) (upd_s _ _ _) ?_
  exact k_iret hC hE 26 ((N, T, A, B, to, va_up pi k x, fe, pl, go, hi, mi, re, lo), (g0, g1, g2, g3, g4, upd g5 k (nI x), g6)) dX1_changePins_26 rfl (⟨rfl, rfl, r0, r1, r2, r3, r4, tup r5 k x, r6⟩) rfl ⟨Nat.zero_le _, Nat.zero_le _⟩
set_option maxHeartbeats 4000000 in
set_option maxRecDepth 100000 in
/-- remove -/
theorem c_X1_remove (l : Launch) (D : va_G) (a : Nat → Nat) (N T A B : List Nat) (to pi : Nat → Nat) (fe : Nat → Int32) (pl go : Nat) (hi mi re lo : Int32) (g0 g1 g2 g3 g4 g5 g6 : Nat → Int32) (k : Nat) (hS : SR (N, T, A, B, to, pi, fe, pl, go, hi, mi, re, lo) (g0, g1, g2, g3, g4, g5, g6)) (hW : WF (N, T, A, B, to, pi, fe, pl, go, hi, mi, re, lo)) (hk : k < 40) : MU l yX1_remove cX1_remove 2 (some .int) 1 22 D [.ref (a 0), .int (nI k)] [((a 0), .inr (1, [.ref (a 1), .ref (a 3), .ref (a 5), .ref (a 7), .ref (a 9), .ref (a 11), .ref (a 13), .int (nI pl), .int (nI go), .int hi, .int mi, .int re, .int lo])), ((a 1), .inr (0, [.ref (a 2), .int (nI N.length)])), ((a 2), .inl (D.1 20, 40, .inl g0)), ((a 3), .inr (0, [.ref (a 4), .int (nI T.length)])), ((a 4), .inl (D.1 20, 40, .inl g1)), ((a 5), .inr (0, [.ref (a 6), .int (nI A.length)])), ((a 6), .inl (D.1 20, 40, .inl g2)), ((a 7), .inr (0, [.ref (a 8), .int (nI B.length)])), ((a 8), .inl (D.1 20, 40, .inl g3)), ((a 9), .inr (2, [.ref (a 10)])), ((a 10), .inl (D.1 20, 40, .inl g4)), ((a 11), .inr (2, [.ref (a 12)])), ((a 12), .inl (D.1 20, 40, .inl g5)), ((a 13), .inr (2, [.ref (a 14)])), ((a 14), .inl (D.1 20, 40, .inl g6))] (fun v (u : PS × PG) => v = some (.int (fe k)) ∧ u.1 = (ea N k, ea T k, A, B, to, pi, fe, pl, go, hi, mi, re, lo) ∧ SR u.1 u.2) (fun u => wSt D a u.1 u.2) 0 0 := by
  refine MU.enter (by decide) [(0, .ref (a 0)), (1, .int (nI k))] rfl (Nat.le_of_ble_eq_true rfl) (fun G hC hE => ?_)
  have hC : CX G D cX1_remove RX1 2 := hC
  have hS0 := hS
  have hW0 := hW
  obtain ⟨r0, r1, r2, r3, r4, r5, r6⟩ := hS
  obtain ⟨kN, kT, kA, kB, nd, len, lA, lB, p2, p12, g12, t1, p9⟩ := hW
  refine k_aload_n hC 0 dX1_remove_0 rfl ?_
  refine k_getf hC 1 0 0 dX1_remove_1 rfl rfl inlX1 (by decide) wq_1_22 rfl ?_
  refine k_aload_n hC 4 dX1_remove_4 rfl ?_
  refine k_getf hC 5 0 0 dX1_remove_5 rfl rfl inlX1 (by decide) wq_1_22 rfl ?_
  refine k_iload_n hC 8 dX1_remove_8 rfl ?_
  refine k_callVr hC 9 1 [1, 2] (c_X0_placeOf l D (a 1) (a 2) N g0 k r0 (by omega) kN hk) cw_RX1_124 dX1_remove_9 ⟨Nat.le_of_ble_eq_true rfl, Nat.le_of_ble_eq_true rfl, Nat.le_of_ble_eq_true rfl, Nat.le_of_ble_eq_true rfl⟩ rfl (Nat.le_of_ble_eq_true rfl) rfl rfl rfl (by decide) rfl (fun _ => Nat.le_of_ble_eq_true rfl) (fun _ => rfl) _ rfl (fun v u hp => ?_)
  obtain rfl := hp
  refine KJ.eqs (st' := .int (ixv N k) :: .ref (a 1) :: []) rfl ?_
  refine k_callV hC 12 1 [1, 2] (fun x0 => [((a 0), .inr (1, [.ref (a 1), .ref (a 3), .ref (a 5), .ref (a 7), .ref (a 9), .ref (a 11), .ref (a 13), .int (nI pl), .int (nI go), .int hi, .int mi, .int re, .int lo])), ((a 1), .inr (0, [.ref (a 2), .int (nI ((ea N k).length))])), ((a 2), .inl (D.1 20, 40, .inl x0)), ((a 3), .inr (0, [.ref (a 4), .int (nI T.length)])), ((a 4), .inl (D.1 20, 40, .inl g1)), ((a 5), .inr (0, [.ref (a 6), .int (nI A.length)])), ((a 6), .inl (D.1 20, 40, .inl g2)), ((a 7), .inr (0, [.ref (a 8), .int (nI B.length)])), ((a 8), .inl (D.1 20, 40, .inl g3)), ((a 9), .inr (2, [.ref (a 10)])), ((a 10), .inl (D.1 20, 40, .inl g4)), ((a 11), .inr (2, [.ref (a 12)])), ((a 12), .inl (D.1 20, 40, .inl g5)), ((a 13), .inr (2, [.ref (a 14)])), ((a 14), .inl (D.1 20, 40, .inl g6))]) (c_X0_takeOut_ix l D (a 1) (a 2) N g0 k r0 (by omega)) cw_RX1_127 dX1_remove_12 ⟨Nat.le_of_ble_eq_true rfl, Nat.le_of_ble_eq_true rfl, Nat.le_of_ble_eq_true rfl, Nat.le_of_ble_eq_true rfl⟩ rfl (Nat.le_of_ble_eq_true rfl) rfl rfl rfl (by decide) rfl (fun _ => Nat.le_of_ble_eq_true rfl) (fun _ => rfl) _ rfl (fun v x0 hp => ?_)
  obtain ⟨rfl, hx0⟩ := hp
  refine KJ.eqs (st' := []) rfl ?_
  refine k_aload_n hC 15 dX1_remove_15 rfl ?_
  refine k_getf hC 16 0 1 dX1_remove_16 rfl rfl inlX1 (by decide) wq_1_23 rfl ?_
  refine k_aload_n hC 19 dX1_remove_19 rfl ?_
  refine k_getf hC 20 0 1 dX1_remove_20 rfl rfl inlX1 (by decide) wq_1_23 rfl ?_
  refine k_iload_n hC 23 dX1_remove_23 rfl ?_
  refine k_callVr hC 24 3 [3, 4] (c_X0_placeOf l D (a 3) (a 4) T g1 k r1 (by omega) kT hk) cw_RX1_124 dX1_remove_24 ⟨Nat.le_of_ble_eq_true rfl, Nat.le_of_ble_eq_true rfl, Nat.le_of_ble_eq_true rfl, Nat.le_of_ble_eq_true rfl⟩ rfl (Nat.le_of_ble_eq_true rfl) rfl rfl rfl (by decide) rfl (fun _ => Nat.le_of_ble_eq_true rfl) (fun _ => rfl) _ rfl (fun v u hp => ?_)
  obtain rfl := hp
  refine KJ.eqs (st' := .int (ixv T k) :: .ref (a 3) :: []) rfl ?_
  refine k_callV hC 27 3 [3, 4] (fun x1 => [((a 0), .inr (1, [.ref (a 1), .ref (a 3), .ref (a 5), .ref (a 7), .ref (a 9), .ref (a 11), .ref (a 13), .int (nI pl), .int (nI go), .int hi, .int mi, .int re, .int lo])), ((a 1), .inr (0, [.ref (a 2), .int (nI ((ea N k).length))])), ((a 2), .inl (D.1 20, 40, .inl x0)), ((a 3), .inr (0, [.ref (a 4), .int (nI ((ea T k).length))])), ((a 4), .inl (D.1 20, 40, .inl x1)), ((a 5), .inr (0, [.ref (a 6), .int (nI A.length)])), ((a 6), .inl (D.1 20, 40, .inl g2)), ((a 7), .inr (0, [.ref (a 8), .int (nI B.length)])), ((a 8), .inl (D.1 20, 40, .inl g3)), ((a 9), .inr (2, [.ref (a 10)])), ((a 10), .inl (D.1 20, 40, .inl g4)), ((a 11), .inr (2, [.ref (a 12)])), ((a 12), .inl (D.1 20, 40, .inl g5)), ((a 13), .inr (2, [.ref (a 14)])), ((a 14), .inl (D.1 20, 40, .inl g6))]) (c_X0_takeOut_ix l D (a 3) (a 4) T g1 k r1 (by omega)) cw_RX1_127 dX1_remove_27 ⟨Nat.le_of_ble_eq_true rfl, Nat.le_of_ble_eq_true rfl, Nat.le_of_ble_eq_true rfl, Nat.le_of_ble_eq_true rfl⟩ rfl (Nat.le_of_ble_eq_true rfl) rfl rfl rfl (by decide) rfl (fun _ => Nat.le_of_ble_eq_true rfl) (fun _ => rfl) _ rfl (fun v x1 hp => ?_)
  obtain ⟨rfl, hx1⟩ := hp
  refine KJ.eqs (st' := []) rfl ?_
  refine k_aload_n hC 30 dX1_remove_30 rfl ?_
  refine k_getf hC 31 0 6 dX1_remove_31 rfl rfl inlX1 (by decide) wq_2_7 rfl ?_
  refine k_iload_n hC 34 dX1_remove_34 rfl ?_
  refine k_callVr hC 35 13 [13, 14] (c_X2_of l D (a 13) (a 14) g6 k hk) cw_RX1_81 dX1_remove_35 ⟨Nat.le_of_ble_eq_true rfl, Nat.le_of_ble_eq_true rfl, Nat.le_of_ble_eq_true rfl, Nat.le_of_ble_eq_true rfl⟩ rfl (Nat.le_of_ble_eq_true rfl) rfl rfl rfl (by decide) rfl (fun _ => Nat.le_of_ble_eq_true rfl) (fun _ => rfl) _ rfl (fun v u hp => ?_)
  obtain rfl := hp
  refine KJ.eqs (st' := .int (g6 k) :: []) rfl ?_
  refine KJ.topi (y := (fe k)) (r6 k hk) ?_
  exact k_iret hC hE 38 (((ea N k), (ea T k), A, B, to, pi, fe, pl, go, hi, mi, re, lo), (x0, x1, g2, g3, g4, g5, g6)) dX1_remove_38 rfl (⟨rfl, rfl, hx0, hx1, r2, r3, r4, r5, r6⟩) rfl ⟨Nat.zero_le _, Nat.zero_le _⟩
set_option maxHeartbeats 4000000 in
set_option maxRecDepth 100000 in
/-- become -/
theorem c_X1_become (l : Launch) (D : va_G) (a : Nat → Nat) (N T A B : List Nat) (to pi : Nat → Nat) (fe : Nat → Int32) (pl go : Nat) (hi mi re lo : Int32) (g0 g1 g2 g3 g4 g5 g6 : Nat → Int32) (b : Nat → Nat) (N2 T2 A2 B2 : List Nat) (to2 pi2 : Nat → Nat) (fe2 : Nat → Int32) (pl2 go2 : Nat) (hi2 mi2 re2 lo2 : Int32) (m0 m1 m2 m3 m4 m5 m6 : Nat → Int32) (hS : SR (N2, T2, A2, B2, to2, pi2, fe2, pl2, go2, hi2, mi2, re2, lo2) (m0, m1, m2, m3, m4, m5, m6)) (hW : WF (N2, T2, A2, B2, to2, pi2, fe2, pl2, go2, hi2, mi2, re2, lo2)) : MU l yX1_become cX1_become 2 none 1 22 D [.ref (a 0), .ref (b 0)] [((a 0), .inr (1, [.ref (a 1), .ref (a 3), .ref (a 5), .ref (a 7), .ref (a 9), .ref (a 11), .ref (a 13), .int (nI pl), .int (nI go), .int hi, .int mi, .int re, .int lo])), ((a 1), .inr (0, [.ref (a 2), .int (nI N.length)])), ((a 2), .inl (D.1 20, 40, .inl g0)), ((a 3), .inr (0, [.ref (a 4), .int (nI T.length)])), ((a 4), .inl (D.1 20, 40, .inl g1)), ((a 5), .inr (0, [.ref (a 6), .int (nI A.length)])), ((a 6), .inl (D.1 20, 40, .inl g2)), ((a 7), .inr (0, [.ref (a 8), .int (nI B.length)])), ((a 8), .inl (D.1 20, 40, .inl g3)), ((a 9), .inr (2, [.ref (a 10)])), ((a 10), .inl (D.1 20, 40, .inl g4)), ((a 11), .inr (2, [.ref (a 12)])), ((a 12), .inl (D.1 20, 40, .inl g5)), ((a 13), .inr (2, [.ref (a 14)])), ((a 14), .inl (D.1 20, 40, .inl g6)), ((b 0), .inr (1, [.ref (b 1), .ref (b 3), .ref (b 5), .ref (b 7), .ref (b 9), .ref (b 11), .ref (b 13), .int (nI pl2), .int (nI go2), .int hi2, .int mi2, .int re2, .int lo2])), ((b 1), .inr (0, [.ref (b 2), .int (nI N2.length)])), ((b 2), .inl (D.1 20, 40, .inl m0)), ((b 3), .inr (0, [.ref (b 4), .int (nI T2.length)])), ((b 4), .inl (D.1 20, 40, .inl m1)), ((b 5), .inr (0, [.ref (b 6), .int (nI A2.length)])), ((b 6), .inl (D.1 20, 40, .inl m2)), ((b 7), .inr (0, [.ref (b 8), .int (nI B2.length)])), ((b 8), .inl (D.1 20, 40, .inl m3)), ((b 9), .inr (2, [.ref (b 10)])), ((b 10), .inl (D.1 20, 40, .inl m4)), ((b 11), .inr (2, [.ref (b 12)])), ((b 12), .inl (D.1 20, 40, .inl m5)), ((b 13), .inr (2, [.ref (b 14)])), ((b 14), .inl (D.1 20, 40, .inl m6))] (fun v (u : PG) => v = none ∧ SR (N2, T2, A2, B2, to2, pi2, fe2, pl2, go2, hi2, mi2, re2, lo2) u) (fun u => wSt D a (N2, T2, A2, B2, to2, pi2, fe2, pl2, go2, hi2, mi2, re2, lo2) u ++ [((b 0), .inr (1, [.ref (b 1), .ref (b 3), .ref (b 5), .ref (b 7), .ref (b 9), .ref (b 11), .ref (b 13), .int (nI pl2), .int (nI go2), .int hi2, .int mi2, .int re2, .int lo2])), ((b 1), .inr (0, [.ref (b 2), .int (nI N2.length)])), ((b 2), .inl (D.1 20, 40, .inl m0)), ((b 3), .inr (0, [.ref (b 4), .int (nI T2.length)])), ((b 4), .inl (D.1 20, 40, .inl m1)), ((b 5), .inr (0, [.ref (b 6), .int (nI A2.length)])), ((b 6), .inl (D.1 20, 40, .inl m2)), ((b 7), .inr (0, [.ref (b 8), .int (nI B2.length)])), ((b 8), .inl (D.1 20, 40, .inl m3)), ((b 9), .inr (2, [.ref (b 10)])), ((b 10), .inl (D.1 20, 40, .inl m4)), ((b 11), .inr (2, [.ref (b 12)])), ((b 12), .inl (D.1 20, 40, .inl m5)), ((b 13), .inr (2, [.ref (b 14)])), ((b 14), .inl (D.1 20, 40, .inl m6))]) 0 0 := by
  refine MU.enter (by decide) [(0, .ref (a 0)), (1, .ref (b 0))] rfl (Nat.le_of_ble_eq_true rfl) (fun G hC hE => ?_)
  have hC : CX G D cX1_become RX1 2 := hC
  obtain ⟨r0, r1, r2, r3, r4, r5, r6⟩ := hS
  obtain ⟨kN, kT, kA, kB, nd, len, lA, lB, p2, p12, g12, t1, p9⟩ := hW
  refine k_aload_n hC 0 dX1_become_0 rfl ?_
  refine k_getf hC 1 0 0 dX1_become_1 rfl rfl inlX1 (by decide) wq_1_22 rfl ?_
  refine k_aload_n hC 4 dX1_become_4 rfl ?_
  refine k_getf hC 5 15 0 dX1_become_5 rfl rfl inlX1 (by decide) wq_1_22 rfl ?_
  refine k_callV hC 8 1 [1, 2, 16, 17] (fun x0 => [((a 0), .inr (1, [.ref (a 1), .ref (a 3), .ref (a 5), .ref (a 7), .ref (a 9), .ref (a 11), .ref (a 13), .int (nI pl), .int (nI go), .int hi, .int mi, .int re, .int lo])), ((a 1), .inr (0, [.ref (a 2), .int (nI N2.length)])), ((a 2), .inl (D.1 20, 40, .inl x0)), ((a 3), .inr (0, [.ref (a 4), .int (nI T.length)])), ((a 4), .inl (D.1 20, 40, .inl g1)), ((a 5), .inr (0, [.ref (a 6), .int (nI A.length)])), ((a 6), .inl (D.1 20, 40, .inl g2)), ((a 7), .inr (0, [.ref (a 8), .int (nI B.length)])), ((a 8), .inl (D.1 20, 40, .inl g3)), ((a 9), .inr (2, [.ref (a 10)])), ((a 10), .inl (D.1 20, 40, .inl g4)), ((a 11), .inr (2, [.ref (a 12)])), ((a 12), .inl (D.1 20, 40, .inl g5)), ((a 13), .inr (2, [.ref (a 14)])), ((a 14), .inl (D.1 20, 40, .inl g6)), ((b 0), .inr (1, [.ref (b 1), .ref (b 3), .ref (b 5), .ref (b 7), .ref (b 9), .ref (b 11), .ref (b 13), .int (nI pl2), .int (nI go2), .int hi2, .int mi2, .int re2, .int lo2])), ((b 1), .inr (0, [.ref (b 2), .int (nI N2.length)])), ((b 2), .inl (D.1 20, 40, .inl m0)), ((b 3), .inr (0, [.ref (b 4), .int (nI T2.length)])), ((b 4), .inl (D.1 20, 40, .inl m1)), ((b 5), .inr (0, [.ref (b 6), .int (nI A2.length)])), ((b 6), .inl (D.1 20, 40, .inl m2)), ((b 7), .inr (0, [.ref (b 8), .int (nI B2.length)])), ((b 8), .inl (D.1 20, 40, .inl m3)), ((b 9), .inr (2, [.ref (b 10)])), ((b 10), .inl (D.1 20, 40, .inl m4)), ((b 11), .inr (2, [.ref (b 12)])), ((b 12), .inl (D.1 20, 40, .inl m5)), ((b 13), .inr (2, [.ref (b 14)])), ((b 14), .inl (D.1 20, 40, .inl m6))]) (c_X0_become l D (a 1) (a 2) (b 1) (b 2) N N2 g0 m0 r0 (by omega)) cw_RX1_44 dX1_become_8 ⟨Nat.le_of_ble_eq_true rfl, Nat.le_of_ble_eq_true rfl, Nat.le_of_ble_eq_true rfl, Nat.le_of_ble_eq_true rfl⟩ rfl (Nat.le_of_ble_eq_true rfl) rfl rfl rfl (by decide) rfl (fun _ => Nat.le_of_ble_eq_true rfl) (fun _ => rfl) _ rfl (fun v x0 hp => ?_)
  obtain ⟨rfl, hx0⟩ := hp
  refine KJ.eqs (st' := []) rfl ?_
  refine k_aload_n hC 11 dX1_become_11 rfl ?_
  refine k_getf hC 12 0 1 dX1_become_12 rfl rfl inlX1 (by decide) wq_1_23 rfl ?_
  refine k_aload_n hC 15 dX1_become_15 rfl ?_
  refine k_getf hC 16 15 1 dX1_become_16 rfl rfl inlX1 (by decide) wq_1_23 rfl ?_
  refine k_callV hC 19 3 [3, 4, 18, 19] (fun x1 => [((a 0), .inr (1, [.ref (a 1), .ref (a 3), .ref (a 5), .ref (a 7), .ref (a 9), .ref (a 11), .ref (a 13), .int (nI pl), .int (nI go), .int hi, .int mi, .int re, .int lo])), ((a 1), .inr (0, [.ref (a 2), .int (nI N2.length)])), ((a 2), .inl (D.1 20, 40, .inl x0)), ((a 3), .inr (0, [.ref (a 4), .int (nI T2.length)])), ((a 4), .inl (D.1 20, 40, .inl x1)), ((a 5), .inr (0, [.ref (a 6), .int (nI A.length)])), ((a 6), .inl (D.1 20, 40, .inl g2)), ((a 7), .inr (0, [.ref (a 8), .int (nI B.length)])), ((a 8), .inl (D.1 20, 40, .inl g3)), ((a 9), .inr (2, [.ref (a 10)])), ((a 10), .inl (D.1 20, 40, .inl g4)), ((a 11), .inr (2, [.ref (a 12)])), ((a 12), .inl (D.1 20, 40, .inl g5)), ((a 13), .inr (2, [.ref (a 14)])), ((a 14), .inl (D.1 20, 40, .inl g6)), ((b 0), .inr (1, [.ref (b 1), .ref (b 3), .ref (b 5), .ref (b 7), .ref (b 9), .ref (b 11), .ref (b 13), .int (nI pl2), .int (nI go2), .int hi2, .int mi2, .int re2, .int lo2])), ((b 1), .inr (0, [.ref (b 2), .int (nI N2.length)])), ((b 2), .inl (D.1 20, 40, .inl m0)), ((b 3), .inr (0, [.ref (b 4), .int (nI T2.length)])), ((b 4), .inl (D.1 20, 40, .inl m1)), ((b 5), .inr (0, [.ref (b 6), .int (nI A2.length)])), ((b 6), .inl (D.1 20, 40, .inl m2)), ((b 7), .inr (0, [.ref (b 8), .int (nI B2.length)])), ((b 8), .inl (D.1 20, 40, .inl m3)), ((b 9), .inr (2, [.ref (b 10)])), ((b 10), .inl (D.1 20, 40, .inl m4)), ((b 11), .inr (2, [.ref (b 12)])), ((b 12), .inl (D.1 20, 40, .inl m5)), ((b 13), .inr (2, [.ref (b 14)])), ((b 14), .inl (D.1 20, 40, .inl m6))]) (c_X0_become l D (a 3) (a 4) (b 3) (b 4) T T2 g1 m1 r1 (by omega)) cw_RX1_44 dX1_become_19 ⟨Nat.le_of_ble_eq_true rfl, Nat.le_of_ble_eq_true rfl, Nat.le_of_ble_eq_true rfl, Nat.le_of_ble_eq_true rfl⟩ rfl (Nat.le_of_ble_eq_true rfl) rfl rfl rfl (by decide) rfl (fun _ => Nat.le_of_ble_eq_true rfl) (fun _ => rfl) _ rfl (fun v x1 hp => ?_)
  obtain ⟨rfl, hx1⟩ := hp
  refine KJ.eqs (st' := []) rfl ?_
  refine k_aload_n hC 22 dX1_become_22 rfl ?_
  refine k_getf hC 23 0 2 dX1_become_23 rfl rfl inlX1 (by decide) wq_2_0 rfl ?_
  refine k_aload_n hC 26 dX1_become_26 rfl ?_
  refine k_getf hC 27 15 2 dX1_become_27 rfl rfl inlX1 (by decide) wq_2_0 rfl ?_
  refine k_callV hC 30 5 [5, 6, 20, 21] (fun x2 => [((a 0), .inr (1, [.ref (a 1), .ref (a 3), .ref (a 5), .ref (a 7), .ref (a 9), .ref (a 11), .ref (a 13), .int (nI pl), .int (nI go), .int hi, .int mi, .int re, .int lo])), ((a 1), .inr (0, [.ref (a 2), .int (nI N2.length)])), ((a 2), .inl (D.1 20, 40, .inl x0)), ((a 3), .inr (0, [.ref (a 4), .int (nI T2.length)])), ((a 4), .inl (D.1 20, 40, .inl x1)), ((a 5), .inr (0, [.ref (a 6), .int (nI A2.length)])), ((a 6), .inl (D.1 20, 40, .inl x2)), ((a 7), .inr (0, [.ref (a 8), .int (nI B.length)])), ((a 8), .inl (D.1 20, 40, .inl g3)), ((a 9), .inr (2, [.ref (a 10)])), ((a 10), .inl (D.1 20, 40, .inl g4)), ((a 11), .inr (2, [.ref (a 12)])), ((a 12), .inl (D.1 20, 40, .inl g5)), ((a 13), .inr (2, [.ref (a 14)])), ((a 14), .inl (D.1 20, 40, .inl g6)), ((b 0), .inr (1, [.ref (b 1), .ref (b 3), .ref (b 5), .ref (b 7), .ref (b 9), .ref (b 11), .ref (b 13), .int (nI pl2), .int (nI go2), .int hi2, .int mi2, .int re2, .int lo2])), ((b 1), .inr (0, [.ref (b 2), .int (nI N2.length)])), ((b 2), .inl (D.1 20, 40, .inl m0)), ((b 3), .inr (0, [.ref (b 4), .int (nI T2.length)])), ((b 4), .inl (D.1 20, 40, .inl m1)), ((b 5), .inr (0, [.ref (b 6), .int (nI A2.length)])), ((b 6), .inl (D.1 20, 40, .inl m2)), ((b 7), .inr (0, [.ref (b 8), .int (nI B2.length)])), ((b 8), .inl (D.1 20, 40, .inl m3)), ((b 9), .inr (2, [.ref (b 10)])), ((b 10), .inl (D.1 20, 40, .inl m4)), ((b 11), .inr (2, [.ref (b 12)])), ((b 12), .inl (D.1 20, 40, .inl m5)), ((b 13), .inr (2, [.ref (b 14)])), ((b 14), .inl (D.1 20, 40, .inl m6))]) (c_X0_become l D (a 5) (a 6) (b 5) (b 6) A A2 g2 m2 r2 (by omega)) cw_RX1_44 dX1_become_30 ⟨Nat.le_of_ble_eq_true rfl, Nat.le_of_ble_eq_true rfl, Nat.le_of_ble_eq_true rfl, Nat.le_of_ble_eq_true rfl⟩ rfl (Nat.le_of_ble_eq_true rfl) rfl rfl rfl (by decide) rfl (fun _ => Nat.le_of_ble_eq_true rfl) (fun _ => rfl) _ rfl (fun v x2 hp => ?_)
  obtain ⟨rfl, hx2⟩ := hp
  refine KJ.eqs (st' := []) rfl ?_
  refine k_aload_n hC 33 dX1_become_33 rfl ?_
  refine k_getf hC 34 0 3 dX1_become_34 rfl rfl inlX1 (by decide) wq_2_1 rfl ?_
  refine k_aload_n hC 37 dX1_become_37 rfl ?_
  refine k_getf hC 38 15 3 dX1_become_38 rfl rfl inlX1 (by decide) wq_2_1 rfl ?_
  refine k_callV hC 41 7 [7, 8, 22, 23] (fun x3 => [((a 0), .inr (1, [.ref (a 1), .ref (a 3), .ref (a 5), .ref (a 7), .ref (a 9), .ref (a 11), .ref (a 13), .int (nI pl), .int (nI go), .int hi, .int mi, .int re, .int lo])), ((a 1), .inr (0, [.ref (a 2), .int (nI N2.length)])), ((a 2), .inl (D.1 20, 40, .inl x0)), ((a 3), .inr (0, [.ref (a 4), .int (nI T2.length)])), ((a 4), .inl (D.1 20, 40, .inl x1)), ((a 5), .inr (0, [.ref (a 6), .int (nI A2.length)])), ((a 6), .inl (D.1 20, 40, .inl x2)), ((a 7), .inr (0, [.ref (a 8), .int (nI B2.length)])), ((a 8), .inl (D.1 20, 40, .inl x3)), ((a 9), .inr (2, [.ref (a 10)])), ((a 10), .inl (D.1 20, 40, .inl g4)), ((a 11), .inr (2, [.ref (a 12)])), ((a 12), .inl (D.1 20, 40, .inl g5)), ((a 13), .inr (2, [.ref (a 14)])), ((a 14), .inl (D.1 20, 40, .inl g6)), ((b 0), .inr (1, [.ref (b 1), .ref (b 3), .ref (b 5), .ref (b 7), .ref (b 9), .ref (b 11), .ref (b 13), .int (nI pl2), .int (nI go2), .int hi2, .int mi2, .int re2, .int lo2])), ((b 1), .inr (0, [.ref (b 2), .int (nI N2.length)])), ((b 2), .inl (D.1 20, 40, .inl m0)), ((b 3), .inr (0, [.ref (b 4), .int (nI T2.length)])), ((b 4), .inl (D.1 20, 40, .inl m1)), ((b 5), .inr (0, [.ref (b 6), .int (nI A2.length)])), ((b 6), .inl (D.1 20, 40, .inl m2)), ((b 7), .inr (0, [.ref (b 8), .int (nI B2.length)])), ((b 8), .inl (D.1 20, 40, .inl m3)), ((b 9), .inr (2, [.ref (b 10)])), ((b 10), .inl (D.1 20, 40, .inl m4)), ((b 11), .inr (2, [.ref (b 12)])), ((b 12), .inl (D.1 20, 40, .inl m5)), ((b 13), .inr (2, [.ref (b 14)])), ((b 14), .inl (D.1 20, 40, .inl m6))]) (c_X0_become l D (a 7) (a 8) (b 7) (b 8) B B2 g3 m3 r3 (by omega)) cw_RX1_44 dX1_become_41 ⟨Nat.le_of_ble_eq_true rfl, Nat.le_of_ble_eq_true rfl, Nat.le_of_ble_eq_true rfl, Nat.le_of_ble_eq_true rfl⟩ rfl (Nat.le_of_ble_eq_true rfl) rfl rfl rfl (by decide) rfl (fun _ => Nat.le_of_ble_eq_true rfl) (fun _ => rfl) _ rfl (fun v x3 hp => ?_)
  obtain ⟨rfl, hx3⟩ := hp
  refine KJ.eqs (st' := []) rfl ?_
  refine k_aload_n hC 44 dX1_become_44 rfl ?_
  refine k_getf hC 45 0 4 dX1_become_45 rfl rfl inlX1 (by decide) wq_2_5 rfl ?_
  refine k_aload_n hC 48 dX1_become_48 rfl ?_
  refine k_getf hC 49 15 4 dX1_become_49 rfl rfl inlX1 (by decide) wq_2_5 rfl ?_
  refine k_callV hC 52 9 [9, 10, 24, 25] (fun x4 => [((a 0), .inr (1, [.ref (a 1), .ref (a 3), .ref (a 5), .ref (a 7), .ref (a 9), .ref (a 11), .ref (a 13), .int (nI pl), .int (nI go), .int hi, .int mi, .int re, .int lo])), ((a 1), .inr (0, [.ref (a 2), .int (nI N2.length)])), ((a 2), .inl (D.1 20, 40, .inl x0)), ((a 3), .inr (0, [.ref (a 4), .int (nI T2.length)])), ((a 4), .inl (D.1 20, 40, .inl x1)), ((a 5), .inr (0, [.ref (a 6), .int (nI A2.length)])), ((a 6), .inl (D.1 20, 40, .inl x2)), ((a 7), .inr (0, [.ref (a 8), .int (nI B2.length)])), ((a 8), .inl (D.1 20, 40, .inl x3)), ((a 9), .inr (2, [.ref (a 10)])), ((a 10), .inl (D.1 20, 40, .inl x4)), ((a 11), .inr (2, [.ref (a 12)])), ((a 12), .inl (D.1 20, 40, .inl g5)), ((a 13), .inr (2, [.ref (a 14)])), ((a 14), .inl (D.1 20, 40, .inl g6)), ((b 0), .inr (1, [.ref (b 1), .ref (b 3), .ref (b 5), .ref (b 7), .ref (b 9), .ref (b 11), .ref (b 13), .int (nI pl2), .int (nI go2), .int hi2, .int mi2, .int re2, .int lo2])), ((b 1), .inr (0, [.ref (b 2), .int (nI N2.length)])), ((b 2), .inl (D.1 20, 40, .inl m0)), ((b 3), .inr (0, [.ref (b 4), .int (nI T2.length)])), ((b 4), .inl (D.1 20, 40, .inl m1)), ((b 5), .inr (0, [.ref (b 6), .int (nI A2.length)])), ((b 6), .inl (D.1 20, 40, .inl m2)), ((b 7), .inr (0, [.ref (b 8), .int (nI B2.length)])), ((b 8), .inl (D.1 20, 40, .inl m3)), ((b 9), .inr (2, [.ref (b 10)])), ((b 10), .inl (D.1 20, 40, .inl m4)), ((b 11), .inr (2, [.ref (b 12)])), ((b 12), .inl (D.1 20, 40, .inl m5)), ((b 13), .inr (2, [.ref (b 14)])), ((b 14), .inl (D.1 20, 40, .inl m6))]) (c_X2_become l D (a 9) (a 10) (b 9) (b 10) g4 m4) cw_RX1_48 dX1_become_52 ⟨Nat.le_of_ble_eq_true rfl, Nat.le_of_ble_eq_true rfl, Nat.le_of_ble_eq_true rfl, Nat.le_of_ble_eq_true rfl⟩ rfl (Nat.le_of_ble_eq_true rfl) rfl rfl rfl (by decide) rfl (fun _ => Nat.le_of_ble_eq_true rfl) (fun _ => rfl) _ rfl (fun v x4 hp => ?_)
  obtain ⟨rfl, hx4⟩ := hp
  refine KJ.eqs (st' := []) rfl ?_
  refine k_aload_n hC 55 dX1_become_55 rfl ?_
  refine k_getf hC 56 0 5 dX1_become_56 rfl rfl inlX1 (by decide) wq_2_6 rfl ?_
  refine k_aload_n hC 59 dX1_become_59 rfl ?_
  refine k_getf hC 60 15 5 dX1_become_60 rfl rfl inlX1 (by decide) wq_2_6 rfl ?_
  refine k_callV hC 63 11 [11, 12, 26, 27] (fun x5 => [((a 0), .inr (1, [.ref (a 1), .ref (a 3), .ref (a 5), .ref (a 7), .ref (a 9), .ref (a 11), .ref (a 13), .int (nI pl), .int (nI go), .int hi, .int mi, .int re, .int lo])), ((a 1), .inr (0, [.ref (a 2), .int (nI N2.length)])), ((a 2), .inl (D.1 20, 40, .inl x0)), ((a 3), .inr (0, [.ref (a 4), .int (nI T2.length)])), ((a 4), .inl (D.1 20, 40, .inl x1)), ((a 5), .inr (0, [.ref (a 6), .int (nI A2.length)])), ((a 6), .inl (D.1 20, 40, .inl x2)), ((a 7), .inr (0, [.ref (a 8), .int (nI B2.length)])), ((a 8), .inl (D.1 20, 40, .inl x3)), ((a 9), .inr (2, [.ref (a 10)])), ((a 10), .inl (D.1 20, 40, .inl x4)), ((a 11), .inr (2, [.ref (a 12)])), ((a 12), .inl (D.1 20, 40, .inl x5)), ((a 13), .inr (2, [.ref (a 14)])), ((a 14), .inl (D.1 20, 40, .inl g6)), ((b 0), .inr (1, [.ref (b 1), .ref (b 3), .ref (b 5), .ref (b 7), .ref (b 9), .ref (b 11), .ref (b 13), .int (nI pl2), .int (nI go2), .int hi2, .int mi2, .int re2, .int lo2])), ((b 1), .inr (0, [.ref (b 2), .int (nI N2.length)])), ((b 2), .inl (D.1 20, 40, .inl m0)), ((b 3), .inr (0, [.ref (b 4), .int (nI T2.length)])), ((b 4), .inl (D.1 20, 40, .inl m1)), ((b 5), .inr (0, [.ref (b 6), .int (nI A2.length)])), ((b 6), .inl (D.1 20, 40, .inl m2)), ((b 7), .inr (0, [.ref (b 8), .int (nI B2.length)])), ((b 8), .inl (D.1 20, 40, .inl m3)), ((b 9), .inr (2, [.ref (b 10)])), ((b 10), .inl (D.1 20, 40, .inl m4)), ((b 11), .inr (2, [.ref (b 12)])), ((b 12), .inl (D.1 20, 40, .inl m5)), ((b 13), .inr (2, [.ref (b 14)])), ((b 14), .inl (D.1 20, 40, .inl m6))]) (c_X2_become l D (a 11) (a 12) (b 11) (b 12) g5 m5) cw_RX1_48 dX1_become_63 ⟨Nat.le_of_ble_eq_true rfl, Nat.le_of_ble_eq_true rfl, Nat.le_of_ble_eq_true rfl, Nat.le_of_ble_eq_true rfl⟩ rfl (Nat.le_of_ble_eq_true rfl) rfl rfl rfl (by decide) rfl (fun _ => Nat.le_of_ble_eq_true rfl) (fun _ => rfl) _ rfl (fun v x5 hp => ?_)
  obtain ⟨rfl, hx5⟩ := hp
  refine KJ.eqs (st' := []) rfl ?_
  refine k_aload_n hC 66 dX1_become_66 rfl ?_
  refine k_getf hC 67 0 6 dX1_become_67 rfl rfl inlX1 (by decide) wq_2_7 rfl ?_
  refine k_aload_n hC 70 dX1_become_70 rfl ?_
  refine k_getf hC 71 15 6 dX1_become_71 rfl rfl inlX1 (by decide) wq_2_7 rfl ?_
  refine k_callV hC 74 13 [13, 14, 28, 29] (fun x6 => [((a 0), .inr (1, [.ref (a 1), .ref (a 3), .ref (a 5), .ref (a 7), .ref (a 9), .ref (a 11), .ref (a 13), .int (nI pl), .int (nI go), .int hi, .int mi, .int re, .int lo])), ((a 1), .inr (0, [.ref (a 2), .int (nI N2.length)])), ((a 2), .inl (D.1 20, 40, .inl x0)), ((a 3), .inr (0, [.ref (a 4), .int (nI T2.length)])), ((a 4), .inl (D.1 20, 40, .inl x1)), ((a 5), .inr (0, [.ref (a 6), .int (nI A2.length)])), ((a 6), .inl (D.1 20, 40, .inl x2)), ((a 7), .inr (0, [.ref (a 8), .int (nI B2.length)])), ((a 8), .inl (D.1 20, 40, .inl x3)), ((a 9), .inr (2, [.ref (a 10)])), ((a 10), .inl (D.1 20, 40, .inl x4)), ((a 11), .inr (2, [.ref (a 12)])), ((a 12), .inl (D.1 20, 40, .inl x5)), ((a 13), .inr (2, [.ref (a 14)])), ((a 14), .inl (D.1 20, 40, .inl x6)), ((b 0), .inr (1, [.ref (b 1), .ref (b 3), .ref (b 5), .ref (b 7), .ref (b 9), .ref (b 11), .ref (b 13), .int (nI pl2), .int (nI go2), .int hi2, .int mi2, .int re2, .int lo2])), ((b 1), .inr (0, [.ref (b 2), .int (nI N2.length)])), ((b 2), .inl (D.1 20, 40, .inl m0)), ((b 3), .inr (0, [.ref (b 4), .int (nI T2.length)])), ((b 4), .inl (D.1 20, 40, .inl m1)), ((b 5), .inr (0, [.ref (b 6), .int (nI A2.length)])), ((b 6), .inl (D.1 20, 40, .inl m2)), ((b 7), .inr (0, [.ref (b 8), .int (nI B2.length)])), ((b 8), .inl (D.1 20, 40, .inl m3)), ((b 9), .inr (2, [.ref (b 10)])), ((b 10), .inl (D.1 20, 40, .inl m4)), ((b 11), .inr (2, [.ref (b 12)])), ((b 12), .inl (D.1 20, 40, .inl m5)), ((b 13), .inr (2, [.ref (b 14)])), ((b 14), .inl (D.1 20, 40, .inl m6))]) (c_X2_become l D (a 13) (a 14) (b 13) (b 14) g6 m6) cw_RX1_48 dX1_become_74 ⟨Nat.le_of_ble_eq_true rfl, Nat.le_of_ble_eq_true rfl, Nat.le_of_ble_eq_true rfl, Nat.le_of_ble_eq_true rfl⟩ rfl (Nat.le_of_ble_eq_true rfl) rfl rfl rfl (by decide) rfl (fun _ => Nat.le_of_ble_eq_true rfl) (fun _ => rfl) _ rfl (fun v x6 hp => ?_)
  obtain ⟨rfl, hx6⟩ := hp
  refine KJ.eqs (st' := []) rfl ?_
  refine k_aload_n hC 77 dX1_become_77 rfl ?_
  refine k_aload_n hC 78 dX1_become_78 rfl ?_
  refine k_getf hC 79 15 7 dX1_become_79 rfl rfl inlX1 (by decide) wq_2_8 rfl ?_
  refine k_putf hC 82 (ty0 := tyX1) 0 7 [((a 0), .inr (1, [.ref (a 1), .ref (a 3), .ref (a 5), .ref (a 7), .ref (a 9), .ref (a 11), .ref (a 13), .int (nI pl2), .int (nI go), .int hi, .int mi, .int re, .int lo])), ((a 1), .inr (0, [.ref (a 2), .int (nI N2.length)])), ((a 2), .inl (D.1 20, 40, .inl x0)), ((a 3), .inr (0, [.ref (a 4), .int (nI T2.length)])), ((a 4), .inl (D.1 20, 40, .inl x1)), ((a 5), .inr (0, [.ref (a 6), .int (nI A2.length)])), ((a 6), .inl (D.1 20, 40, .inl x2)), ((a 7), .inr (0, [.ref (a 8), .int (nI B2.length)])), ((a 8), .inl (D.1 20, 40, .inl x3)), ((a 9), .inr (2, [.ref (a 10)])), ((a 10), .inl (D.1 20, 40, .inl x4)), ((a 11), .inr (2, [.ref (a 12)])), ((a 12), .inl (D.1 20, 40, .inl x5)), ((a 13), .inr (2, [.ref (a 14)])), ((a 14), .inl (D.1 20, 40, .inl x6)), ((b 0), .inr (1, [.ref (b 1), .ref (b 3), .ref (b 5), .ref (b 7), .ref (b 9), .ref (b 11), .ref (b 13), .int (nI pl2), .int (nI go2), .int hi2, .int mi2, .int re2, .int lo2])), ((b 1), .inr (0, [.ref (b 2), .int (nI N2.length)])), ((b 2), .inl (D.1 20, 40, .inl m0)), ((b 3), .inr (0, [.ref (b 4), .int (nI T2.length)])), ((b 4), .inl (D.1 20, 40, .inl m1)), ((b 5), .inr (0, [.ref (b 6), .int (nI A2.length)])), ((b 6), .inl (D.1 20, 40, .inl m2)), ((b 7), .inr (0, [.ref (b 8), .int (nI B2.length)])), ((b 8), .inl (D.1 20, 40, .inl m3)), ((b 9), .inr (2, [.ref (b 10)])), ((b 10), .inl (D.1 20, 40, .inl m4)), ((b 11), .inr (2, [.ref (b 12)])), ((b 12), .inl (D.1 20, 40, .inl m5)), ((b 13), .inr (2, [.ref (b 14)])), ((b 14), .inl (D.1 20, 40, .inl m6))] dX1_become_82 rfl rfl inlX1 tyX1_ok nmX1 (by decide) wq_2_8 rfl rfl rfl (Nat.le_of_ble_eq_true rfl) rfl ?_
  refine k_aload_n hC 85 dX1_become_85 rfl ?_
  refine k_aload_n hC 86 dX1_become_86 rfl ?_
  refine k_getf hC 87 15 8 dX1_become_87 rfl rfl inlX1 (by decide) wq_9_3 rfl ?_
  refine k_putf hC 90 (ty0 := tyX1) 0 8 [((a 0), .inr (1, [.ref (a 1), .ref (a 3), .ref (a 5), .ref (a 7), .ref (a 9), .ref (a 11), .ref (a 13), .int (nI pl2), .int (nI go2), .int hi, .int mi, .int re, .int lo])), ((a 1), .inr (0, [.ref (a 2), .int (nI N2.length)])), ((a 2), .inl (D.1 20, 40, .inl x0)), ((a 3), .inr (0, [.ref (a 4), .int (nI T2.length)])), ((a 4), .inl (D.1 20, 40, .inl x1)), ((a 5), .inr (0, [.ref (a 6), .int (nI A2.length)])), ((a 6), .inl (D.1 20, 40, .inl x2)), ((a 7), .inr (0, [.ref (a 8), .int (nI B2.length)])), ((a 8), .inl (D.1 20, 40, .inl x3)), ((a 9), .inr (2, [.ref (a 10)])), ((a 10), .inl (D.1 20, 40, .inl x4)), ((a 11), .inr (2, [.ref (a 12)])), ((a 12), .inl (D.1 20, 40, .inl x5)), ((a 13), .inr (2, [.ref (a 14)])), ((a 14), .inl (D.1 20, 40, .inl x6)), ((b 0), .inr (1, [.ref (b 1), .ref (b 3), .ref (b 5), .ref (b 7), .ref (b 9), .ref (b 11), .ref (b 13), .int (nI pl2), .int (nI go2), .int hi2, .int mi2, .int re2, .int lo2])), ((b 1), .inr (0, [.ref (b 2), .int (nI N2.length)])), ((b 2), .inl (D.1 20, 40, .inl m0)), ((b 3), .inr (0, [.ref (b 4), .int (nI T2.length)])), ((b 4), .inl (D.1 20, 40, .inl m1)), ((b 5), .inr (0, [.ref (b 6), .int (nI A2.length)])), ((b 6), .inl (D.1 20, 40, .inl m2)), ((b 7), .inr (0, [.ref (b 8), .int (nI B2.length)])), ((b 8), .inl (D.1 20, 40, .inl m3)), ((b 9), .inr (2, [.ref (b 10)])), ((b 10), .inl (D.1 20, 40, .inl m4)), ((b 11), .inr (2, [.ref (b 12)])), ((b 12), .inl (D.1 20, 40, .inl m5)), ((b 13), .inr (2, [.ref (b 14)])), ((b 14), .inl (D.1 20, 40, .inl m6))] dX1_become_90 rfl rfl inlX1 tyX1_ok nmX1 (by decide) wq_9_3 rfl rfl rfl (Nat.le_of_ble_eq_true rfl) rfl ?_
  refine k_aload_n hC 93 dX1_become_93 rfl ?_
  refine k_aload_n hC 94 dX1_become_94 rfl ?_
  refine k_getf hC 95 15 9 dX1_become_95 rfl rfl inlX1 (by decide) wq_11_10 rfl ?_
  refine k_putf hC 98 (ty0 := tyX1) 0 9 [((a 0), .inr (1, [.ref (a 1), .ref (a 3), .ref (a 5), .ref (a 7), .ref (a 9), .ref (a 11), .ref (a 13), .int (nI pl2), .int (nI go2), .int hi2, .int mi, .int re, .int lo])), ((a 1), .inr (0, [.ref (a 2), .int (nI N2.length)])), ((a 2), .inl (D.1 20, 40, .inl x0)), ((a 3), .inr (0, [.ref (a 4), .int (nI T2.length)])), ((a 4), .inl (D.1 20, 40, .inl x1)), ((a 5), .inr (0, [.ref (a 6), .int (nI A2.length)])), ((a 6), .inl (D.1 20, 40, .inl x2)), ((a 7), .inr (0, [.ref (a 8), .int (nI B2.length)])), ((a 8), .inl (D.1 20, 40, .inl x3)), ((a 9), .inr (2, [.ref (a 10)])), ((a 10), .inl (D.1 20, 40, .inl x4)), ((a 11), .inr (2, [.ref (a 12)])), ((a 12), .inl (D.1 20, 40, .inl x5)), ((a 13), .inr (2, [.ref (a 14)])), ((a 14), .inl (D.1 20, 40, .inl x6)), ((b 0), .inr (1, [.ref (b 1), .ref (b 3), .ref (b 5), .ref (b 7), .ref (b 9), .ref (b 11), .ref (b 13), .int (nI pl2), .int (nI go2), .int hi2, .int mi2, .int re2, .int lo2])), ((b 1), .inr (0, [.ref (b 2), .int (nI N2.length)])), ((b 2), .inl (D.1 20, 40, .inl m0)), ((b 3), .inr (0, [.ref (b 4), .int (nI T2.length)])), ((b 4), .inl (D.1 20, 40, .inl m1)), ((b 5), .inr (0, [.ref (b 6), .int (nI A2.length)])), ((b 6), .inl (D.1 20, 40, .inl m2)), ((b 7), .inr (0, [.ref (b 8), .int (nI B2.length)])), ((b 8), .inl (D.1 20, 40, .inl m3)), ((b 9), .inr (2, [.ref (b 10)])), ((b 10), .inl (D.1 20, 40, .inl m4)), ((b 11), .inr (2, [.ref (b 12)])), ((b 12), .inl (D.1 20, 40, .inl m5)), ((b 13), .inr (2, [.ref (b 14)])), ((b 14), .inl (D.1 20, 40, .inl m6))] dX1_become_98 rfl rfl inlX1 tyX1_ok nmX1 (by decide) wq_11_10 rfl rfl rfl (Nat.le_of_ble_eq_true rfl) rfl ?_
  refine k_aload_n hC 101 dX1_become_101 rfl ?_
  refine k_aload_n hC 102 dX1_become_102 rfl ?_
  refine k_getf hC 103 15 10 dX1_become_103 rfl rfl inlX1 (by decide) wq_11_15 rfl ?_
  refine k_putf hC 106 (ty0 := tyX1) 0 10 [((a 0), .inr (1, [.ref (a 1), .ref (a 3), .ref (a 5), .ref (a 7), .ref (a 9), .ref (a 11), .ref (a 13), .int (nI pl2), .int (nI go2), .int hi2, .int mi2, .int re, .int lo])), ((a 1), .inr (0, [.ref (a 2), .int (nI N2.length)])), ((a 2), .inl (D.1 20, 40, .inl x0)), ((a 3), .inr (0, [.ref (a 4), .int (nI T2.length)])), ((a 4), .inl (D.1 20, 40, .inl x1)), ((a 5), .inr (0, [.ref (a 6), .int (nI A2.length)])), ((a 6), .inl (D.1 20, 40, .inl x2)), ((a 7), .inr (0, [.ref (a 8), .int (nI B2.length)])), ((a 8), .inl (D.1 20, 40, .inl x3)), ((a 9), .inr (2, [.ref (a 10)])), ((a 10), .inl (D.1 20, 40, .inl x4)), ((a 11), .inr (2, [.ref (a 12)])), ((a 12), .inl (D.1 20, 40, .inl x5)), ((a 13), .inr (2, [.ref (a 14)])), ((a 14), .inl (D.1 20, 40, .inl x6)), ((b 0), .inr (1, [.ref (b 1), .ref (b 3), .ref (b 5), .ref (b 7), .ref (b 9), .ref (b 11), .ref (b 13), .int (nI pl2), .int (nI go2), .int hi2, .int mi2, .int re2, .int lo2])), ((b 1), .inr (0, [.ref (b 2), .int (nI N2.length)])), ((b 2), .inl (D.1 20, 40, .inl m0)), ((b 3), .inr (0, [.ref (b 4), .int (nI T2.length)])), ((b 4), .inl (D.1 20, 40, .inl m1)), ((b 5), .inr (0, [.ref (b 6), .int (nI A2.length)])), ((b 6), .inl (D.1 20, 40, .inl m2)), ((b 7), .inr (0, [.ref (b 8), .int (nI B2.length)])), ((b 8), .inl (D.1 20, 40, .inl m3)), ((b 9), .inr (2, [.ref (b 10)])), ((b 10), .inl (D.1 20, 40, .inl m4)), ((b 11), .inr (2, [.ref (b 12)])), ((b 12), .inl (D.1 20, 40, .inl m5)), ((b 13), .inr (2, [.ref (b 14)])), ((b 14), .inl (D.1 20, 40, .inl m6))] dX1_become_106 rfl rfl inlX1 tyX1_ok nmX1 (by decide) wq_11_15 rfl rfl rfl (Nat.le_of_ble_eq_true rfl) rfl ?_
  refine k_aload_n hC 109 dX1_become_109 rfl ?_
  refine k_aload_n hC 110 dX1_become_110 rfl ?_
  refine k_getf hC 111 15 11 dX1_become_111 rfl rfl inlX1 (by decide) wq_12_1 rfl ?_
  refine k_putf hC 114 (ty0 := tyX1) 0 11 [((a 0), .inr (1, [.ref (a 1), .ref (a 3), .ref (a 5), .ref (a 7), .ref (a 9), .ref (a 11), .ref (a 13), .int (nI pl2), .int (nI go2), .int hi2, .int mi2, .int re2, .int lo])), ((a 1), .inr (0, [.ref (a 2), .int (nI N2.length)])), ((a 2), .inl (D.1 20, 40, .inl x0)), ((a 3), .inr (0, [.ref (a 4), .int (nI T2.length)])), ((a 4), .inl (D.1 20, 40, .inl x1)), ((a 5), .inr (0, [.ref (a 6), .int (nI A2.length)])), ((a 6), .inl (D.1 20, 40, .inl x2)), ((a 7), .inr (0, [.ref (a 8), .int (nI B2.length)])), ((a 8), .inl (D.1 20, 40, .inl x3)), ((a 9), .inr (2, [.ref (a 10)])), ((a 10), .inl (D.1 20, 40, .inl x4)), ((a 11), .inr (2, [.ref (a 12)])), ((a 12), .inl (D.1 20, 40, .inl x5)), ((a 13), .inr (2, [.ref (a 14)])), ((a 14), .inl (D.1 20, 40, .inl x6)), ((b 0), .inr (1, [.ref (b 1), .ref (b 3), .ref (b 5), .ref (b 7), .ref (b 9), .ref (b 11), .ref (b 13), .int (nI pl2), .int (nI go2), .int hi2, .int mi2, .int re2, .int lo2])), ((b 1), .inr (0, [.ref (b 2), .int (nI N2.length)])), ((b 2), .inl (D.1 20, 40, .inl m0)), ((b 3), .inr (0, [.ref (b 4), .int (nI T2.length)])), ((b 4), .inl (D.1 20, 40, .inl m1)), ((b 5), .inr (0, [.ref (b 6), .int (nI A2.length)])), ((b 6), .inl (D.1 20, 40, .inl m2)), ((b 7), .inr (0, [.ref (b 8), .int (nI B2.length)])), ((b 8), .inl (D.1 20, 40, .inl m3)), ((b 9), .inr (2, [.ref (b 10)])), ((b 10), .inl (D.1 20, 40, .inl m4)), ((b 11), .inr (2, [.ref (b 12)])), ((b 12), .inl (D.1 20, 40, .inl m5)), ((b 13), .inr (2, [.ref (b 14)])), ((b 14), .inl (D.1 20, 40, .inl m6))] dX1_become_114 rfl rfl inlX1 tyX1_ok nmX1 (by decide) wq_12_1 rfl rfl rfl (Nat.le_of_ble_eq_true rfl) rfl ?_
  refine k_aload_n hC 117 dX1_become_117 rfl ?_
  refine k_aload_n hC 118 dX1_become_118 rfl ?_
  refine k_getf hC 119 15 12 dX1_become_119 rfl rfl inlX1 (by decide) wq_9_17 rfl ?_
  refine k_putf hC 122 (ty0 := tyX1) 0 12 [((a 0), .inr (1, [.ref (a 1), .ref (a 3), .ref (a 5), .ref (a 7), .ref (a 9), .ref (a 11), .ref (a 13), .int (nI pl2), .int (nI go2), .int hi2, .int mi2, .int re2, .int lo2])), ((a 1), .inr (0, [.ref (a 2), .int (nI N2.length)])), ((a 2), .inl (D.1 20, 40, .inl x0)), ((a 3), .inr (0, [.ref (a 4), .int (nI T2.length)])), ((a 4), .inl (D.1 20, 40, .inl x1)), ((a 5), .inr (0, [.ref (a 6), .int (nI A2.length)])), ((a 6), .inl (D.1 20, 40, .inl x2)), ((a 7), .inr (0, [.ref (a 8), .int (nI B2.length)])), ((a 8), .inl (D.1 20, 40, .inl x3)), ((a 9), .inr (2, [.ref (a 10)])), ((a 10), .inl (D.1 20, 40, .inl x4)), ((a 11), .inr (2, [.ref (a 12)])), ((a 12), .inl (D.1 20, 40, .inl x5)), ((a 13), .inr (2, [.ref (a 14)])), ((a 14), .inl (D.1 20, 40, .inl x6)), ((b 0), .inr (1, [.ref (b 1), .ref (b 3), .ref (b 5), .ref (b 7), .ref (b 9), .ref (b 11), .ref (b 13), .int (nI pl2), .int (nI go2), .int hi2, .int mi2, .int re2, .int lo2])), ((b 1), .inr (0, [.ref (b 2), .int (nI N2.length)])), ((b 2), .inl (D.1 20, 40, .inl m0)), ((b 3), .inr (0, [.ref (b 4), .int (nI T2.length)])), ((b 4), .inl (D.1 20, 40, .inl m1)), ((b 5), .inr (0, [.ref (b 6), .int (nI A2.length)])), ((b 6), .inl (D.1 20, 40, .inl m2)), ((b 7), .inr (0, [.ref (b 8), .int (nI B2.length)])), ((b 8), .inl (D.1 20, 40, .inl m3)), ((b 9), .inr (2, [.ref (b 10)])), ((b 10), .inl (D.1 20, 40, .inl m4)), ((b 11), .inr (2, [.ref (b 12)])), ((b 12), .inl (D.1 20, 40, .inl m5)), ((b 13), .inr (2, [.ref (b 14)])), ((b 14), .inl (D.1 20, 40, .inl m6))] dX1_become_122 rfl rfl inlX1 tyX1_ok nmX1 (by decide) wq_9_17 rfl rfl rfl (Nat.le_of_ble_eq_true rfl) rfl ?_
  exact k_vret hC hE 125 (x0, x1, x2, x3, x4, x5, x6) dX1_become_125 (⟨rfl, hx0, hx1, hx2, hx3, fun k hk => (hx4 k hk).trans (r4 k hk), fun k hk => (hx5 k hk).trans (r5 k hk), fun k hk => (hx6 k hk).trans (r6 k hk)⟩) rfl ⟨Nat.zero_le _, Nat.zero_le _⟩
set_option maxHeartbeats 4000000 in
set_option maxRecDepth 100000 in
/-- sweep -/
theorem c_X1_sweep (l : Launch) (D : va_G) (a : Nat → Nat) (N T A B : List Nat) (to pi : Nat → Nat) (fe : Nat → Int32) (pl go : Nat) (hi mi re lo : Int32) (g0 g1 g2 g3 g4 g5 g6 : Nat → Int32) (n : Nat) (s' : PS) (kk : Nat) (hS : SR (N, T, A, B, to, pi, fe, pl, go, hi, mi, re, lo) (g0, g1, g2, g3, g4, g5, g6)) (hW : WF (N, T, A, B, to, pi, fe, pl, go, hi, mi, re, lo)) (hn : n ≤ 1000) (hsw : swN n (N, T, A, B, to, pi, fe, pl, go, hi, mi, re, lo) = some (s', kk)) (hpj : pc pi N + pc pi T < N.length + T.length) : MU l yX1_sweep cX1_sweep 5 (some .int) 3 67 D [.ref (a 0)] [((a 0), .inr (1, [.ref (a 1), .ref (a 3), .ref (a 5), .ref (a 7), .ref (a 9), .ref (a 11), .ref (a 13), .int (nI pl), .int (nI go), .int hi, .int mi, .int re, .int lo])), ((a 1), .inr (0, [.ref (a 2), .int (nI N.length)])), ((a 2), .inl (D.1 20, 40, .inl g0)), ((a 3), .inr (0, [.ref (a 4), .int (nI T.length)])), ((a 4), .inl (D.1 20, 40, .inl g1)), ((a 5), .inr (0, [.ref (a 6), .int (nI A.length)])), ((a 6), .inl (D.1 20, 40, .inl g2)), ((a 7), .inr (0, [.ref (a 8), .int (nI B.length)])), ((a 8), .inl (D.1 20, 40, .inl g3)), ((a 9), .inr (2, [.ref (a 10)])), ((a 10), .inl (D.1 20, 40, .inl g4)), ((a 11), .inr (2, [.ref (a 12)])), ((a 12), .inl (D.1 20, 40, .inl g5)), ((a 13), .inr (2, [.ref (a 14)])), ((a 14), .inl (D.1 20, 40, .inl g6))] (fun v (u : PS × PG) => v = some (.int (nI kk)) ∧ u.1 = s' ∧ SR u.1 u.2) (fun u => wSt D a u.1 u.2) 0 0 := by
  refine MU.enter (by decide) [(0, .ref (a 0))] rfl (Nat.le_of_ble_eq_true rfl) (fun G hC hE => ?_)
  have hC : CX G D cX1_sweep RX1 5 := hC
  have hS0 := hS
  have hW0 := hW
  obtain ⟨r0, r1, r2, r3, r4, r5, r6⟩ := hS
  obtain ⟨kN, kT, kA, kB, nd, len, lA, lB, p2, p12, g12, t1, p9⟩ := hW
  refine k_aload_n hC 0 dX1_sweep_0 rfl ?_
  refine k_callVr hC 1 0 [0, 1, 2, 3, 4, 5, 6, 7, 8, 9, 10, 11, 12, 13, 14] (c_X1_pinnedJars l D a N T A B to pi fe pl go hi mi re lo g0 g1 g2 g3 g4 g5 g6 hS0 hW0) cw_RX1_91 dX1_sweep_1 ⟨Nat.le_of_ble_eq_true rfl, Nat.le_of_ble_eq_true rfl, Nat.le_of_ble_eq_true rfl, Nat.le_of_ble_eq_true rfl⟩ rfl (Nat.le_of_ble_eq_true rfl) rfl rfl rfl (by decide) rfl (fun _ => Nat.le_of_ble_eq_true rfl) (fun _ => rfl) _ rfl (fun v u hp => ?_)
  obtain rfl := hp
  refine KJ.eqs (st' := .int (nI (pc pi N + pc pi T)) :: []) rfl ?_
  refine k_aload_n hC 4 dX1_sweep_4 rfl ?_
  refine k_callVr hC 5 0 [0, 1, 2, 3, 4, 5, 6, 7, 8, 9, 10, 11, 12, 13, 14] (c_X1_jars l D a N T A B to pi fe pl go hi mi re lo g0 g1 g2 g3 g4 g5 g6 hS0 hW0) cw_RX1_87 dX1_sweep_5 ⟨Nat.le_of_ble_eq_true rfl, Nat.le_of_ble_eq_true rfl, Nat.le_of_ble_eq_true rfl, Nat.le_of_ble_eq_true rfl⟩ rfl (Nat.le_of_ble_eq_true rfl) rfl rfl rfl (by decide) rfl (fun _ => Nat.le_of_ble_eq_true rfl) (fun _ => rfl) _ rfl (fun v u hp => ?_)
  obtain rfl := hp
  refine KJ.eqs (st' := .int (nI (N.length + T.length)) :: .int (nI (pc pi N + pc pi T)) :: []) rfl ?_
  refine n_icmp_lt hC 8 13 dX1_sweep_8 (by decide) (by omega) (by omega) (fun h8 => ?_) (fun h8 => ?_)
  · skip
    refine k_iconst hC 13 dX1_sweep_13 (nI 0) (by decide) ?_
    refine k_istore_n hC 14 1 [(1, .int (nI 0)), (0, .ref (a 0))] dX1_sweep_14 rfl (by decide) rfl ?_
    skip
    have loop15 : ∀ (n15 : Nat) (n i : Nat) (N T A B : List Nat) (to pi : Nat → Nat) (fe : Nat → Int32) (pl go : Nat) (hi mi re lo : Int32) (g0 g1 g2 g3 g4 g5 g6 : Nat → Int32), n < n15 → n + i ≤ 1000 → SR (N, T, A, B, to, pi, fe, pl, go, hi, mi, re, lo) (g0, g1, g2, g3, g4, g5, g6) → WF (N, T, A, B, to, pi, fe, pl, go, hi, mi, re, lo) → swN n (N, T, A, B, to, pi, fe, pl, go, hi, mi, re, lo) = some (s', kk) → pc pi N + pc pi T < N.length + T.length → KJ l G D ({ frames := 3, cells := 0, slots := 0, locals := 67 } : Room) 5 0 0 [((a 0), .inr (1, [.ref (a 1), .ref (a 3), .ref (a 5), .ref (a 7), .ref (a 9), .ref (a 11), .ref (a 13), .int (nI pl), .int (nI go), .int hi, .int mi, .int re, .int lo])), ((a 1), .inr (0, [.ref (a 2), .int (nI N.length)])), ((a 2), .inl (D.1 20, 40, .inl g0)), ((a 3), .inr (0, [.ref (a 4), .int (nI T.length)])), ((a 4), .inl (D.1 20, 40, .inl g1)), ((a 5), .inr (0, [.ref (a 6), .int (nI A.length)])), ((a 6), .inl (D.1 20, 40, .inl g2)), ((a 7), .inr (0, [.ref (a 8), .int (nI B.length)])), ((a 8), .inl (D.1 20, 40, .inl g3)), ((a 9), .inr (2, [.ref (a 10)])), ((a 10), .inl (D.1 20, 40, .inl g4)), ((a 11), .inr (2, [.ref (a 12)])), ((a 12), .inl (D.1 20, 40, .inl g5)), ((a 13), .inr (2, [.ref (a 14)])), ((a 14), .inl (D.1 20, 40, .inl g6))] [(1, .int (nI i)), (0, .ref (a 0))] 15 [] := by
      intro n15
      induction n15 with
      | zero => intro n i N T A B to pi fe pl go hi mi re lo g0 g1 g2 g3 g4 g5 g6 h; exact absurd h (Nat.not_lt_zero _)
      | succ n15 ih15 =>
        intro n i N T A B to pi fe pl go hi mi re lo g0 g1 g2 g3 g4 g5 g6 hn15 hi2 hS hW hsw hpj
        obtain ⟨n, rfl⟩ := swN_pos hsw
        have hS0 := hS
        have hW0 := hW
        obtain ⟨r0, r1, r2, r3, r4, r5, r6⟩ := hS
        obtain ⟨kN, kT, kA, kB, nd, len, lA, lB, p2, p12, g12, t1, p9⟩ := hW
        refine k_iload_n hC 15 dX1_sweep_15 rfl ?_
        refine k_ldc hC 16 1000000 dX1_sweep_16 wq_9_16 (KJ.topi (y := nI 1000000) rfl ?_)
        refine n_icmp_ge hC 18 140 dX1_sweep_18 (by decide) (by omega) (by omega) (fun h18 => ?_) (fun h18 => ?_)
        · skip
          exact absurd h18 (by omega)
        · skip
          refine k_aload_n hC 21 dX1_sweep_21 rfl ?_
          refine k_callVr hC 22 0 [0, 1, 2, 3, 4, 5, 6, 7, 8, 9, 10, 11, 12, 13, 14] (c_X1_givingShelf l D a N T A B to pi fe pl go hi mi re lo g0 g1 g2 g3 g4 g5 g6 hS0 hW0) cw_RX1_138 dX1_sweep_22 ⟨Nat.le_of_ble_eq_true rfl, Nat.le_of_ble_eq_true rfl, Nat.le_of_ble_eq_true rfl, Nat.le_of_ble_eq_true rfl⟩ rfl (Nat.le_of_ble_eq_true rfl) rfl rfl rfl (by decide) rfl (fun _ => Nat.le_of_ble_eq_true rfl) (fun _ => rfl) _ rfl (fun v u hp => ?_)
          obtain rfl := hp
          refine KJ.eqs (st' := .int (nI (gv N T pi go)) :: []) rfl ?_
          rcases gv_01 N T pi go with hg | hg
          · skip
            rw [hg]
            obtain ⟨k, N', rfl⟩ := gv_0 hg
            have hk : k < 40 := kN k List.mem_cons_self
            have hX : KL N' := fun x hx => kN x (List.mem_cons_of_mem _ hx)
            have lX : N'.length + 1 = (k :: N').length := rfl
            refine k_istore_n hC 25 2 [(2, .int (nI 0)), (1, .int (nI i)), (0, .ref (a 0))] dX1_sweep_25 rfl (by decide) rfl ?_
            refine k_aload_n hC 26 dX1_sweep_26 rfl ?_
            refine k_iload_n hC 27 dX1_sweep_27 rfl ?_
            refine k_callVr hC 28 0 [0, 1, 2, 3, 4, 5, 6, 7, 8, 9, 10, 11, 12, 13, 14] (c_X1_rowOf0 l D a (k :: N') T A B to pi fe pl go hi mi re lo g0 g1 g2 g3 g4 g5 g6 hS0 hW0) cw_RX1_141 dX1_sweep_28 ⟨Nat.le_of_ble_eq_true rfl, Nat.le_of_ble_eq_true rfl, Nat.le_of_ble_eq_true rfl, Nat.le_of_ble_eq_true rfl⟩ rfl (Nat.le_of_ble_eq_true rfl) rfl rfl rfl (by decide) rfl (fun _ => Nat.le_of_ble_eq_true rfl) (fun _ => rfl) _ rfl (fun v u hp => ?_)
            obtain rfl := hp
            refine KJ.eqs (st' := .ref (a 1) :: []) rfl ?_
            refine k_astore_n hC 31 3 [(3, .ref (a 1)), (2, .int (nI 0)), (1, .int (nI i)), (0, .ref (a 0))] dX1_sweep_31 rfl (by decide) rfl ?_
            refine k_aload_n hC 32 dX1_sweep_32 rfl ?_
            refine k_iconst hC 33 dX1_sweep_33 (nI 0) (by decide) ?_
            refine k_callVr hC 34 1 [1, 2] (c_X0_at_in l D (a 1) (a 2) (k :: N') g0 0 r0 (by omega) kN (Nat.succ_pos _)) cw_RX1_77 dX1_sweep_34 ⟨Nat.le_of_ble_eq_true rfl, Nat.le_of_ble_eq_true rfl, Nat.le_of_ble_eq_true rfl, Nat.le_of_ble_eq_true rfl⟩ rfl (Nat.le_of_ble_eq_true rfl) rfl rfl rfl (by decide) rfl (fun _ => Nat.le_of_ble_eq_true rfl) (fun _ => rfl) _ rfl (fun v u hp => ?_)
            obtain rfl := hp
            refine KJ.eqs (st' := .int (nI ((k :: N').getD 0 0)) :: []) rfl ?_
            refine KJ.topi (y := (nI k)) rfl ?_
            refine k_istore hC 37 4 [(4, .int (nI k)), (3, .ref (a 1)), (2, .int (nI 0)), (1, .int (nI i)), (0, .ref (a 0))] dX1_sweep_37 (by decide) rfl ?_
            refine k_aload_n hC 39 dX1_sweep_39 rfl ?_
            refine k_iconst hC 40 dX1_sweep_40 (nI 0) (by decide) ?_
            refine k_callV hC 41 1 [1, 2] (fun x => [((a 0), .inr (1, [.ref (a 1), .ref (a 3), .ref (a 5), .ref (a 7), .ref (a 9), .ref (a 11), .ref (a 13), .int (nI pl), .int (nI go), .int hi, .int mi, .int re, .int lo])), ((a 1), .inr (0, [.ref (a 2), .int (nI N'.length)])), ((a 2), .inl (D.1 20, 40, .inl x)), ((a 3), .inr (0, [.ref (a 4), .int (nI T.length)])), ((a 4), .inl (D.1 20, 40, .inl g1)), ((a 5), .inr (0, [.ref (a 6), .int (nI A.length)])), ((a 6), .inl (D.1 20, 40, .inl g2)), ((a 7), .inr (0, [.ref (a 8), .int (nI B.length)])), ((a 8), .inl (D.1 20, 40, .inl g3)), ((a 9), .inr (2, [.ref (a 10)])), ((a 10), .inl (D.1 20, 40, .inl g4)), ((a 11), .inr (2, [.ref (a 12)])), ((a 12), .inl (D.1 20, 40, .inl g5)), ((a 13), .inr (2, [.ref (a 14)])), ((a 14), .inl (D.1 20, 40, .inl g6))]) (c_X0_takeOut l D (a 1) (a 2) (k :: N') g0 0 r0 (by omega) (Nat.succ_pos _)) cw_RX1_127 dX1_sweep_41 ⟨Nat.le_of_ble_eq_true rfl, Nat.le_of_ble_eq_true rfl, Nat.le_of_ble_eq_true rfl, Nat.le_of_ble_eq_true rfl⟩ rfl (Nat.le_of_ble_eq_true rfl) rfl rfl rfl (by decide) rfl (fun _ => Nat.le_of_ble_eq_true rfl) (fun _ => rfl) _ rfl (fun v x hp => ?_)
            obtain ⟨rfl, hx⟩ := hp
            have hx : RowL N' x := hx
            refine KJ.eqs (st' := []) rfl ?_
            refine k_aload_n hC 44 dX1_sweep_44 rfl ?_
            refine k_dup hC 45 dX1_sweep_45 rfl ?_
            refine k_getf hC 46 0 12 dX1_sweep_46 rfl rfl inlX1 (by decide) wq_9_17 rfl ?_
            refine k_iconst hC 49 dX1_sweep_49 (nI 1) (by decide) ?_
            refine k_iadd hC 50 dX1_sweep_50 (KJ.topi (y := (lo + 1)) rfl ?_)
            refine k_putf hC 51 (ty0 := tyX1) 0 12 [((a 0), .inr (1, [.ref (a 1), .ref (a 3), .ref (a 5), .ref (a 7), .ref (a 9), .ref (a 11), .ref (a 13), .int (nI pl), .int (nI go), .int hi, .int mi, .int re, .int (lo + 1)])), ((a 1), .inr (0, [.ref (a 2), .int (nI N'.length)])), ((a 2), .inl (D.1 20, 40, .inl x)), ((a 3), .inr (0, [.ref (a 4), .int (nI T.length)])), ((a 4), .inl (D.1 20, 40, .inl g1)), ((a 5), .inr (0, [.ref (a 6), .int (nI A.length)])), ((a 6), .inl (D.1 20, 40, .inl g2)), ((a 7), .inr (0, [.ref (a 8), .int (nI B.length)])), ((a 8), .inl (D.1 20, 40, .inl g3)), ((a 9), .inr (2, [.ref (a 10)])), ((a 10), .inl (D.1 20, 40, .inl g4)), ((a 11), .inr (2, [.ref (a 12)])), ((a 12), .inl (D.1 20, 40, .inl g5)), ((a 13), .inr (2, [.ref (a 14)])), ((a 14), .inl (D.1 20, 40, .inl g6))] dX1_sweep_51 rfl rfl inlX1 tyX1_ok nmX1 (by decide) wq_9_17 rfl rfl rfl (Nat.le_of_ble_eq_true rfl) rfl ?_
            refine k_aload_n hC 54 dX1_sweep_54 rfl ?_
            refine k_getf hC 55 0 5 dX1_sweep_55 rfl rfl inlX1 (by decide) wq_2_6 rfl ?_
            refine k_iload hC 58 dX1_sweep_58 rfl ?_
            refine k_callVr hC 60 11 [11, 12] (c_X2_of l D (a 11) (a 12) g5 k hk) cw_RX1_81 dX1_sweep_60 ⟨Nat.le_of_ble_eq_true rfl, Nat.le_of_ble_eq_true rfl, Nat.le_of_ble_eq_true rfl, Nat.le_of_ble_eq_true rfl⟩ rfl (Nat.le_of_ble_eq_true rfl) rfl rfl rfl (by decide) rfl (fun _ => Nat.le_of_ble_eq_true rfl) (fun _ => rfl) _ rfl (fun v u hp => ?_)
            obtain rfl := hp
            refine KJ.eqs (st' := .int (g5 k) :: []) rfl ?_
            refine KJ.topi (y := (nI (pi k))) (r5 k hk) ?_
            refine n_if_le hC 63 75 dX1_sweep_63 (by decide) (Nat.lt_of_le_of_lt (p9 k) (by decide)) (fun hp => ?_) (fun hp => ?_)
            · skip
              refine k_aload_n hC 75 dX1_sweep_75 rfl ?_
              refine k_getf hC 76 0 4 dX1_sweep_76 rfl rfl inlX1 (by decide) wq_2_5 rfl ?_
              refine k_iload hC 79 dX1_sweep_79 rfl ?_
              refine k_callVr hC 81 9 [9, 10] (c_X2_of l D (a 9) (a 10) g4 k hk) cw_RX1_81 dX1_sweep_81 ⟨Nat.le_of_ble_eq_true rfl, Nat.le_of_ble_eq_true rfl, Nat.le_of_ble_eq_true rfl, Nat.le_of_ble_eq_true rfl⟩ rfl (Nat.le_of_ble_eq_true rfl) rfl rfl rfl (by decide) rfl (fun _ => Nat.le_of_ble_eq_true rfl) (fun _ => rfl) _ rfl (fun v u hp => ?_)
              obtain rfl := hp
              refine KJ.eqs (st' := .int (g4 k) :: []) rfl ?_
              refine KJ.topi (y := (nI (to k))) (r4 k hk) ?_
              refine n_if_le hC 84 109 dX1_sweep_84 (by decide) (Nat.lt_of_le_of_lt (t1 k) (by decide)) (fun ht => ?_) (fun ht => ?_)
              · skip
                refine k_aload_n hC 109 dX1_sweep_109 rfl ?_
                refine k_iload_n hC 110 dX1_sweep_110 rfl ?_
                have e := lk_0l (A := A) (B := B) (to := to) (fe := fe) (pl := pl) (hi := hi) (mi := mi) (re := re) (lo := lo) hg hp ht
                refine k_callVr hC 111 0 [0, 1, 2, 3, 4, 5, 6, 7, 8, 9, 10, 11, 12, 13, 14] (c_X1_listOf0 l D a N' T A B to pi fe pl go hi mi re (lo + 1) x g1 g2 g3 g4 g5 g6 ⟨hx, r1, r2, r3, r4, r5, r6⟩ (wf_tl0 hW0)) cw_RX1_145 dX1_sweep_111 ⟨Nat.le_of_ble_eq_true rfl, Nat.le_of_ble_eq_true rfl, Nat.le_of_ble_eq_true rfl, Nat.le_of_ble_eq_true rfl⟩ rfl (Nat.le_of_ble_eq_true rfl) rfl rfl rfl (by decide) rfl (fun _ => Nat.le_of_ble_eq_true rfl) (fun _ => rfl) _ rfl (fun v u hp => ?_)
                obtain rfl := hp
                refine KJ.eqs (st' := .ref (a 5) :: []) rfl ?_
                refine k_iload hC 114 dX1_sweep_114 rfl ?_
                refine k_callV hC 116 5 [5, 6] (fun y => [((a 0), .inr (1, [.ref (a 1), .ref (a 3), .ref (a 5), .ref (a 7), .ref (a 9), .ref (a 11), .ref (a 13), .int (nI pl), .int (nI go), .int hi, .int mi, .int re, .int (lo + 1)])), ((a 1), .inr (0, [.ref (a 2), .int (nI N'.length)])), ((a 2), .inl (D.1 20, 40, .inl x)), ((a 3), .inr (0, [.ref (a 4), .int (nI T.length)])), ((a 4), .inl (D.1 20, 40, .inl g1)), ((a 5), .inr (0, [.ref (a 6), .int (nI ((A ++ [k]).length))])), ((a 6), .inl (D.1 20, 40, .inl y)), ((a 7), .inr (0, [.ref (a 8), .int (nI B.length)])), ((a 8), .inl (D.1 20, 40, .inl g3)), ((a 9), .inr (2, [.ref (a 10)])), ((a 10), .inl (D.1 20, 40, .inl g4)), ((a 11), .inr (2, [.ref (a 12)])), ((a 12), .inl (D.1 20, 40, .inl g5)), ((a 13), .inr (2, [.ref (a 14)])), ((a 14), .inl (D.1 20, 40, .inl g6))]) (c_X0_append l D (a 5) (a 6) A g2 k r2 (by omega) hk) cw_RX1_134 dX1_sweep_116 ⟨Nat.le_of_ble_eq_true rfl, Nat.le_of_ble_eq_true rfl, Nat.le_of_ble_eq_true rfl, Nat.le_of_ble_eq_true rfl⟩ rfl (Nat.le_of_ble_eq_true rfl) rfl rfl rfl (by decide) rfl (fun _ => Nat.le_of_ble_eq_true rfl) (fun _ => rfl) _ rfl (fun v y hp => ?_)
                obtain ⟨rfl, hy⟩ := hp
                refine KJ.eqs (st' := []) rfl ?_
                refine k_aload_n hC 119 dX1_sweep_119 rfl ?_
                refine k_iload_n hC 120 dX1_sweep_120 rfl ?_
                refine k_callVr hC 121 0 [0, 1, 2, 3, 4, 5, 6, 7, 8, 9, 10, 11, 12, 13, 14] (c_X1_listOf0q l D a N' T (A ++ [k]) B to pi fe pl go hi mi re (lo + 1) x g1 y g3 g4 g5 g6) cw_RX1_145 dX1_sweep_121 ⟨Nat.le_of_ble_eq_true rfl, Nat.le_of_ble_eq_true rfl, Nat.le_of_ble_eq_true rfl, Nat.le_of_ble_eq_true rfl⟩ rfl (Nat.le_of_ble_eq_true rfl) rfl rfl rfl (by decide) rfl (fun _ => Nat.le_of_ble_eq_true rfl) (fun _ => rfl) _ rfl (fun v u hp => ?_)
                obtain rfl := hp
                refine KJ.eqs (st' := .ref (a 5) :: []) rfl ?_
                refine k_aload_n hC 124 dX1_sweep_124 rfl ?_
                refine k_getf hC 125 0 7 dX1_sweep_125 rfl rfl inlX1 (by decide) wq_2_8 rfl ?_
                refine k_callV hC 128 5 [5, 6] (fun z => [((a 0), .inr (1, [.ref (a 1), .ref (a 3), .ref (a 5), .ref (a 7), .ref (a 9), .ref (a 11), .ref (a 13), .int (nI pl), .int (nI go), .int hi, .int mi, .int re, .int (lo + 1)])), ((a 1), .inr (0, [.ref (a 2), .int (nI N'.length)])), ((a 2), .inl (D.1 20, 40, .inl x)), ((a 3), .inr (0, [.ref (a 4), .int (nI T.length)])), ((a 4), .inl (D.1 20, 40, .inl g1)), ((a 5), .inr (0, [.ref (a 6), .int (nI ((tr pl (A ++ [k])).length))])), ((a 6), .inl (D.1 20, 40, .inl z)), ((a 7), .inr (0, [.ref (a 8), .int (nI B.length)])), ((a 8), .inl (D.1 20, 40, .inl g3)), ((a 9), .inr (2, [.ref (a 10)])), ((a 10), .inl (D.1 20, 40, .inl g4)), ((a 11), .inr (2, [.ref (a 12)])), ((a 12), .inl (D.1 20, 40, .inl g5)), ((a 13), .inr (2, [.ref (a 14)])), ((a 14), .inl (D.1 20, 40, .inl g6))]) (c_X0_forgetEldest l D (a 5) (a 6) (A ++ [k]) y pl hy (by rw [List.length_append, List.length_singleton]; omega) (kA.push hk) (by omega)) cw_RX1_148 dX1_sweep_128 ⟨Nat.le_of_ble_eq_true rfl, Nat.le_of_ble_eq_true rfl, Nat.le_of_ble_eq_true rfl, Nat.le_of_ble_eq_true rfl⟩ rfl (Nat.le_of_ble_eq_true rfl) rfl rfl rfl (by decide) rfl (fun _ => Nat.le_of_ble_eq_true rfl) (fun _ => rfl) _ rfl (fun v z hp => ?_)
                obtain ⟨rfl, hz⟩ := hp
                refine KJ.eqs (st' := []) rfl ?_
                refine k_iload hC 131 dX1_sweep_131 rfl ?_
                exact k_iret hC hE 133 ((N', T, (tr pl (A ++ [k])), B, to, pi, fe, pl, go, hi, mi, re, lo + 1), (x, g1, z, g3, g4, g5, g6)) dX1_sweep_133 rfl (⟨by rw [(swN_e hsw e).2], (swN_e hsw e).1, hx, r1, hz, r3, r4, r5, r6⟩) rfl ⟨Nat.zero_le _, Nat.zero_le _⟩
              · skip
                refine k_aload_n hC 87 dX1_sweep_87 rfl ?_
                refine k_getf hC 88 0 4 dX1_sweep_88 rfl rfl inlX1 (by decide) wq_2_5 rfl ?_
                refine k_iload hC 91 dX1_sweep_91 rfl ?_
                refine k_iconst hC 93 dX1_sweep_93 (nI 0) (by decide) ?_
                refine k_callV hC 94 9 [9, 10] (fun _ => [((a 0), .inr (1, [.ref (a 1), .ref (a 3), .ref (a 5), .ref (a 7), .ref (a 9), .ref (a 11), .ref (a 13), .int (nI pl), .int (nI go), .int hi, .int mi, .int re, .int (lo + 1)])), ((a 1), .inr (0, [.ref (a 2), .int (nI N'.length)])), ((a 2), .inl (D.1 20, 40, .inl x)), ((a 3), .inr (0, [.ref (a 4), .int (nI T.length)])), ((a 4), .inl (D.1 20, 40, .inl g1)), ((a 5), .inr (0, [.ref (a 6), .int (nI A.length)])), ((a 6), .inl (D.1 20, 40, .inl g2)), ((a 7), .inr (0, [.ref (a 8), .int (nI B.length)])), ((a 8), .inl (D.1 20, 40, .inl g3)), ((a 9), .inr (2, [.ref (a 10)])), ((a 10), .inl (D.1 20, 40, .inl (upd g4 k (nI 0)))), ((a 11), .inr (2, [.ref (a 12)])), ((a 12), .inl (D.1 20, 40, .inl g5)), ((a 13), .inr (2, [.ref (a 14)])), ((a 14), .inl (D.1 20, 40, .inl g6))]) (c_X2_put l D (a 9) (a 10) g4 k (nI 0) hk) cw_RX1_97 dX1_sweep_94 ⟨Nat.le_of_ble_eq_true rfl, Nat.le_of_ble_eq_true rfl, Nat.le_of_ble_eq_true rfl, Nat.le_of_ble_eq_true rfl⟩ rfl (Nat.le_of_ble_eq_true rfl) rfl rfl rfl (by decide) rfl (fun _ => Nat.le_of_ble_eq_true rfl) (fun _ => rfl) _ rfl (fun v _ hp => ?_)
                obtain rfl := hp
                refine KJ.eqs (st' := []) rfl ?_
                refine k_aload_n hC 97 dX1_sweep_97 rfl ?_
                refine k_getf hC 98 0 1 dX1_sweep_98 rfl rfl inlX1 (by decide) wq_1_23 rfl ?_
                refine k_iload hC 101 dX1_sweep_101 rfl ?_
                refine k_callV hC 103 3 [3, 4] (fun y => [((a 0), .inr (1, [.ref (a 1), .ref (a 3), .ref (a 5), .ref (a 7), .ref (a 9), .ref (a 11), .ref (a 13), .int (nI pl), .int (nI go), .int hi, .int mi, .int re, .int (lo + 1)])), ((a 1), .inr (0, [.ref (a 2), .int (nI N'.length)])), ((a 2), .inl (D.1 20, 40, .inl x)), ((a 3), .inr (0, [.ref (a 4), .int (nI ((T ++ [k]).length))])), ((a 4), .inl (D.1 20, 40, .inl y)), ((a 5), .inr (0, [.ref (a 6), .int (nI A.length)])), ((a 6), .inl (D.1 20, 40, .inl g2)), ((a 7), .inr (0, [.ref (a 8), .int (nI B.length)])), ((a 8), .inl (D.1 20, 40, .inl g3)), ((a 9), .inr (2, [.ref (a 10)])), ((a 10), .inl (D.1 20, 40, .inl (upd g4 k (nI 0)))), ((a 11), .inr (2, [.ref (a 12)])), ((a 12), .inl (D.1 20, 40, .inl g5)), ((a 13), .inr (2, [.ref (a 14)])), ((a 14), .inl (D.1 20, 40, .inl g6))]) (c_X0_append l D (a 3) (a 4) T g1 k r1 (by omega) hk) cw_RX1_134 dX1_sweep_103 ⟨Nat.le_of_ble_eq_true rfl, Nat.le_of_ble_eq_true rfl, Nat.le_of_ble_eq_true rfl, Nat.le_of_ble_eq_true rfl⟩ rfl (Nat.le_of_ble_eq_true rfl) rfl rfl rfl (by decide) rfl (fun _ => Nat.le_of_ble_eq_true rfl) (fun _ => rfl) _ rfl (fun v y hp => ?_)
                obtain ⟨rfl, hy⟩ := hp
                refine KJ.eqs (st' := []) rfl ?_
                refine k_goto hC 106 134 dX1_sweep_106 (by decide) ?_
                refine k_iinc hC 134 3 (nI (i + 1)) [(1, .int (nI (i + 1))), (4, .int (nI k)), (3, .ref (a 1)), (2, .int (nI 0)), (0, .ref (a 0))] dX1_sweep_134 rfl (nI_1 _) (by decide) rfl ?_
                refine k_goto hC 137 15 dX1_sweep_137 (by decide) ?_
                refine KJ.lvp [0, 4] rfl ?_
                have e := lk_0t (A := A) (B := B) (to := to) (fe := fe) (pl := pl) (hi := hi) (mi := mi) (re := re) (lo := lo) hg hp ht
                have w2 := lk_wf hW0 hpj
                have j2 := lk_pj (s := ((k :: N'), T, A, B, to, pi, fe, pl, go, hi, mi, re, lo)) hpj
                rw [e] at w2 j2
                exact ih15 n (i + 1) N' (T ++ [k]) A B (va_up to k 0) pi fe pl go hi mi re (lo + 1) x y g2 g3 (upd g4 k (nI 0)) g5 g6 (by omega) (by omega) ⟨hx, hy, r2, r3, tup r4 k 0, r5, r6⟩ w2 (swN_n hsw e) (by have j3 := j2.1; have j4 := j2.2.1; simp only [pnd, jrs, if_true] at j3 j4; omega)
            · skip
              refine k_aload_n hC 66 dX1_sweep_66 rfl ?_
              refine k_iload hC 67 dX1_sweep_67 rfl ?_
              refine k_callV hC 69 1 [1, 2] (fun y => [((a 0), .inr (1, [.ref (a 1), .ref (a 3), .ref (a 5), .ref (a 7), .ref (a 9), .ref (a 11), .ref (a 13), .int (nI pl), .int (nI go), .int hi, .int mi, .int re, .int (lo + 1)])), ((a 1), .inr (0, [.ref (a 2), .int (nI ((N' ++ [k]).length))])), ((a 2), .inl (D.1 20, 40, .inl y)), ((a 3), .inr (0, [.ref (a 4), .int (nI T.length)])), ((a 4), .inl (D.1 20, 40, .inl g1)), ((a 5), .inr (0, [.ref (a 6), .int (nI A.length)])), ((a 6), .inl (D.1 20, 40, .inl g2)), ((a 7), .inr (0, [.ref (a 8), .int (nI B.length)])), ((a 8), .inl (D.1 20, 40, .inl g3)), ((a 9), .inr (2, [.ref (a 10)])), ((a 10), .inl (D.1 20, 40, .inl g4)), ((a 11), .inr (2, [.ref (a 12)])), ((a 12), .inl (D.1 20, 40, .inl g5)), ((a 13), .inr (2, [.ref (a 14)])), ((a 14), .inl (D.1 20, 40, .inl g6))]) (c_X0_append l D (a 1) (a 2) N' x k hx (by omega) hk) cw_RX1_134 dX1_sweep_69 ⟨Nat.le_of_ble_eq_true rfl, Nat.le_of_ble_eq_true rfl, Nat.le_of_ble_eq_true rfl, Nat.le_of_ble_eq_true rfl⟩ rfl (Nat.le_of_ble_eq_true rfl) rfl rfl rfl (by decide) rfl (fun _ => Nat.le_of_ble_eq_true rfl) (fun _ => rfl) _ rfl (fun v y hp => ?_)
              obtain ⟨rfl, hy⟩ := hp
              refine KJ.eqs (st' := []) rfl ?_
              refine k_goto hC 72 134 dX1_sweep_72 (by decide) ?_
              refine k_iinc hC 134 3 (nI (i + 1)) [(1, .int (nI (i + 1))), (4, .int (nI k)), (3, .ref (a 1)), (2, .int (nI 0)), (0, .ref (a 0))] dX1_sweep_134 rfl (nI_1 _) (by decide) rfl ?_
              refine k_goto hC 137 15 dX1_sweep_137 (by decide) ?_
              refine KJ.lvp [0, 4] rfl ?_
              have e := lk_0p (A := A) (B := B) (to := to) (fe := fe) (pl := pl) (hi := hi) (mi := mi) (re := re) (lo := lo) hg hp
              have w2 := lk_wf hW0 hpj
              have j2 := lk_pj (s := ((k :: N'), T, A, B, to, pi, fe, pl, go, hi, mi, re, lo)) hpj
              rw [e] at w2 j2
              exact ih15 n (i + 1) (N' ++ [k]) T A B to pi fe pl go hi mi re (lo + 1) y g1 g2 g3 g4 g5 g6 (by omega) (by omega) ⟨hy, r1, r2, r3, r4, r5, r6⟩ w2 (swN_n hsw e) (by have j3 := j2.1; have j4 := j2.2.1; simp only [pnd, jrs, if_true] at j3 j4; omega)
          · skip
            rw [hg]
            obtain ⟨k, T', rfl⟩ := gv_1 hg hpj
            have hk : k < 40 := kT k List.mem_cons_self
            have hX : KL T' := fun x hx => kT x (List.mem_cons_of_mem _ hx)
            have lX : T'.length + 1 = (k :: T').length := rfl
            refine k_istore_n hC 25 2 [(2, .int (nI 1)), (1, .int (nI i)), (0, .ref (a 0))] dX1_sweep_25 rfl (by decide) rfl ?_
            refine k_aload_n hC 26 dX1_sweep_26 rfl ?_
            refine k_iload_n hC 27 dX1_sweep_27 rfl ?_
            refine k_callVr hC 28 0 [0, 1, 2, 3, 4, 5, 6, 7, 8, 9, 10, 11, 12, 13, 14] (c_X1_rowOf1 l D a N (k :: T') A B to pi fe pl go hi mi re lo g0 g1 g2 g3 g4 g5 g6 hS0 hW0) cw_RX1_141 dX1_sweep_28 ⟨Nat.le_of_ble_eq_true rfl, Nat.le_of_ble_eq_true rfl, Nat.le_of_ble_eq_true rfl, Nat.le_of_ble_eq_true rfl⟩ rfl (Nat.le_of_ble_eq_true rfl) rfl rfl rfl (by decide) rfl (fun _ => Nat.le_of_ble_eq_true rfl) (fun _ => rfl) _ rfl (fun v u hp => ?_)
            obtain rfl := hp
            refine KJ.eqs (st' := .ref (a 3) :: []) rfl ?_
            refine k_astore_n hC 31 3 [(3, .ref (a 3)), (2, .int (nI 1)), (1, .int (nI i)), (0, .ref (a 0))] dX1_sweep_31 rfl (by decide) rfl ?_
            refine k_aload_n hC 32 dX1_sweep_32 rfl ?_
            refine k_iconst hC 33 dX1_sweep_33 (nI 0) (by decide) ?_
            refine k_callVr hC 34 3 [3, 4] (c_X0_at_in l D (a 3) (a 4) (k :: T') g1 0 r1 (by omega) kT (Nat.succ_pos _)) cw_RX1_77 dX1_sweep_34 ⟨Nat.le_of_ble_eq_true rfl, Nat.le_of_ble_eq_true rfl, Nat.le_of_ble_eq_true rfl, Nat.le_of_ble_eq_true rfl⟩ rfl (Nat.le_of_ble_eq_true rfl) rfl rfl rfl (by decide) rfl (fun _ => Nat.le_of_ble_eq_true rfl) (fun _ => rfl) _ rfl (fun v u hp => ?_)
            obtain rfl := hp
            refine KJ.eqs (st' := .int (nI ((k :: T').getD 0 0)) :: []) rfl ?_
            refine KJ.topi (y := (nI k)) rfl ?_
            refine k_istore hC 37 4 [(4, .int (nI k)), (3, .ref (a 3)), (2, .int (nI 1)), (1, .int (nI i)), (0, .ref (a 0))] dX1_sweep_37 (by decide) rfl ?_
            refine k_aload_n hC 39 dX1_sweep_39 rfl ?_
            refine k_iconst hC 40 dX1_sweep_40 (nI 0) (by decide) ?_
            refine k_callV hC 41 3 [3, 4] (fun x => [((a 0), .inr (1, [.ref (a 1), .ref (a 3), .ref (a 5), .ref (a 7), .ref (a 9), .ref (a 11), .ref (a 13), .int (nI pl), .int (nI go), .int hi, .int mi, .int re, .int lo])), ((a 1), .inr (0, [.ref (a 2), .int (nI N.length)])), ((a 2), .inl (D.1 20, 40, .inl g0)), ((a 3), .inr (0, [.ref (a 4), .int (nI T'.length)])), ((a 4), .inl (D.1 20, 40, .inl x)), ((a 5), .inr (0, [.ref (a 6), .int (nI A.length)])), ((a 6), .inl (D.1 20, 40, .inl g2)), ((a 7), .inr (0, [.ref (a 8), .int (nI B.length)])), ((a 8), .inl (D.1 20, 40, .inl g3)), ((a 9), .inr (2, [.ref (a 10)])), ((a 10), .inl (D.1 20, 40, .inl g4)), ((a 11), .inr (2, [.ref (a 12)])), ((a 12), .inl (D.1 20, 40, .inl g5)), ((a 13), .inr (2, [.ref (a 14)])), ((a 14), .inl (D.1 20, 40, .inl g6))]) (c_X0_takeOut l D (a 3) (a 4) (k :: T') g1 0 r1 (by omega) (Nat.succ_pos _)) cw_RX1_127 dX1_sweep_41 ⟨Nat.le_of_ble_eq_true rfl, Nat.le_of_ble_eq_true rfl, Nat.le_of_ble_eq_true rfl, Nat.le_of_ble_eq_true rfl⟩ rfl (Nat.le_of_ble_eq_true rfl) rfl rfl rfl (by decide) rfl (fun _ => Nat.le_of_ble_eq_true rfl) (fun _ => rfl) _ rfl (fun v x hp => ?_)
            obtain ⟨rfl, hx⟩ := hp
            have hx : RowL T' x := hx
            refine KJ.eqs (st' := []) rfl ?_
            refine k_aload_n hC 44 dX1_sweep_44 rfl ?_
            refine k_dup hC 45 dX1_sweep_45 rfl ?_
            refine k_getf hC 46 0 12 dX1_sweep_46 rfl rfl inlX1 (by decide) wq_9_17 rfl ?_
            refine k_iconst hC 49 dX1_sweep_49 (nI 1) (by decide) ?_
            refine k_iadd hC 50 dX1_sweep_50 (KJ.topi (y := (lo + 1)) rfl ?_)
            refine k_putf hC 51 (ty0 := tyX1) 0 12 [((a 0), .inr (1, [.ref (a 1), .ref (a 3), .ref (a 5), .ref (a 7), .ref (a 9), .ref (a 11), .ref (a 13), .int (nI pl), .int (nI go), .int hi, .int mi, .int re, .int (lo + 1)])), ((a 1), .inr (0, [.ref (a 2), .int (nI N.length)])), ((a 2), .inl (D.1 20, 40, .inl g0)), ((a 3), .inr (0, [.ref (a 4), .int (nI T'.length)])), ((a 4), .inl (D.1 20, 40, .inl x)), ((a 5), .inr (0, [.ref (a 6), .int (nI A.length)])), ((a 6), .inl (D.1 20, 40, .inl g2)), ((a 7), .inr (0, [.ref (a 8), .int (nI B.length)])), ((a 8), .inl (D.1 20, 40, .inl g3)), ((a 9), .inr (2, [.ref (a 10)])), ((a 10), .inl (D.1 20, 40, .inl g4)), ((a 11), .inr (2, [.ref (a 12)])), ((a 12), .inl (D.1 20, 40, .inl g5)), ((a 13), .inr (2, [.ref (a 14)])), ((a 14), .inl (D.1 20, 40, .inl g6))] dX1_sweep_51 rfl rfl inlX1 tyX1_ok nmX1 (by decide) wq_9_17 rfl rfl rfl (Nat.le_of_ble_eq_true rfl) rfl ?_
            refine k_aload_n hC 54 dX1_sweep_54 rfl ?_
            refine k_getf hC 55 0 5 dX1_sweep_55 rfl rfl inlX1 (by decide) wq_2_6 rfl ?_
            refine k_iload hC 58 dX1_sweep_58 rfl ?_
            refine k_callVr hC 60 11 [11, 12] (c_X2_of l D (a 11) (a 12) g5 k hk) cw_RX1_81 dX1_sweep_60 ⟨Nat.le_of_ble_eq_true rfl, Nat.le_of_ble_eq_true rfl, Nat.le_of_ble_eq_true rfl, Nat.le_of_ble_eq_true rfl⟩ rfl (Nat.le_of_ble_eq_true rfl) rfl rfl rfl (by decide) rfl (fun _ => Nat.le_of_ble_eq_true rfl) (fun _ => rfl) _ rfl (fun v u hp => ?_)
            obtain rfl := hp
            refine KJ.eqs (st' := .int (g5 k) :: []) rfl ?_
            refine KJ.topi (y := (nI (pi k))) (r5 k hk) ?_
            refine n_if_le hC 63 75 dX1_sweep_63 (by decide) (Nat.lt_of_le_of_lt (p9 k) (by decide)) (fun hp => ?_) (fun hp => ?_)
            · skip
              refine k_aload_n hC 75 dX1_sweep_75 rfl ?_
              refine k_getf hC 76 0 4 dX1_sweep_76 rfl rfl inlX1 (by decide) wq_2_5 rfl ?_
              refine k_iload hC 79 dX1_sweep_79 rfl ?_
              refine k_callVr hC 81 9 [9, 10] (c_X2_of l D (a 9) (a 10) g4 k hk) cw_RX1_81 dX1_sweep_81 ⟨Nat.le_of_ble_eq_true rfl, Nat.le_of_ble_eq_true rfl, Nat.le_of_ble_eq_true rfl, Nat.le_of_ble_eq_true rfl⟩ rfl (Nat.le_of_ble_eq_true rfl) rfl rfl rfl (by decide) rfl (fun _ => Nat.le_of_ble_eq_true rfl) (fun _ => rfl) _ rfl (fun v u hp => ?_)
              obtain rfl := hp
              refine KJ.eqs (st' := .int (g4 k) :: []) rfl ?_
              refine KJ.topi (y := (nI (to k))) (r4 k hk) ?_
              refine n_if_le hC 84 109 dX1_sweep_84 (by decide) (Nat.lt_of_le_of_lt (t1 k) (by decide)) (fun ht => ?_) (fun ht => ?_)
              · skip
                refine k_aload_n hC 109 dX1_sweep_109 rfl ?_
                refine k_iload_n hC 110 dX1_sweep_110 rfl ?_
                have e := lk_1l (A := A) (B := B) (to := to) (fe := fe) (pl := pl) (hi := hi) (mi := mi) (re := re) (lo := lo) hg hp ht
                refine k_callVr hC 111 0 [0, 1, 2, 3, 4, 5, 6, 7, 8, 9, 10, 11, 12, 13, 14] (c_X1_listOf1 l D a N T' A B to pi fe pl go hi mi re (lo + 1) g0 x g2 g3 g4 g5 g6 ⟨r0, hx, r2, r3, r4, r5, r6⟩ (wf_tl1 hW0)) cw_RX1_145 dX1_sweep_111 ⟨Nat.le_of_ble_eq_true rfl, Nat.le_of_ble_eq_true rfl, Nat.le_of_ble_eq_true rfl, Nat.le_of_ble_eq_true rfl⟩ rfl (Nat.le_of_ble_eq_true rfl) rfl rfl rfl (by decide) rfl (fun _ => Nat.le_of_ble_eq_true rfl) (fun _ => rfl) _ rfl (fun v u hp => ?_)
                obtain rfl := hp
                refine KJ.eqs (st' := .ref (a 7) :: []) rfl ?_
                refine k_iload hC 114 dX1_sweep_114 rfl ?_
                refine k_callV hC 116 7 [7, 8] (fun y => [((a 0), .inr (1, [.ref (a 1), .ref (a 3), .ref (a 5), .ref (a 7), .ref (a 9), .ref (a 11), .ref (a 13), .int (nI pl), .int (nI go), .int hi, .int mi, .int re, .int (lo + 1)])), ((a 1), .inr (0, [.ref (a 2), .int (nI N.length)])), ((a 2), .inl (D.1 20, 40, .inl g0)), ((a 3), .inr (0, [.ref (a 4), .int (nI T'.length)])), ((a 4), .inl (D.1 20, 40, .inl x)), ((a 5), .inr (0, [.ref (a 6), .int (nI A.length)])), ((a 6), .inl (D.1 20, 40, .inl g2)), ((a 7), .inr (0, [.ref (a 8), .int (nI ((B ++ [k]).length))])), ((a 8), .inl (D.1 20, 40, .inl y)), ((a 9), .inr (2, [.ref (a 10)])), ((a 10), .inl (D.1 20, 40, .inl g4)), ((a 11), .inr (2, [.ref (a 12)])), ((a 12), .inl (D.1 20, 40, .inl g5)), ((a 13), .inr (2, [.ref (a 14)])), ((a 14), .inl (D.1 20, 40, .inl g6))]) (c_X0_append l D (a 7) (a 8) B g3 k r3 (by omega) hk) cw_RX1_134 dX1_sweep_116 ⟨Nat.le_of_ble_eq_true rfl, Nat.le_of_ble_eq_true rfl, Nat.le_of_ble_eq_true rfl, Nat.le_of_ble_eq_true rfl⟩ rfl (Nat.le_of_ble_eq_true rfl) rfl rfl rfl (by decide) rfl (fun _ => Nat.le_of_ble_eq_true rfl) (fun _ => rfl) _ rfl (fun v y hp => ?_)
                obtain ⟨rfl, hy⟩ := hp
                refine KJ.eqs (st' := []) rfl ?_
                refine k_aload_n hC 119 dX1_sweep_119 rfl ?_
                refine k_iload_n hC 120 dX1_sweep_120 rfl ?_
                refine k_callVr hC 121 0 [0, 1, 2, 3, 4, 5, 6, 7, 8, 9, 10, 11, 12, 13, 14] (c_X1_listOf1q l D a N T' A (B ++ [k]) to pi fe pl go hi mi re (lo + 1) g0 x g2 y g4 g5 g6) cw_RX1_145 dX1_sweep_121 ⟨Nat.le_of_ble_eq_true rfl, Nat.le_of_ble_eq_true rfl, Nat.le_of_ble_eq_true rfl, Nat.le_of_ble_eq_true rfl⟩ rfl (Nat.le_of_ble_eq_true rfl) rfl rfl rfl (by decide) rfl (fun _ => Nat.le_of_ble_eq_true rfl) (fun _ => rfl) _ rfl (fun v u hp => ?_)
                obtain rfl := hp
                refine KJ.eqs (st' := .ref (a 7) :: []) rfl ?_
                refine k_aload_n hC 124 dX1_sweep_124 rfl ?_
                refine k_getf hC 125 0 7 dX1_sweep_125 rfl rfl inlX1 (by decide) wq_2_8 rfl ?_
                refine k_callV hC 128 7 [7, 8] (fun z => [((a 0), .inr (1, [.ref (a 1), .ref (a 3), .ref (a 5), .ref (a 7), .ref (a 9), .ref (a 11), .ref (a 13), .int (nI pl), .int (nI go), .int hi, .int mi, .int re, .int (lo + 1)])), ((a 1), .inr (0, [.ref (a 2), .int (nI N.length)])), ((a 2), .inl (D.1 20, 40, .inl g0)), ((a 3), .inr (0, [.ref (a 4), .int (nI T'.length)])), ((a 4), .inl (D.1 20, 40, .inl x)), ((a 5), .inr (0, [.ref (a 6), .int (nI A.length)])), ((a 6), .inl (D.1 20, 40, .inl g2)), ((a 7), .inr (0, [.ref (a 8), .int (nI ((tr pl (B ++ [k])).length))])), ((a 8), .inl (D.1 20, 40, .inl z)), ((a 9), .inr (2, [.ref (a 10)])), ((a 10), .inl (D.1 20, 40, .inl g4)), ((a 11), .inr (2, [.ref (a 12)])), ((a 12), .inl (D.1 20, 40, .inl g5)), ((a 13), .inr (2, [.ref (a 14)])), ((a 14), .inl (D.1 20, 40, .inl g6))]) (c_X0_forgetEldest l D (a 7) (a 8) (B ++ [k]) y pl hy (by rw [List.length_append, List.length_singleton]; omega) (kB.push hk) (by omega)) cw_RX1_148 dX1_sweep_128 ⟨Nat.le_of_ble_eq_true rfl, Nat.le_of_ble_eq_true rfl, Nat.le_of_ble_eq_true rfl, Nat.le_of_ble_eq_true rfl⟩ rfl (Nat.le_of_ble_eq_true rfl) rfl rfl rfl (by decide) rfl (fun _ => Nat.le_of_ble_eq_true rfl) (fun _ => rfl) _ rfl (fun v z hp => ?_)
                obtain ⟨rfl, hz⟩ := hp
                refine KJ.eqs (st' := []) rfl ?_
                refine k_iload hC 131 dX1_sweep_131 rfl ?_
                exact k_iret hC hE 133 ((N, T', A, (tr pl (B ++ [k])), to, pi, fe, pl, go, hi, mi, re, lo + 1), (g0, x, g2, z, g4, g5, g6)) dX1_sweep_133 rfl (⟨by rw [(swN_e hsw e).2], (swN_e hsw e).1, r0, hx, r2, hz, r4, r5, r6⟩) rfl ⟨Nat.zero_le _, Nat.zero_le _⟩
              · skip
                refine k_aload_n hC 87 dX1_sweep_87 rfl ?_
                refine k_getf hC 88 0 4 dX1_sweep_88 rfl rfl inlX1 (by decide) wq_2_5 rfl ?_
                refine k_iload hC 91 dX1_sweep_91 rfl ?_
                refine k_iconst hC 93 dX1_sweep_93 (nI 0) (by decide) ?_
                refine k_callV hC 94 9 [9, 10] (fun _ => [((a 0), .inr (1, [.ref (a 1), .ref (a 3), .ref (a 5), .ref (a 7), .ref (a 9), .ref (a 11), .ref (a 13), .int (nI pl), .int (nI go), .int hi, .int mi, .int re, .int (lo + 1)])), ((a 1), .inr (0, [.ref (a 2), .int (nI N.length)])), ((a 2), .inl (D.1 20, 40, .inl g0)), ((a 3), .inr (0, [.ref (a 4), .int (nI T'.length)])), ((a 4), .inl (D.1 20, 40, .inl x)), ((a 5), .inr (0, [.ref (a 6), .int (nI A.length)])), ((a 6), .inl (D.1 20, 40, .inl g2)), ((a 7), .inr (0, [.ref (a 8), .int (nI B.length)])), ((a 8), .inl (D.1 20, 40, .inl g3)), ((a 9), .inr (2, [.ref (a 10)])), ((a 10), .inl (D.1 20, 40, .inl (upd g4 k (nI 0)))), ((a 11), .inr (2, [.ref (a 12)])), ((a 12), .inl (D.1 20, 40, .inl g5)), ((a 13), .inr (2, [.ref (a 14)])), ((a 14), .inl (D.1 20, 40, .inl g6))]) (c_X2_put l D (a 9) (a 10) g4 k (nI 0) hk) cw_RX1_97 dX1_sweep_94 ⟨Nat.le_of_ble_eq_true rfl, Nat.le_of_ble_eq_true rfl, Nat.le_of_ble_eq_true rfl, Nat.le_of_ble_eq_true rfl⟩ rfl (Nat.le_of_ble_eq_true rfl) rfl rfl rfl (by decide) rfl (fun _ => Nat.le_of_ble_eq_true rfl) (fun _ => rfl) _ rfl (fun v _ hp => ?_)
                obtain rfl := hp
                refine KJ.eqs (st' := []) rfl ?_
                refine k_aload_n hC 97 dX1_sweep_97 rfl ?_
                refine k_getf hC 98 0 1 dX1_sweep_98 rfl rfl inlX1 (by decide) wq_1_23 rfl ?_
                refine k_iload hC 101 dX1_sweep_101 rfl ?_
                refine k_callV hC 103 3 [3, 4] (fun y => [((a 0), .inr (1, [.ref (a 1), .ref (a 3), .ref (a 5), .ref (a 7), .ref (a 9), .ref (a 11), .ref (a 13), .int (nI pl), .int (nI go), .int hi, .int mi, .int re, .int (lo + 1)])), ((a 1), .inr (0, [.ref (a 2), .int (nI N.length)])), ((a 2), .inl (D.1 20, 40, .inl g0)), ((a 3), .inr (0, [.ref (a 4), .int (nI ((T' ++ [k]).length))])), ((a 4), .inl (D.1 20, 40, .inl y)), ((a 5), .inr (0, [.ref (a 6), .int (nI A.length)])), ((a 6), .inl (D.1 20, 40, .inl g2)), ((a 7), .inr (0, [.ref (a 8), .int (nI B.length)])), ((a 8), .inl (D.1 20, 40, .inl g3)), ((a 9), .inr (2, [.ref (a 10)])), ((a 10), .inl (D.1 20, 40, .inl (upd g4 k (nI 0)))), ((a 11), .inr (2, [.ref (a 12)])), ((a 12), .inl (D.1 20, 40, .inl g5)), ((a 13), .inr (2, [.ref (a 14)])), ((a 14), .inl (D.1 20, 40, .inl g6))]) (c_X0_append l D (a 3) (a 4) T' x k hx (by omega) hk) cw_RX1_134 dX1_sweep_103 ⟨Nat.le_of_ble_eq_true rfl, Nat.le_of_ble_eq_true rfl, Nat.le_of_ble_eq_true rfl, Nat.le_of_ble_eq_true rfl⟩ rfl (Nat.le_of_ble_eq_true rfl) rfl rfl rfl (by decide) rfl (fun _ => Nat.le_of_ble_eq_true rfl) (fun _ => rfl) _ rfl (fun v y hp => ?_)
                obtain ⟨rfl, hy⟩ := hp
                refine KJ.eqs (st' := []) rfl ?_
                refine k_goto hC 106 134 dX1_sweep_106 (by decide) ?_
                refine k_iinc hC 134 3 (nI (i + 1)) [(1, .int (nI (i + 1))), (4, .int (nI k)), (3, .ref (a 3)), (2, .int (nI 1)), (0, .ref (a 0))] dX1_sweep_134 rfl (nI_1 _) (by decide) rfl ?_
                refine k_goto hC 137 15 dX1_sweep_137 (by decide) ?_
                refine KJ.lvp [0, 4] rfl ?_
                have e := lk_1t (A := A) (B := B) (to := to) (fe := fe) (pl := pl) (hi := hi) (mi := mi) (re := re) (lo := lo) hg hp ht
                have w2 := lk_wf hW0 hpj
                have j2 := lk_pj (s := (N, (k :: T'), A, B, to, pi, fe, pl, go, hi, mi, re, lo)) hpj
                rw [e] at w2 j2
                exact ih15 n (i + 1) N (T' ++ [k]) A B (va_up to k 0) pi fe pl go hi mi re (lo + 1) g0 y g2 g3 (upd g4 k (nI 0)) g5 g6 (by omega) (by omega) ⟨r0, hy, r2, r3, tup r4 k 0, r5, r6⟩ w2 (swN_n hsw e) (by have j3 := j2.1; have j4 := j2.2.1; simp only [pnd, jrs, if_true] at j3 j4; omega)
            · skip
              refine k_aload_n hC 66 dX1_sweep_66 rfl ?_
              refine k_iload hC 67 dX1_sweep_67 rfl ?_
              refine k_callV hC 69 3 [3, 4] (fun y => [((a 0), .inr (1, [.ref (a 1), .ref (a 3), .ref (a 5), .ref (a 7), .ref (a 9), .ref (a 11), .ref (a 13), .int (nI pl), .int (nI go), .int hi, .int mi, .int re, .int (lo + 1)])), ((a 1), .inr (0, [.ref (a 2), .int (nI N.length)])), ((a 2), .inl (D.1 20, 40, .inl g0)), ((a 3), .inr (0, [.ref (a 4), .int (nI ((T' ++ [k]).length))])), ((a 4), .inl (D.1 20, 40, .inl y)), ((a 5), .inr (0, [.ref (a 6), .int (nI A.length)])), ((a 6), .inl (D.1 20, 40, .inl g2)), ((a 7), .inr (0, [.ref (a 8), .int (nI B.length)])), ((a 8), .inl (D.1 20, 40, .inl g3)), ((a 9), .inr (2, [.ref (a 10)])), ((a 10), .inl (D.1 20, 40, .inl g4)), ((a 11), .inr (2, [.ref (a 12)])), ((a 12), .inl (D.1 20, 40, .inl g5)), ((a 13), .inr (2, [.ref (a 14)])), ((a 14), .inl (D.1 20, 40, .inl g6))]) (c_X0_append l D (a 3) (a 4) T' x k hx (by omega) hk) cw_RX1_134 dX1_sweep_69 ⟨Nat.le_of_ble_eq_true rfl, Nat.le_of_ble_eq_true rfl, Nat.le_of_ble_eq_true rfl, Nat.le_of_ble_eq_true rfl⟩ rfl (Nat.le_of_ble_eq_true rfl) rfl rfl rfl (by decide) rfl (fun _ => Nat.le_of_ble_eq_true rfl) (fun _ => rfl) _ rfl (fun v y hp => ?_)
              obtain ⟨rfl, hy⟩ := hp
              refine KJ.eqs (st' := []) rfl ?_
              refine k_goto hC 72 134 dX1_sweep_72 (by decide) ?_
              refine k_iinc hC 134 3 (nI (i + 1)) [(1, .int (nI (i + 1))), (4, .int (nI k)), (3, .ref (a 3)), (2, .int (nI 1)), (0, .ref (a 0))] dX1_sweep_134 rfl (nI_1 _) (by decide) rfl ?_
              refine k_goto hC 137 15 dX1_sweep_137 (by decide) ?_
              refine KJ.lvp [0, 4] rfl ?_
              have e := lk_1p (A := A) (B := B) (to := to) (fe := fe) (pl := pl) (hi := hi) (mi := mi) (re := re) (lo := lo) hg hp
              have w2 := lk_wf hW0 hpj
              have j2 := lk_pj (s := (N, (k :: T'), A, B, to, pi, fe, pl, go, hi, mi, re, lo)) hpj
              rw [e] at w2 j2
              exact ih15 n (i + 1) N (T' ++ [k]) A B to pi fe pl go hi mi re (lo + 1) g0 y g2 g3 g4 g5 g6 (by omega) (by omega) ⟨r0, hy, r2, r3, r4, r5, r6⟩ w2 (swN_n hsw e) (by have j3 := j2.1; have j4 := j2.2.1; simp only [pnd, jrs, if_true] at j3 j4; omega)
    exact loop15 (n + 1) n 0 N T A B to pi fe pl go hi mi re lo g0 g1 g2 g3 g4 g5 g6 (by omega) (by omega) hS0 hW0 hsw hpj
  · skip
    exact absurd h8 (by omega)
