/-! PinnedPantry$Store: what is asked of it -/
set_option maxHeartbeats 4000000 in
set_option maxRecDepth 100000 in
/-- jars() -/
theorem c_X1_jars (l : Launch) (D : va_G) (a : Nat → Nat) (N T A B : List Nat) (to pi : Nat → Nat) (fe : Nat → Int32) (pl go : Nat) (hi mi re lo : Int32) (g0 g1 g2 g3 g4 g5 g6 : Nat → Int32) (hS : SR (N, T, A, B, to, pi, fe, pl, go, hi, mi, re, lo) (g0, g1, g2, g3, g4, g5, g6)) (hW : WF (N, T, A, B, to, pi, fe, pl, go, hi, mi, re, lo)) : MU l yX1_jars cX1_jars 1 (some .int) 0 0 D [.ref (a 0)] [((a 0), .inr (1, [.ref (a 1), .ref (a 3), .ref (a 5), .ref (a 7), .ref (a 9), .ref (a 11), .ref (a 13), .int (nI pl), .int (nI go), .int hi, .int mi, .int re, .int lo])), ((a 1), .inr (0, [.ref (a 2), .int (nI N.length)])), ((a 2), .inl (D.1 20, 40, .inl g0)), ((a 3), .inr (0, [.ref (a 4), .int (nI T.length)])), ((a 4), .inl (D.1 20, 40, .inl g1)), ((a 5), .inr (0, [.ref (a 6), .int (nI A.length)])), ((a 6), .inl (D.1 20, 40, .inl g2)), ((a 7), .inr (0, [.ref (a 8), .int (nI B.length)])), ((a 8), .inl (D.1 20, 40, .inl g3)), ((a 9), .inr (2, [.ref (a 10)])), ((a 10), .inl (D.1 20, 40, .inl g4)), ((a 11), .inr (2, [.ref (a 12)])), ((a 12), .inl (D.1 20, 40, .inl g5)), ((a 13), .inr (2, [.ref (a 14)])), ((a 14), .inl (D.1 20, 40, .inl g6))] (fun v (_ : Unit) => v = some (.int (nI (N.length + T.length)))) (fun _ => [((a 0), .inr (1, [.ref (a 1), .ref (a 3), .ref (a 5), .ref (a 7), .ref (a 9), .ref (a 11), .ref (a 13), .int (nI pl), .int (nI go), .int hi, .int mi, .int re, .int lo])), ((a 1), .inr (0, [.ref (a 2), .int (nI N.length)])), ((a 2), .inl (D.1 20, 40, .inl g0)), ((a 3), .inr (0, [.ref (a 4), .int (nI T.length)])), ((a 4), .inl (D.1 20, 40, .inl g1)), ((a 5), .inr (0, [.ref (a 6), .int (nI A.length)])), ((a 6), .inl (D.1 20, 40, .inl g2)), ((a 7), .inr (0, [.ref (a 8), .int (nI B.length)])), ((a 8), .inl (D.1 20, 40, .inl g3)), ((a 9), .inr (2, [.ref (a 10)])), ((a 10), .inl (D.1 20, 40, .inl g4)), ((a 11), .inr (2, [.ref (a 12)])), ((a 12), .inl (D.1 20, 40, .inl g5)), ((a 13), .inr (2, [.ref (a 14)])), ((a 14), .inl (D.1 20, 40, .inl g6))]) 0 0 := by
  refine MU.enter (by decide) [(0, .ref (a 0))] rfl (Nat.le_of_ble_eq_true rfl) (fun G hC hE => ?_)
  have hC : CX G D cX1_jars RX1 1 := hC
  refine k_aload_n hC 0 dX1_jars_0 rfl ?_
  refine k_getf hC 1 0 0 dX1_jars_1 rfl rfl inlX1 (by decide) wq_1_22 rfl ?_
  refine k_getfN hC 4 1 1 dX1_jars_4 rfl rfl inlX0 (by decide) hC.kt.2.1 rfl ?_
  refine k_aload_n hC 7 dX1_jars_7 rfl ?_
  refine k_getf hC 8 0 1 dX1_jars_8 rfl rfl inlX1 (by decide) wq_1_23 rfl ?_
  refine k_getfN hC 11 3 1 dX1_jars_11 rfl rfl inlX0 (by decide) hC.kt.2.1 rfl ?_
  refine n_iadd hC 14 (N.length + T.length) dX1_jars_14 rfl ?_
  exact k_iret hC hE 15 () dX1_jars_15 rfl rfl rfl ⟨Nat.zero_le _, Nat.zero_le _⟩
set_option maxHeartbeats 4000000 in
set_option maxRecDepth 100000 in
theorem c_X1_rowOf0 (l : Launch) (D : va_G) (a : Nat → Nat) (N T A B : List Nat) (to pi : Nat → Nat) (fe : Nat → Int32) (pl go : Nat) (hi mi re lo : Int32) (g0 g1 g2 g3 g4 g5 g6 : Nat → Int32) (hS : SR (N, T, A, B, to, pi, fe, pl, go, hi, mi, re, lo) (g0, g1, g2, g3, g4, g5, g6)) (hW : WF (N, T, A, B, to, pi, fe, pl, go, hi, mi, re, lo)) : MU l yX1_rowOf cX1_rowOf 2 (some (.object "PinnedPantry$Row")) 0 0 D [.ref (a 0), .int (nI 0)] [((a 0), .inr (1, [.ref (a 1), .ref (a 3), .ref (a 5), .ref (a 7), .ref (a 9), .ref (a 11), .ref (a 13), .int (nI pl), .int (nI go), .int hi, .int mi, .int re, .int lo])), ((a 1), .inr (0, [.ref (a 2), .int (nI N.length)])), ((a 2), .inl (D.1 20, 40, .inl g0)), ((a 3), .inr (0, [.ref (a 4), .int (nI T.length)])), ((a 4), .inl (D.1 20, 40, .inl g1)), ((a 5), .inr (0, [.ref (a 6), .int (nI A.length)])), ((a 6), .inl (D.1 20, 40, .inl g2)), ((a 7), .inr (0, [.ref (a 8), .int (nI B.length)])), ((a 8), .inl (D.1 20, 40, .inl g3)), ((a 9), .inr (2, [.ref (a 10)])), ((a 10), .inl (D.1 20, 40, .inl g4)), ((a 11), .inr (2, [.ref (a 12)])), ((a 12), .inl (D.1 20, 40, .inl g5)), ((a 13), .inr (2, [.ref (a 14)])), ((a 14), .inl (D.1 20, 40, .inl g6))] (fun v (_ : Unit) => v = some (.ref (a 1))) (fun _ => [((a 0), .inr (1, [.ref (a 1), .ref (a 3), .ref (a 5), .ref (a 7), .ref (a 9), .ref (a 11), .ref (a 13), .int (nI pl), .int (nI go), .int hi, .int mi, .int re, .int lo])), ((a 1), .inr (0, [.ref (a 2), .int (nI N.length)])), ((a 2), .inl (D.1 20, 40, .inl g0)), ((a 3), .inr (0, [.ref (a 4), .int (nI T.length)])), ((a 4), .inl (D.1 20, 40, .inl g1)), ((a 5), .inr (0, [.ref (a 6), .int (nI A.length)])), ((a 6), .inl (D.1 20, 40, .inl g2)), ((a 7), .inr (0, [.ref (a 8), .int (nI B.length)])), ((a 8), .inl (D.1 20, 40, .inl g3)), ((a 9), .inr (2, [.ref (a 10)])), ((a 10), .inl (D.1 20, 40, .inl g4)), ((a 11), .inr (2, [.ref (a 12)])), ((a 12), .inl (D.1 20, 40, .inl g5)), ((a 13), .inr (2, [.ref (a 14)])), ((a 14), .inl (D.1 20, 40, .inl g6))]) 0 0 := by
  refine MU.enter (by decide) [(0, .ref (a 0)), (1, .int (nI 0))] rfl (Nat.le_of_ble_eq_true rfl) (fun G hC hE => ?_)
  have hC : CX G D cX1_rowOf RX1 2 := hC
  refine k_iload_n hC 0 dX1_rowOf_0 rfl ?_
  refine n_if_ne hC 1 11 dX1_rowOf_1 (by decide) (by omega) (fun h1 => ?_) (fun h1 => ?_)
  · skip
    exact absurd h1 (by decide)
  · skip
    refine k_aload_n hC 4 dX1_rowOf_4 rfl ?_
    refine k_getf hC 5 0 0 dX1_rowOf_5 rfl rfl inlX1 (by decide) wq_1_22 rfl ?_
    refine k_goto hC 8 15 dX1_rowOf_8 (by decide) ?_
    exact k_aret hC hE 15 () dX1_rowOf_15 (Or.inl ⟨_, rfl⟩) rfl rfl ⟨Nat.zero_le _, Nat.zero_le _⟩
set_option maxHeartbeats 4000000 in
set_option maxRecDepth 100000 in
theorem c_X1_listOf0 (l : Launch) (D : va_G) (a : Nat → Nat) (N T A B : List Nat) (to pi : Nat → Nat) (fe : Nat → Int32) (pl go : Nat) (hi mi re lo : Int32) (g0 g1 g2 g3 g4 g5 g6 : Nat → Int32) (hS : SR (N, T, A, B, to, pi, fe, pl, go, hi, mi, re, lo) (g0, g1, g2, g3, g4, g5, g6)) (hW : WF (N, T, A, B, to, pi, fe, pl, go, hi, mi, re, lo)) : MU l yX1_listOf cX1_listOf 2 (some (.object "PinnedPantry$Row")) 0 0 D [.ref (a 0), .int (nI 0)] [((a 0), .inr (1, [.ref (a 1), .ref (a 3), .ref (a 5), .ref (a 7), .ref (a 9), .ref (a 11), .ref (a 13), .int (nI pl), .int (nI go), .int hi, .int mi, .int re, .int lo])), ((a 1), .inr (0, [.ref (a 2), .int (nI N.length)])), ((a 2), .inl (D.1 20, 40, .inl g0)), ((a 3), .inr (0, [.ref (a 4), .int (nI T.length)])), ((a 4), .inl (D.1 20, 40, .inl g1)), ((a 5), .inr (0, [.ref (a 6), .int (nI A.length)])), ((a 6), .inl (D.1 20, 40, .inl g2)), ((a 7), .inr (0, [.ref (a 8), .int (nI B.length)])), ((a 8), .inl (D.1 20, 40, .inl g3)), ((a 9), .inr (2, [.ref (a 10)])), ((a 10), .inl (D.1 20, 40, .inl g4)), ((a 11), .inr (2, [.ref (a 12)])), ((a 12), .inl (D.1 20, 40, .inl g5)), ((a 13), .inr (2, [.ref (a 14)])), ((a 14), .inl (D.1 20, 40, .inl g6))] (fun v (_ : Unit) => v = some (.ref (a 5))) (fun _ => [((a 0), .inr (1, [.ref (a 1), .ref (a 3), .ref (a 5), .ref (a 7), .ref (a 9), .ref (a 11), .ref (a 13), .int (nI pl), .int (nI go), .int hi, .int mi, .int re, .int lo])), ((a 1), .inr (0, [.ref (a 2), .int (nI N.length)])), ((a 2), .inl (D.1 20, 40, .inl g0)), ((a 3), .inr (0, [.ref (a 4), .int (nI T.length)])), ((a 4), .inl (D.1 20, 40, .inl g1)), ((a 5), .inr (0, [.ref (a 6), .int (nI A.length)])), ((a 6), .inl (D.1 20, 40, .inl g2)), ((a 7), .inr (0, [.ref (a 8), .int (nI B.length)])), ((a 8), .inl (D.1 20, 40, .inl g3)), ((a 9), .inr (2, [.ref (a 10)])), ((a 10), .inl (D.1 20, 40, .inl g4)), ((a 11), .inr (2, [.ref (a 12)])), ((a 12), .inl (D.1 20, 40, .inl g5)), ((a 13), .inr (2, [.ref (a 14)])), ((a 14), .inl (D.1 20, 40, .inl g6))]) 0 0 := by
  refine MU.enter (by decide) [(0, .ref (a 0)), (1, .int (nI 0))] rfl (Nat.le_of_ble_eq_true rfl) (fun G hC hE => ?_)
  have hC : CX G D cX1_listOf RX1 2 := hC
  refine k_iload_n hC 0 dX1_listOf_0 rfl ?_
  refine n_if_ne hC 1 11 dX1_listOf_1 (by decide) (by omega) (fun h1 => ?_) (fun h1 => ?_)
  · skip
    exact absurd h1 (by decide)
  · skip
    refine k_aload_n hC 4 dX1_listOf_4 rfl ?_
    refine k_getf hC 5 0 2 dX1_listOf_5 rfl rfl inlX1 (by decide) wq_2_0 rfl ?_
    refine k_goto hC 8 15 dX1_listOf_8 (by decide) ?_
    exact k_aret hC hE 15 () dX1_listOf_15 (Or.inl ⟨_, rfl⟩) rfl rfl ⟨Nat.zero_le _, Nat.zero_le _⟩
set_option maxHeartbeats 4000000 in
set_option maxRecDepth 100000 in
theorem c_X1_rowOf1 (l : Launch) (D : va_G) (a : Nat → Nat) (N T A B : List Nat) (to pi : Nat → Nat) (fe : Nat → Int32) (pl go : Nat) (hi mi re lo : Int32) (g0 g1 g2 g3 g4 g5 g6 : Nat → Int32) (hS : SR (N, T, A, B, to, pi, fe, pl, go, hi, mi, re, lo) (g0, g1, g2, g3, g4, g5, g6)) (hW : WF (N, T, A, B, to, pi, fe, pl, go, hi, mi, re, lo)) : MU l yX1_rowOf cX1_rowOf 2 (some (.object "PinnedPantry$Row")) 0 0 D [.ref (a 0), .int (nI 1)] [((a 0), .inr (1, [.ref (a 1), .ref (a 3), .ref (a 5), .ref (a 7), .ref (a 9), .ref (a 11), .ref (a 13), .int (nI pl), .int (nI go), .int hi, .int mi, .int re, .int lo])), ((a 1), .inr (0, [.ref (a 2), .int (nI N.length)])), ((a 2), .inl (D.1 20, 40, .inl g0)), ((a 3), .inr (0, [.ref (a 4), .int (nI T.length)])), ((a 4), .inl (D.1 20, 40, .inl g1)), ((a 5), .inr (0, [.ref (a 6), .int (nI A.length)])), ((a 6), .inl (D.1 20, 40, .inl g2)), ((a 7), .inr (0, [.ref (a 8), .int (nI B.length)])), ((a 8), .inl (D.1 20, 40, .inl g3)), ((a 9), .inr (2, [.ref (a 10)])), ((a 10), .inl (D.1 20, 40, .inl g4)), ((a 11), .inr (2, [.ref (a 12)])), ((a 12), .inl (D.1 20, 40, .inl g5)), ((a 13), .inr (2, [.ref (a 14)])), ((a 14), .inl (D.1 20, 40, .inl g6))] (fun v (_ : Unit) => v = some (.ref (a 3))) (fun _ => [((a 0), .inr (1, [.ref (a 1), .ref (a 3), .ref (a 5), .ref (a 7), .ref (a 9), .ref (a 11), .ref (a 13), .int (nI pl), .int (nI go), .int hi, .int mi, .int re, .int lo])), ((a 1), .inr (0, [.ref (a 2), .int (nI N.length)])), ((a 2), .inl (D.1 20, 40, .inl g0)), ((a 3), .inr (0, [.ref (a 4), .int (nI T.length)])), ((a 4), .inl (D.1 20, 40, .inl g1)), ((a 5), .inr (0, [.ref (a 6), .int (nI A.length)])), ((a 6), .inl (D.1 20, 40, .inl g2)), ((a 7), .inr (0, [.ref (a 8), .int (nI B.length)])), ((a 8), .inl (D.1 20, 40, .inl g3)), ((a 9), .inr (2, [.ref (a 10)])), ((a 10), .inl (D.1 20, 40, .inl g4)), ((a 11), .inr (2, [.ref (a 12)])), ((a 12), .inl (D.1 20, 40, .inl g5)), ((a 13), .inr (2, [.ref (a 14)])), ((a 14), .inl (D.1 20, 40, .inl g6))]) 0 0 := by
  refine MU.enter (by decide) [(0, .ref (a 0)), (1, .int (nI 1))] rfl (Nat.le_of_ble_eq_true rfl) (fun G hC hE => ?_)
  have hC : CX G D cX1_rowOf RX1 2 := hC
  refine k_iload_n hC 0 dX1_rowOf_0 rfl ?_
  refine n_if_ne hC 1 11 dX1_rowOf_1 (by decide) (by omega) (fun h1 => ?_) (fun h1 => ?_)
  · skip
    refine k_aload_n hC 11 dX1_rowOf_11 rfl ?_
    refine k_getf hC 12 0 1 dX1_rowOf_12 rfl rfl inlX1 (by decide) wq_1_23 rfl ?_
    exact k_aret hC hE 15 () dX1_rowOf_15 (Or.inl ⟨_, rfl⟩) rfl rfl ⟨Nat.zero_le _, Nat.zero_le _⟩
  · skip
    exact absurd h1 (by decide)
set_option maxHeartbeats 4000000 in
set_option maxRecDepth 100000 in
theorem c_X1_listOf1 (l : Launch) (D : va_G) (a : Nat → Nat) (N T A B : List Nat) (to pi : Nat → Nat) (fe : Nat → Int32) (pl go : Nat) (hi mi re lo : Int32) (g0 g1 g2 g3 g4 g5 g6 : Nat → Int32) (hS : SR (N, T, A, B, to, pi, fe, pl, go, hi, mi, re, lo) (g0, g1, g2, g3, g4, g5, g6)) (hW : WF (N, T, A, B, to, pi, fe, pl, go, hi, mi, re, lo)) : MU l yX1_listOf cX1_listOf 2 (some (.object "PinnedPantry$Row")) 0 0 D [.ref (a 0), .int (nI 1)] [((a 0), .inr (1, [.ref (a 1), .ref (a 3), .ref (a 5), .ref (a 7), .ref (a 9), .ref (a 11), .ref (a 13), .int (nI pl), .int (nI go), .int hi, .int mi, .int re, .int lo])), ((a 1), .inr (0, [.ref (a 2), .int (nI N.length)])), ((a 2), .inl (D.1 20, 40, .inl g0)), ((a 3), .inr (0, [.ref (a 4), .int (nI T.length)])), ((a 4), .inl (D.1 20, 40, .inl g1)), ((a 5), .inr (0, [.ref (a 6), .int (nI A.length)])), ((a 6), .inl (D.1 20, 40, .inl g2)), ((a 7), .inr (0, [.ref (a 8), .int (nI B.length)])), ((a 8), .inl (D.1 20, 40, .inl g3)), ((a 9), .inr (2, [.ref (a 10)])), ((a 10), .inl (D.1 20, 40, .inl g4)), ((a 11), .inr (2, [.ref (a 12)])), ((a 12), .inl (D.1 20, 40, .inl g5)), ((a 13), .inr (2, [.ref (a 14)])), ((a 14), .inl (D.1 20, 40, .inl g6))] (fun v (_ : Unit) => v = some (.ref (a 7))) (fun _ => [((a 0), .inr (1, [.ref (a 1), .ref (a 3), .ref (a 5), .ref (a 7), .ref (a 9), .ref (a 11), .ref (a 13), .int (nI pl), .int (nI go), .int hi, .int mi, .int re, .int lo])), ((a 1), .inr (0, [.ref (a 2), .int (nI N.length)])), ((a 2), .inl (D.1 20, 40, .inl g0)), ((a 3), .inr (0, [.ref (a 4), .int (nI T.length)])), ((a 4), .inl (D.1 20, 40, .inl g1)), ((a 5), .inr (0, [.ref (a 6), .int (nI A.length)])), ((a 6), .inl (D.1 20, 40, .inl g2)), ((a 7), .inr (0, [.ref (a 8), .int (nI B.length)])), ((a 8), .inl (D.1 20, 40, .inl g3)), ((a 9), .inr (2, [.ref (a 10)])), ((a 10), .inl (D.1 20, 40, .inl g4)), ((a 11), .inr (2, [.ref (a 12)])), ((a 12), .inl (D.1 20, 40, .inl g5)), ((a 13), .inr (2, [.ref (a 14)])), ((a 14), .inl (D.1 20, 40, .inl g6))]) 0 0 := by
  refine MU.enter (by decide) [(0, .ref (a 0)), (1, .int (nI 1))] rfl (Nat.le_of_ble_eq_true rfl) (fun G hC hE => ?_)
  have hC : CX G D cX1_listOf RX1 2 := hC
  refine k_iload_n hC 0 dX1_listOf_0 rfl ?_
  refine n_if_ne hC 1 11 dX1_listOf_1 (by decide) (by omega) (fun h1 => ?_) (fun h1 => ?_)
  · skip
    refine k_aload_n hC 11 dX1_listOf_11 rfl ?_
    refine k_getf hC 12 0 3 dX1_listOf_12 rfl rfl inlX1 (by decide) wq_2_1 rfl ?_
    exact k_aret hC hE 15 () dX1_listOf_15 (Or.inl ⟨_, rfl⟩) rfl rfl ⟨Nat.zero_le _, Nat.zero_le _⟩
  · skip
    exact absurd h1 (by decide)
set_option maxHeartbeats 4000000 in
set_option maxRecDepth 100000 in
/-- listOf, whatever the rows are -/
theorem c_X1_listOf0q (l : Launch) (D : va_G) (a : Nat → Nat) (N T A B : List Nat) (to pi : Nat → Nat) (fe : Nat → Int32) (pl go : Nat) (hi mi re lo : Int32) (g0 g1 g2 g3 g4 g5 g6 : Nat → Int32)  : MU l yX1_listOf cX1_listOf 2 (some (.object "PinnedPantry$Row")) 0 0 D [.ref (a 0), .int (nI 0)] [((a 0), .inr (1, [.ref (a 1), .ref (a 3), .ref (a 5), .ref (a 7), .ref (a 9), .ref (a 11), .ref (a 13), .int (nI pl), .int (nI go), .int hi, .int mi, .int re, .int lo])), ((a 1), .inr (0, [.ref (a 2), .int (nI N.length)])), ((a 2), .inl (D.1 20, 40, .inl g0)), ((a 3), .inr (0, [.ref (a 4), .int (nI T.length)])), ((a 4), .inl (D.1 20, 40, .inl g1)), ((a 5), .inr (0, [.ref (a 6), .int (nI A.length)])), ((a 6), .inl (D.1 20, 40, .inl g2)), ((a 7), .inr (0, [.ref (a 8), .int (nI B.length)])), ((a 8), .inl (D.1 20, 40, .inl g3)), ((a 9), .inr (2, [.ref (a 10)])), ((a 10), .inl (D.1 20, 40, .inl g4)), ((a 11), .inr (2, [.ref (a 12)])), ((a 12), .inl (D.1 20, 40, .inl g5)), ((a 13), .inr (2, [.ref (a 14)])), ((a 14), .inl (D.1 20, 40, .inl g6))] (fun v (_ : Unit) => v = some (.ref (a 5))) (fun _ => [((a 0), .inr (1, [.ref (a 1), .ref (a 3), .ref (a 5), .ref (a 7), .ref (a 9), .ref (a 11), .ref (a 13), .int (nI pl), .int (nI go), .int hi, .int mi, .int re, .int lo])), ((a 1), .inr (0, [.ref (a 2), .int (nI N.length)])), ((a 2), .inl (D.1 20, 40, .inl g0)), ((a 3), .inr (0, [.ref (a 4), .int (nI T.length)])), ((a 4), .inl (D.1 20, 40, .inl g1)), ((a 5), .inr (0, [.ref (a 6), .int (nI A.length)])), ((a 6), .inl (D.1 20, 40, .inl g2)), ((a 7), .inr (0, [.ref (a 8), .int (nI B.length)])), ((a 8), .inl (D.1 20, 40, .inl g3)), ((a 9), .inr (2, [.ref (a 10)])), ((a 10), .inl (D.1 20, 40, .inl g4)), ((a 11), .inr (2, [.ref (a 12)])), ((a 12), .inl (D.1 20, 40, .inl g5)), ((a 13), .inr (2, [.ref (a 14)])), ((a 14), .inl (D.1 20, 40, .inl g6))]) 0 0 := by
  refine MU.enter (by decide) [(0, .ref (a 0)), (1, .int (nI 0))] rfl (Nat.le_of_ble_eq_true rfl) (fun G hC hE => ?_)
  have hC : CX G D cX1_listOf RX1 2 := hC
  refine k_iload_n hC 0 dX1_listOf_0 rfl ?_
  refine n_if_ne hC 1 11 dX1_listOf_1 (by decide) (by omega) (fun h1 => ?_) (fun h1 => ?_)
  · skip
    exact absurd h1 (by decide)
  · skip
    refine k_aload_n hC 4 dX1_listOf_4 rfl ?_
    refine k_getf hC 5 0 2 dX1_listOf_5 rfl rfl inlX1 (by decide) wq_2_0 rfl ?_
    refine k_goto hC 8 15 dX1_listOf_8 (by decide) ?_
    exact k_aret hC hE 15 () dX1_listOf_15 (Or.inl ⟨_, rfl⟩) rfl rfl ⟨Nat.zero_le _, Nat.zero_le _⟩
set_option maxHeartbeats 4000000 in
set_option maxRecDepth 100000 in
/-- listOf, whatever the rows are -/
theorem c_X1_listOf1q (l : Launch) (D : va_G) (a : Nat → Nat) (N T A B : List Nat) (to pi : Nat → Nat) (fe : Nat → Int32) (pl go : Nat) (hi mi re lo : Int32) (g0 g1 g2 g3 g4 g5 g6 : Nat → Int32)  : MU l yX1_listOf cX1_listOf 2 (some (.object "PinnedPantry$Row")) 0 0 D [.ref (a 0), .int (nI 1)] [((a 0), .inr (1, [.ref (a 1), .ref (a 3), .ref (a 5), .ref (a 7), .ref (a 9), .ref (a 11), .ref (a 13), .int (nI pl), .int (nI go), .int hi, .int mi, .int re, .int lo])), ((a 1), .inr (0, [.ref (a 2), .int (nI N.length)])), ((a 2), .inl (D.1 20, 40, .inl g0)), ((a 3), .inr (0, [.ref (a 4), .int (nI T.length)])), ((a 4), .inl (D.1 20, 40, .inl g1)), ((a 5), .inr (0, [.ref (a 6), .int (nI A.length)])), ((a 6), .inl (D.1 20, 40, .inl g2)), ((a 7), .inr (0, [.ref (a 8), .int (nI B.length)])), ((a 8), .inl (D.1 20, 40, .inl g3)), ((a 9), .inr (2, [.ref (a 10)])), ((a 10), .inl (D.1 20, 40, .inl g4)), ((a 11), .inr (2, [.ref (a 12)])), ((a 12), .inl (D.1 20, 40, .inl g5)), ((a 13), .inr (2, [.ref (a 14)])), ((a 14), .inl (D.1 20, 40, .inl g6))] (fun v (_ : Unit) => v = some (.ref (a 7))) (fun _ => [((a 0), .inr (1, [.ref (a 1), .ref (a 3), .ref (a 5), .ref (a 7), .ref (a 9), .ref (a 11), .ref (a 13), .int (nI pl), .int (nI go), .int hi, .int mi, .int re, .int lo])), ((a 1), .inr (0, [.ref (a 2), .int (nI N.length)])), ((a 2), .inl (D.1 20, 40, .inl g0)), ((a 3), .inr (0, [.ref (a 4), .int (nI T.length)])), ((a 4), .inl (D.1 20, 40, .inl g1)), ((a 5), .inr (0, [.ref (a 6), .int (nI A.length)])), ((a 6), .inl (D.1 20, 40, .inl g2)), ((a 7), .inr (0, [.ref (a 8), .int (nI B.length)])), ((a 8), .inl (D.1 20, 40, .inl g3)), ((a 9), .inr (2, [.ref (a 10)])), ((a 10), .inl (D.1 20, 40, .inl g4)), ((a 11), .inr (2, [.ref (a 12)])), ((a 12), .inl (D.1 20, 40, .inl g5)), ((a 13), .inr (2, [.ref (a 14)])), ((a 14), .inl (D.1 20, 40, .inl g6))]) 0 0 := by
  refine MU.enter (by decide) [(0, .ref (a 0)), (1, .int (nI 1))] rfl (Nat.le_of_ble_eq_true rfl) (fun G hC hE => ?_)
  have hC : CX G D cX1_listOf RX1 2 := hC
  refine k_iload_n hC 0 dX1_listOf_0 rfl ?_
  refine n_if_ne hC 1 11 dX1_listOf_1 (by decide) (by omega) (fun h1 => ?_) (fun h1 => ?_)
  · skip
    refine k_aload_n hC 11 dX1_listOf_11 rfl ?_
    refine k_getf hC 12 0 3 dX1_listOf_12 rfl rfl inlX1 (by decide) wq_2_1 rfl ?_
    exact k_aret hC hE 15 () dX1_listOf_15 (Or.inl ⟨_, rfl⟩) rfl rfl ⟨Nat.zero_le _, Nat.zero_le _⟩
  · skip
    exact absurd h1 (by decide)
set_option maxHeartbeats 4000000 in
set_option maxRecDepth 100000 in
/-- hasJar -/
theorem c_X1_hasJar (l : Launch) (D : va_G) (a : Nat → Nat) (N T A B : List Nat) (to pi : Nat → Nat) (fe : Nat → Int32) (pl go : Nat) (hi mi re lo : Int32) (g0 g1 g2 g3 g4 g5 g6 : Nat → Int32) (k : Nat) (hS : SR (N, T, A, B, to, pi, fe, pl, go, hi, mi, re, lo) (g0, g1, g2, g3, g4, g5, g6)) (hW : WF (N, T, A, B, to, pi, fe, pl, go, hi, mi, re, lo)) (hk : k < 40) : MU l yX1_hasJar cX1_hasJar 2 (some .boolean) 2 43 D [.ref (a 0), .int (nI k)] [((a 0), .inr (1, [.ref (a 1), .ref (a 3), .ref (a 5), .ref (a 7), .ref (a 9), .ref (a 11), .ref (a 13), .int (nI pl), .int (nI go), .int hi, .int mi, .int re, .int lo])), ((a 1), .inr (0, [.ref (a 2), .int (nI N.length)])), ((a 2), .inl (D.1 20, 40, .inl g0)), ((a 3), .inr (0, [.ref (a 4), .int (nI T.length)])), ((a 4), .inl (D.1 20, 40, .inl g1)), ((a 5), .inr (0, [.ref (a 6), .int (nI A.length)])), ((a 6), .inl (D.1 20, 40, .inl g2)), ((a 7), .inr (0, [.ref (a 8), .int (nI B.length)])), ((a 8), .inl (D.1 20, 40, .inl g3)), ((a 9), .inr (2, [.ref (a 10)])), ((a 10), .inl (D.1 20, 40, .inl g4)), ((a 11), .inr (2, [.ref (a 12)])), ((a 12), .inl (D.1 20, 40, .inl g5)), ((a 13), .inr (2, [.ref (a 14)])), ((a 14), .inl (D.1 20, 40, .inl g6))] (fun v (_ : Unit) => v = some (.int (nI (yn (k ∈ N ∨ k ∈ T))))) (fun _ => [((a 0), .inr (1, [.ref (a 1), .ref (a 3), .ref (a 5), .ref (a 7), .ref (a 9), .ref (a 11), .ref (a 13), .int (nI pl), .int (nI go), .int hi, .int mi, .int re, .int lo])), ((a 1), .inr (0, [.ref (a 2), .int (nI N.length)])), ((a 2), .inl (D.1 20, 40, .inl g0)), ((a 3), .inr (0, [.ref (a 4), .int (nI T.length)])), ((a 4), .inl (D.1 20, 40, .inl g1)), ((a 5), .inr (0, [.ref (a 6), .int (nI A.length)])), ((a 6), .inl (D.1 20, 40, .inl g2)), ((a 7), .inr (0, [.ref (a 8), .int (nI B.length)])), ((a 8), .inl (D.1 20, 40, .inl g3)), ((a 9), .inr (2, [.ref (a 10)])), ((a 10), .inl (D.1 20, 40, .inl g4)), ((a 11), .inr (2, [.ref (a 12)])), ((a 12), .inl (D.1 20, 40, .inl g5)), ((a 13), .inr (2, [.ref (a 14)])), ((a 14), .inl (D.1 20, 40, .inl g6))]) 0 0 := by
  refine MU.enter (by decide) [(0, .ref (a 0)), (1, .int (nI k))] rfl (Nat.le_of_ble_eq_true rfl) (fun G hC hE => ?_)
  have hC : CX G D cX1_hasJar RX1 2 := hC
  have hS0 := hS
  have hW0 := hW
  obtain ⟨r0, r1, r2, r3, r4, r5, r6⟩ := hS
  obtain ⟨kN, kT, kA, kB, nd, len, lA, lB, p2, p12, g12, t1, p9⟩ := hW
  refine k_aload_n hC 0 dX1_hasJar_0 rfl ?_
  refine k_getf hC 1 0 0 dX1_hasJar_1 rfl rfl inlX1 (by decide) wq_1_22 rfl ?_
  refine k_iload_n hC 4 dX1_hasJar_4 rfl ?_
  refine k_callVr hC 5 1 [1, 2] (c_X0_has l D (a 1) (a 2) N g0 k r0 (by omega) kN hk) cw_RX1_66 dX1_hasJar_5 ⟨Nat.le_of_ble_eq_true rfl, Nat.le_of_ble_eq_true rfl, Nat.le_of_ble_eq_true rfl, Nat.le_of_ble_eq_true rfl⟩ rfl (Nat.le_of_ble_eq_true rfl) rfl rfl rfl (by decide) rfl (fun _ => Nat.le_of_ble_eq_true rfl) (fun _ => rfl) _ rfl (fun v u hp => ?_)
  obtain rfl := hp
  refine KJ.eqs (st' := .int (nI (yn (k ∈ N))) :: []) rfl ?_
  refine n_if_ne hC 8 22 dX1_hasJar_8 (by decide) (Nat.lt_of_le_of_lt yn_le (by decide)) (fun h8 => ?_) (fun h8 => ?_)
  · skip
    refine k_iconst hC 22 dX1_hasJar_22 (nI 1) (by decide) ?_
    refine k_goto hC 23 27 dX1_hasJar_23 (by decide) ?_
    exact k_iret hC hE 27 () dX1_hasJar_27 rfl (by first | rw [yn_oa h8] | rw [yn_ob h19]) rfl ⟨Nat.zero_le _, Nat.zero_le _⟩
  · skip
    refine k_aload_n hC 11 dX1_hasJar_11 rfl ?_
    refine k_getf hC 12 0 1 dX1_hasJar_12 rfl rfl inlX1 (by decide) wq_1_23 rfl ?_
    refine k_iload_n hC 15 dX1_hasJar_15 rfl ?_
    refine k_callVr hC 16 3 [3, 4] (c_X0_has l D (a 3) (a 4) T g1 k r1 (by omega) kT hk) cw_RX1_66 dX1_hasJar_16 ⟨Nat.le_of_ble_eq_true rfl, Nat.le_of_ble_eq_true rfl, Nat.le_of_ble_eq_true rfl, Nat.le_of_ble_eq_true rfl⟩ rfl (Nat.le_of_ble_eq_true rfl) rfl rfl rfl (by decide) rfl (fun _ => Nat.le_of_ble_eq_true rfl) (fun _ => rfl) _ rfl (fun v u hp => ?_)
    obtain rfl := hp
    refine KJ.eqs (st' := .int (nI (yn (k ∈ T))) :: []) rfl ?_
    refine n_if_eq hC 19 26 dX1_hasJar_19 (by decide) (Nat.lt_of_le_of_lt yn_le (by decide)) (fun h19 => ?_) (fun h19 => ?_)
    · skip
      refine k_iconst hC 26 dX1_hasJar_26 (nI 0) (by decide) ?_
      exact k_iret hC hE 27 () dX1_hasJar_27 rfl (by rw [yn_f (fun z => z.elim (yn_0.mp h8) (yn_0.mp h19))]) rfl ⟨Nat.zero_le _, Nat.zero_le _⟩
    · skip
      refine k_iconst hC 22 dX1_hasJar_22 (nI 1) (by decide) ?_
      refine k_goto hC 23 27 dX1_hasJar_23 (by decide) ?_
      exact k_iret hC hE 27 () dX1_hasJar_27 rfl (by first | rw [yn_oa h8] | rw [yn_ob h19]) rfl ⟨Nat.zero_le _, Nat.zero_le _⟩
set_option maxHeartbeats 4000000 in
set_option maxRecDepth 100000 in
/-- pinnedOn -/
theorem c_X1_pinnedOn (l : Launch) (D : va_G) (a : Nat → Nat) (pl go : Nat) (hi mi re lo : Int32) (r q : Nat) (L : List Nat) (f : Nat → Int32) (pi : Nat → Nat) (g5 : Nat → Int32) (hR : RowL L f) (hL : L.length ≤ 40) (hK : KL L) (r5 : ∀ k : Nat, k < 40 → g5 k = nI (pi k)) (p9 : ∀ k : Nat, pi k ≤ 9) : MU l yX1_pinnedOn cX1_pinnedOn 4 (some .int) 1 21 D [.ref (a 0), .ref r] [((a 0), .inr (1, [.ref (a 1), .ref (a 3), .ref (a 5), .ref (a 7), .ref (a 9), .ref (a 11), .ref (a 13), .int (nI pl), .int (nI go), .int hi, .int mi, .int re, .int lo])), (r, .inr (0, [.ref q, .int (nI L.length)])), (q, .inl (D.1 20, 40, .inl f)), ((a 11), .inr (2, [.ref (a 12)])), ((a 12), .inl (D.1 20, 40, .inl g5))] (fun v (_ : Unit) => v = some (.int (nI (pc pi L)))) (fun _ => [((a 0), .inr (1, [.ref (a 1), .ref (a 3), .ref (a 5), .ref (a 7), .ref (a 9), .ref (a 11), .ref (a 13), .int (nI pl), .int (nI go), .int hi, .int mi, .int re, .int lo])), (r, .inr (0, [.ref q, .int (nI L.length)])), (q, .inl (D.1 20, 40, .inl f)), ((a 11), .inr (2, [.ref (a 12)])), ((a 12), .inl (D.1 20, 40, .inl g5))]) 0 0 := by
  refine MU.enter (by decide) [(0, .ref (a 0)), (1, .ref r)] rfl (Nat.le_of_ble_eq_true rfl) (fun G hC hE => ?_)
  have hC : CX G D cX1_pinnedOn RX1 4 := hC
  refine k_iconst hC 0 dX1_pinnedOn_0 (nI 0) (by decide) ?_
  refine k_istore_n hC 1 2 [(2, .int (nI 0)), (0, .ref (a 0)), (1, .ref r)] dX1_pinnedOn_1 rfl (by decide) rfl ?_
  refine k_iconst hC 2 dX1_pinnedOn_2 (nI 0) (by decide) ?_
  refine k_istore_n hC 3 3 [(3, .int (nI 0)), (2, .int (nI 0)), (0, .ref (a 0)), (1, .ref r)] dX1_pinnedOn_3 rfl (by decide) rfl ?_
  have loop4 : ∀ (n4 : Nat) (i : Nat), L.length - i < n4 → i ≤ L.length → KJ l G D ({ frames := 1, cells := 0, slots := 0, locals := 21 } : Room) 4 0 0 [((a 0), .inr (1, [.ref (a 1), .ref (a 3), .ref (a 5), .ref (a 7), .ref (a 9), .ref (a 11), .ref (a 13), .int (nI pl), .int (nI go), .int hi, .int mi, .int re, .int lo])), (r, .inr (0, [.ref q, .int (nI L.length)])), (q, .inl (D.1 20, 40, .inl f)), ((a 11), .inr (2, [.ref (a 12)])), ((a 12), .inl (D.1 20, 40, .inl g5))] [(3, .int (nI i)), (2, .int (nI (pc pi (L.take i)))), (0, .ref (a 0)), (1, .ref r)] 4 [] := by
    intro n4
    induction n4 with
    | zero => intro i h; exact absurd h (Nat.not_lt_zero _)
    | succ n4 ih4 =>
      intro i hn4 hi2
      have hg := hK.g i
      have hp := p9 (L.getD i 0)
      have htl := pc_tl pi L i
      refine k_iload_n hC 4 dX1_pinnedOn_4 rfl ?_
      refine k_aload_n hC 5 dX1_pinnedOn_5 rfl ?_
      refine k_getfN hC 6 1 1 dX1_pinnedOn_6 rfl rfl inlX0 (by decide) hC.kt.2.1 rfl ?_
      refine n_icmp_ge hC 9 36 dX1_pinnedOn_9 (by decide) (by omega) (by omega) (fun h9 => ?_) (fun h9 => ?_)
      · skip
        refine k_iload_n hC 36 dX1_pinnedOn_36 rfl ?_
        exact k_iret hC hE 37 () dX1_pinnedOn_37 rfl (by rw [List.take_of_length_le h9]) rfl ⟨Nat.zero_le _, Nat.zero_le _⟩
      · skip
        refine k_aload_n hC 12 dX1_pinnedOn_12 rfl ?_
        refine k_getf hC 13 0 5 dX1_pinnedOn_13 rfl rfl inlX1 (by decide) wq_2_6 rfl ?_
        refine k_aload_n hC 16 dX1_pinnedOn_16 rfl ?_
        refine k_iload_n hC 17 dX1_pinnedOn_17 rfl ?_
        refine k_callVr hC 18 1 [1, 2] (c_X0_at_in l D r q L f i hR hL hK h9) cw_RX1_77 dX1_pinnedOn_18 ⟨Nat.le_of_ble_eq_true rfl, Nat.le_of_ble_eq_true rfl, Nat.le_of_ble_eq_true rfl, Nat.le_of_ble_eq_true rfl⟩ rfl (Nat.le_of_ble_eq_true rfl) rfl rfl rfl (by decide) rfl (fun _ => Nat.le_of_ble_eq_true rfl) (fun _ => rfl) _ rfl (fun v u hp => ?_)
        obtain rfl := hp
        refine KJ.eqs (st' := .int (nI (L.getD i 0)) :: .ref (a 11) :: []) rfl ?_
        refine k_callVr hC 21 3 [3, 4] (c_X2_of l D (a 11) (a 12) g5 (L.getD i 0) hg) cw_RX1_81 dX1_pinnedOn_21 ⟨Nat.le_of_ble_eq_true rfl, Nat.le_of_ble_eq_true rfl, Nat.le_of_ble_eq_true rfl, Nat.le_of_ble_eq_true rfl⟩ rfl (Nat.le_of_ble_eq_true rfl) rfl rfl rfl (by decide) rfl (fun _ => Nat.le_of_ble_eq_true rfl) (fun _ => rfl) _ rfl (fun v u hp => ?_)
        obtain rfl := hp
        refine KJ.eqs (st' := .int (g5 (L.getD i 0)) :: []) rfl ?_
        refine KJ.topi (y := (nI (pi (L.getD i 0)))) (r5 _ hg) ?_
        refine n_if_le hC 24 30 dX1_pinnedOn_24 (by decide) (by omega) (fun h24 => ?_) (fun h24 => ?_)
        · skip
          refine k_iinc hC 30 0 (nI (i + 1)) [(3, .int (nI (i + 1))), (2, .int (nI (pc pi (L.take i)))), (0, .ref (a 0)), (1, .ref r)] dX1_pinnedOn_30 rfl (nI_1 _) (by decide) rfl ?_
          refine k_goto hC 33 4 dX1_pinnedOn_33 (by decide) ?_
          rw [← pc_sf h9 (by omega)]
          exact ih4 (i + 1) (by omega) (by omega)
        · skip
          refine k_iinc hC 27 1 (nI (pc pi (L.take i) + 1)) [(2, .int (nI (pc pi (L.take i) + 1))), (3, .int (nI i)), (0, .ref (a 0)), (1, .ref r)] dX1_pinnedOn_27 rfl (nI_1 _) (by decide) rfl ?_
          refine k_iinc hC 30 1 (nI (i + 1)) [(3, .int (nI (i + 1))), (2, .int (nI (pc pi (L.take i) + 1))), (0, .ref (a 0)), (1, .ref r)] dX1_pinnedOn_30 rfl (nI_1 _) (by decide) rfl ?_
          refine k_goto hC 33 4 dX1_pinnedOn_33 (by decide) ?_
          rw [← pc_st h9 h24]
          exact ih4 (i + 1) (by omega) (by omega)
  exact loop4 (L.length + 1) 0 (by omega) (by omega)
set_option maxHeartbeats 4000000 in
set_option maxRecDepth 100000 in
/-- pinnedJars -/
theorem c_X1_pinnedJars (l : Launch) (D : va_G) (a : Nat → Nat) (N T A B : List Nat) (to pi : Nat → Nat) (fe : Nat → Int32) (pl go : Nat) (hi mi re lo : Int32) (g0 g1 g2 g3 g4 g5 g6 : Nat → Int32) (hS : SR (N, T, A, B, to, pi, fe, pl, go, hi, mi, re, lo) (g0, g1, g2, g3, g4, g5, g6)) (hW : WF (N, T, A, B, to, pi, fe, pl, go, hi, mi, re, lo)) : MU l yX1_pinnedJars cX1_pinnedJars 1 (some .int) 2 44 D [.ref (a 0)] [((a 0), .inr (1, [.ref (a 1), .ref (a 3), .ref (a 5), .ref (a 7), .ref (a 9), .ref (a 11), .ref (a 13), .int (nI pl), .int (nI go), .int hi, .int mi, .int re, .int lo])), ((a 1), .inr (0, [.ref (a 2), .int (nI N.length)])), ((a 2), .inl (D.1 20, 40, .inl g0)), ((a 3), .inr (0, [.ref (a 4), .int (nI T.length)])), ((a 4), .inl (D.1 20, 40, .inl g1)), ((a 5), .inr (0, [.ref (a 6), .int (nI A.length)])), ((a 6), .inl (D.1 20, 40, .inl g2)), ((a 7), .inr (0, [.ref (a 8), .int (nI B.length)])), ((a 8), .inl (D.1 20, 40, .inl g3)), ((a 9), .inr (2, [.ref (a 10)])), ((a 10), .inl (D.1 20, 40, .inl g4)), ((a 11), .inr (2, [.ref (a 12)])), ((a 12), .inl (D.1 20, 40, .inl g5)), ((a 13), .inr (2, [.ref (a 14)])), ((a 14), .inl (D.1 20, 40, .inl g6))] (fun v (_ : Unit) => v = some (.int (nI (pc pi N + pc pi T)))) (fun _ => [((a 0), .inr (1, [.ref (a 1), .ref (a 3), .ref (a 5), .ref (a 7), .ref (a 9), .ref (a 11), .ref (a 13), .int (nI pl), .int (nI go), .int hi, .int mi, .int re, .int lo])), ((a 1), .inr (0, [.ref (a 2), .int (nI N.length)])), ((a 2), .inl (D.1 20, 40, .inl g0)), ((a 3), .inr (0, [.ref (a 4), .int (nI T.length)])), ((a 4), .inl (D.1 20, 40, .inl g1)), ((a 5), .inr (0, [.ref (a 6), .int (nI A.length)])), ((a 6), .inl (D.1 20, 40, .inl g2)), ((a 7), .inr (0, [.ref (a 8), .int (nI B.length)])), ((a 8), .inl (D.1 20, 40, .inl g3)), ((a 9), .inr (2, [.ref (a 10)])), ((a 10), .inl (D.1 20, 40, .inl g4)), ((a 11), .inr (2, [.ref (a 12)])), ((a 12), .inl (D.1 20, 40, .inl g5)), ((a 13), .inr (2, [.ref (a 14)])), ((a 14), .inl (D.1 20, 40, .inl g6))]) 0 0 := by
  refine MU.enter (by decide) [(0, .ref (a 0))] rfl (Nat.le_of_ble_eq_true rfl) (fun G hC hE => ?_)
  have hC : CX G D cX1_pinnedJars RX1 1 := hC
  have hS0 := hS
  have hW0 := hW
  obtain ⟨r0, r1, r2, r3, r4, r5, r6⟩ := hS
  obtain ⟨kN, kT, kA, kB, nd, len, lA, lB, p2, p12, g12, t1, p9⟩ := hW
  refine k_aload_n hC 0 dX1_pinnedJars_0 rfl ?_
  refine k_aload_n hC 1 dX1_pinnedJars_1 rfl ?_
  refine k_getf hC 2 0 0 dX1_pinnedJars_2 rfl rfl inlX1 (by decide) wq_1_22 rfl ?_
  refine k_callVr hC 5 0 [0, 1, 2, 11, 12] (c_X1_pinnedOn l D a pl go hi mi re lo (a 1) (a 2) N g0 pi g5 r0 (by omega) kN r5 p9) cw_RX1_73 dX1_pinnedJars_5 ⟨Nat.le_of_ble_eq_true rfl, Nat.le_of_ble_eq_true rfl, Nat.le_of_ble_eq_true rfl, Nat.le_of_ble_eq_true rfl⟩ rfl (Nat.le_of_ble_eq_true rfl) rfl rfl rfl (by decide) rfl (fun _ => Nat.le_of_ble_eq_true rfl) (fun _ => rfl) _ rfl (fun v u hp => ?_)
  obtain rfl := hp
  refine KJ.eqs (st' := .int (nI (pc pi N)) :: []) rfl ?_
  refine k_aload_n hC 8 dX1_pinnedJars_8 rfl ?_
  refine k_aload_n hC 9 dX1_pinnedJars_9 rfl ?_
  refine k_getf hC 10 0 1 dX1_pinnedJars_10 rfl rfl inlX1 (by decide) wq_1_23 rfl ?_
  refine k_callVr hC 13 0 [0, 3, 4, 11, 12] (c_X1_pinnedOn l D a pl go hi mi re lo (a 3) (a 4) T g1 pi g5 r1 (by omega) kT r5 p9) cw_RX1_73 dX1_pinnedJars_13 ⟨Nat.le_of_ble_eq_true rfl, Nat.le_of_ble_eq_true rfl, Nat.le_of_ble_eq_true rfl, Nat.le_of_ble_eq_true rfl⟩ rfl (Nat.le_of_ble_eq_true rfl) rfl rfl rfl (by decide) rfl (fun _ => Nat.le_of_ble_eq_true rfl) (fun _ => rfl) _ rfl (fun v u hp => ?_)
  obtain rfl := hp
  refine KJ.eqs (st' := .int (nI (pc pi T)) :: .int (nI (pc pi N)) :: []) rfl ?_
  refine n_iadd hC 16 ((pc pi N) + (pc pi T)) dX1_pinnedJars_16 rfl ?_
  exact k_iret hC hE 17 () dX1_pinnedJars_17 rfl rfl rfl ⟨Nat.zero_le _, Nat.zero_le _⟩
set_option maxHeartbeats 4000000 in
set_option maxRecDepth 100000 in
/-- forecast -/
theorem c_X1_forecast (l : Launch) (D : va_G) (a : Nat → Nat) (N T A B : List Nat) (to pi : Nat → Nat) (fe : Nat → Int32) (pl go : Nat) (hi mi re lo : Int32) (g0 g1 g2 g3 g4 g5 g6 : Nat → Int32) (k : Nat) (hS : SR (N, T, A, B, to, pi, fe, pl, go, hi, mi, re, lo) (g0, g1, g2, g3, g4, g5, g6)) (hW : WF (N, T, A, B, to, pi, fe, pl, go, hi, mi, re, lo)) (hk : k < 40) : MU l yX1_forecast cX1_forecast 2 (some .int) 3 64 D [.ref (a 0), .int (nI k)] [((a 0), .inr (1, [.ref (a 1), .ref (a 3), .ref (a 5), .ref (a 7), .ref (a 9), .ref (a 11), .ref (a 13), .int (nI pl), .int (nI go), .int hi, .int mi, .int re, .int lo])), ((a 1), .inr (0, [.ref (a 2), .int (nI N.length)])), ((a 2), .inl (D.1 20, 40, .inl g0)), ((a 3), .inr (0, [.ref (a 4), .int (nI T.length)])), ((a 4), .inl (D.1 20, 40, .inl g1)), ((a 5), .inr (0, [.ref (a 6), .int (nI A.length)])), ((a 6), .inl (D.1 20, 40, .inl g2)), ((a 7), .inr (0, [.ref (a 8), .int (nI B.length)])), ((a 8), .inl (D.1 20, 40, .inl g3)), ((a 9), .inr (2, [.ref (a 10)])), ((a 10), .inl (D.1 20, 40, .inl g4)), ((a 11), .inr (2, [.ref (a 12)])), ((a 12), .inl (D.1 20, 40, .inl g5)), ((a 13), .inr (2, [.ref (a 14)])), ((a 14), .inl (D.1 20, 40, .inl g6))] (fun v (_ : Unit) => v = some (.int (ocI (oc (N, T, A, B, to, pi, fe, pl, go, hi, mi, re, lo) k)))) (fun _ => [((a 0), .inr (1, [.ref (a 1), .ref (a 3), .ref (a 5), .ref (a 7), .ref (a 9), .ref (a 11), .ref (a 13), .int (nI pl), .int (nI go), .int hi, .int mi, .int re, .int lo])), ((a 1), .inr (0, [.ref (a 2), .int (nI N.length)])), ((a 2), .inl (D.1 20, 40, .inl g0)), ((a 3), .inr (0, [.ref (a 4), .int (nI T.length)])), ((a 4), .inl (D.1 20, 40, .inl g1)), ((a 5), .inr (0, [.ref (a 6), .int (nI A.length)])), ((a 6), .inl (D.1 20, 40, .inl g2)), ((a 7), .inr (0, [.ref (a 8), .int (nI B.length)])), ((a 8), .inl (D.1 20, 40, .inl g3)), ((a 9), .inr (2, [.ref (a 10)])), ((a 10), .inl (D.1 20, 40, .inl g4)), ((a 11), .inr (2, [.ref (a 12)])), ((a 12), .inl (D.1 20, 40, .inl g5)), ((a 13), .inr (2, [.ref (a 14)])), ((a 14), .inl (D.1 20, 40, .inl g6))]) 0 0 := by
  refine MU.enter (by decide) [(0, .ref (a 0)), (1, .int (nI k))] rfl (Nat.le_of_ble_eq_true rfl) (fun G hC hE => ?_)
  have hC : CX G D cX1_forecast RX1 2 := hC
  have hS0 := hS
  have hW0 := hW
  obtain ⟨r0, r1, r2, r3, r4, r5, r6⟩ := hS
  obtain ⟨kN, kT, kA, kB, nd, len, lA, lB, p2, p12, g12, t1, p9⟩ := hW
  have q0 := pc_le pi N
  have q1 := pc_le pi T
  refine k_aload_n hC 0 dX1_forecast_0 rfl ?_
  refine k_iload_n hC 1 dX1_forecast_1 rfl ?_
  refine k_callVr hC 2 0 [0, 1, 2, 3, 4, 5, 6, 7, 8, 9, 10, 11, 12, 13, 14] (c_X1_hasJar l D a N T A B to pi fe pl go hi mi re lo g0 g1 g2 g3 g4 g5 g6 k hS0 hW0 hk) cw_RX1_84 dX1_forecast_2 ⟨Nat.le_of_ble_eq_true rfl, Nat.le_of_ble_eq_true rfl, Nat.le_of_ble_eq_true rfl, Nat.le_of_ble_eq_true rfl⟩ rfl (Nat.le_of_ble_eq_true rfl) rfl rfl rfl (by decide) rfl (fun _ => Nat.le_of_ble_eq_true rfl) (fun _ => rfl) _ rfl (fun v u hp => ?_)
  obtain rfl := hp
  refine KJ.eqs (st' := .int (nI (yn (k ∈ N ∨ k ∈ T))) :: []) rfl ?_
  refine n_if_eq hC 5 10 dX1_forecast_5 (by decide) (Nat.lt_of_le_of_lt yn_le (by decide)) (fun h5 => ?_) (fun h5 => ?_)
  · skip
    refine k_aload_n hC 10 dX1_forecast_10 rfl ?_
    refine k_callVr hC 11 0 [0, 1, 2, 3, 4, 5, 6, 7, 8, 9, 10, 11, 12, 13, 14] (c_X1_jars l D a N T A B to pi fe pl go hi mi re lo g0 g1 g2 g3 g4 g5 g6 hS0 hW0) cw_RX1_87 dX1_forecast_11 ⟨Nat.le_of_ble_eq_true rfl, Nat.le_of_ble_eq_true rfl, Nat.le_of_ble_eq_true rfl, Nat.le_of_ble_eq_true rfl⟩ rfl (Nat.le_of_ble_eq_true rfl) rfl rfl rfl (by decide) rfl (fun _ => Nat.le_of_ble_eq_true rfl) (fun _ => rfl) _ rfl (fun v u hp => ?_)
    obtain rfl := hp
    refine KJ.eqs (st' := .int (nI (N.length + T.length)) :: []) rfl ?_
    refine k_aload_n hC 14 dX1_forecast_14 rfl ?_
    refine k_getf hC 15 0 7 dX1_forecast_15 rfl rfl inlX1 (by decide) wq_2_8 rfl ?_
    refine n_icmp_lt hC 18 35 dX1_forecast_18 (by decide) (by omega) (by omega) (fun h18 => ?_) (fun h18 => ?_)
    · skip
      refine k_aload_n hC 35 dX1_forecast_35 rfl ?_
      refine k_getf hC 36 0 2 dX1_forecast_36 rfl rfl inlX1 (by decide) wq_2_0 rfl ?_
      refine k_iload_n hC 39 dX1_forecast_39 rfl ?_
      refine k_callVr hC 40 5 [5, 6] (c_X0_has l D (a 5) (a 6) A g2 k r2 (by omega) kA hk) cw_RX1_66 dX1_forecast_40 ⟨Nat.le_of_ble_eq_true rfl, Nat.le_of_ble_eq_true rfl, Nat.le_of_ble_eq_true rfl, Nat.le_of_ble_eq_true rfl⟩ rfl (Nat.le_of_ble_eq_true rfl) rfl rfl rfl (by decide) rfl (fun _ => Nat.le_of_ble_eq_true rfl) (fun _ => rfl) _ rfl (fun v u hp => ?_)
      obtain rfl := hp
      refine KJ.eqs (st' := .int (nI (yn (k ∈ A))) :: []) rfl ?_
      refine n_if_eq hC 43 48 dX1_forecast_43 (by decide) (Nat.lt_of_le_of_lt yn_le (by decide)) (fun h43 => ?_) (fun h43 => ?_)
      · skip
        refine k_aload_n hC 48 dX1_forecast_48 rfl ?_
        refine k_getf hC 49 0 3 dX1_forecast_49 rfl rfl inlX1 (by decide) wq_2_1 rfl ?_
        refine k_iload_n hC 52 dX1_forecast_52 rfl ?_
        refine k_callVr hC 53 7 [7, 8] (c_X0_has l D (a 7) (a 8) B g3 k r3 (by omega) kB hk) cw_RX1_66 dX1_forecast_53 ⟨Nat.le_of_ble_eq_true rfl, Nat.le_of_ble_eq_true rfl, Nat.le_of_ble_eq_true rfl, Nat.le_of_ble_eq_true rfl⟩ rfl (Nat.le_of_ble_eq_true rfl) rfl rfl rfl (by decide) rfl (fun _ => Nat.le_of_ble_eq_true rfl) (fun _ => rfl) _ rfl (fun v u hp => ?_)
        obtain rfl := hp
        refine KJ.eqs (st' := .int (nI (yn (k ∈ B))) :: []) rfl ?_
        refine n_if_eq hC 56 63 dX1_forecast_56 (by decide) (Nat.lt_of_le_of_lt yn_le (by decide)) (fun h56 => ?_) (fun h56 => ?_)
        · skip
          refine k_iconst hC 63 dX1_forecast_63 (nI 1) (by decide) ?_
          exact k_iret hC hE 64 () dX1_forecast_64 rfl (by show _ = some (Value.int (ocI (if _ then _ else _))); rw [if_neg (yn_0.mp h5), if_neg (by omega), if_neg (yn_0.mp h43), if_neg (yn_0.mp h56)]; rfl) rfl ⟨Nat.zero_le _, Nat.zero_le _⟩
        · skip
          refine k_iconst hC 59 dX1_forecast_59 (nI 3) (by decide) ?_
          refine k_goto hC 60 64 dX1_forecast_60 (by decide) ?_
          exact k_iret hC hE 64 () dX1_forecast_64 rfl (by show _ = some (Value.int (ocI (if _ then _ else _))); rw [if_neg (yn_0.mp h5), if_neg (by omega), if_neg (yn_0.mp h43), if_pos (Classical.byContradiction (fun z => h56 (yn_f z)))]; rfl) rfl ⟨Nat.zero_le _, Nat.zero_le _⟩
      · skip
        refine k_iconst hC 46 dX1_forecast_46 (nI 2) (by decide) ?_
        exact k_iret hC hE 47 () dX1_forecast_47 rfl (by show _ = some (Value.int (ocI (if _ then _ else _))); rw [if_neg (yn_0.mp h5), if_neg (by omega), if_pos (Classical.byContradiction (fun z => h43 (yn_f z)))]; rfl) rfl ⟨Nat.zero_le _, Nat.zero_le _⟩
    · skip
      refine k_aload_n hC 21 dX1_forecast_21 rfl ?_
      refine k_callVr hC 22 0 [0, 1, 2, 3, 4, 5, 6, 7, 8, 9, 10, 11, 12, 13, 14] (c_X1_pinnedJars l D a N T A B to pi fe pl go hi mi re lo g0 g1 g2 g3 g4 g5 g6 hS0 hW0) cw_RX1_91 dX1_forecast_22 ⟨Nat.le_of_ble_eq_true rfl, Nat.le_of_ble_eq_true rfl, Nat.le_of_ble_eq_true rfl, Nat.le_of_ble_eq_true rfl⟩ rfl (Nat.le_of_ble_eq_true rfl) rfl rfl rfl (by decide) rfl (fun _ => Nat.le_of_ble_eq_true rfl) (fun _ => rfl) _ rfl (fun v u hp => ?_)
      obtain rfl := hp
      refine KJ.eqs (st' := .int (nI (pc pi N + pc pi T)) :: []) rfl ?_
      refine k_aload_n hC 25 dX1_forecast_25 rfl ?_
      refine k_callVr hC 26 0 [0, 1, 2, 3, 4, 5, 6, 7, 8, 9, 10, 11, 12, 13, 14] (c_X1_jars l D a N T A B to pi fe pl go hi mi re lo g0 g1 g2 g3 g4 g5 g6 hS0 hW0) cw_RX1_87 dX1_forecast_26 ⟨Nat.le_of_ble_eq_true rfl, Nat.le_of_ble_eq_true rfl, Nat.le_of_ble_eq_true rfl, Nat.le_of_ble_eq_true rfl⟩ rfl (Nat.le_of_ble_eq_true rfl) rfl rfl rfl (by decide) rfl (fun _ => Nat.le_of_ble_eq_true rfl) (fun _ => rfl) _ rfl (fun v u hp => ?_)
      obtain rfl := hp
      refine KJ.eqs (st' := .int (nI (N.length + T.length)) :: .int (nI (pc pi N + pc pi T)) :: []) rfl ?_
      refine n_icmp_lt hC 29 35 dX1_forecast_29 (by decide) (by omega) (by omega) (fun h29 => ?_) (fun h29 => ?_)
      · skip
        refine k_aload_n hC 35 dX1_forecast_35 rfl ?_
        refine k_getf hC 36 0 2 dX1_forecast_36 rfl rfl inlX1 (by decide) wq_2_0 rfl ?_
        refine k_iload_n hC 39 dX1_forecast_39 rfl ?_
        refine k_callVr hC 40 5 [5, 6] (c_X0_has l D (a 5) (a 6) A g2 k r2 (by omega) kA hk) cw_RX1_66 dX1_forecast_40 ⟨Nat.le_of_ble_eq_true rfl, Nat.le_of_ble_eq_true rfl, Nat.le_of_ble_eq_true rfl, Nat.le_of_ble_eq_true rfl⟩ rfl (Nat.le_of_ble_eq_true rfl) rfl rfl rfl (by decide) rfl (fun _ => Nat.le_of_ble_eq_true rfl) (fun _ => rfl) _ rfl (fun v u hp => ?_)
        obtain rfl := hp
        refine KJ.eqs (st' := .int (nI (yn (k ∈ A))) :: []) rfl ?_
        refine n_if_eq hC 43 48 dX1_forecast_43 (by decide) (Nat.lt_of_le_of_lt yn_le (by decide)) (fun h43 => ?_) (fun h43 => ?_)
        · skip
          refine k_aload_n hC 48 dX1_forecast_48 rfl ?_
          refine k_getf hC 49 0 3 dX1_forecast_49 rfl rfl inlX1 (by decide) wq_2_1 rfl ?_
          refine k_iload_n hC 52 dX1_forecast_52 rfl ?_
          refine k_callVr hC 53 7 [7, 8] (c_X0_has l D (a 7) (a 8) B g3 k r3 (by omega) kB hk) cw_RX1_66 dX1_forecast_53 ⟨Nat.le_of_ble_eq_true rfl, Nat.le_of_ble_eq_true rfl, Nat.le_of_ble_eq_true rfl, Nat.le_of_ble_eq_true rfl⟩ rfl (Nat.le_of_ble_eq_true rfl) rfl rfl rfl (by decide) rfl (fun _ => Nat.le_of_ble_eq_true rfl) (fun _ => rfl) _ rfl (fun v u hp => ?_)
          obtain rfl := hp
          refine KJ.eqs (st' := .int (nI (yn (k ∈ B))) :: []) rfl ?_
          refine n_if_eq hC 56 63 dX1_forecast_56 (by decide) (Nat.lt_of_le_of_lt yn_le (by decide)) (fun h56 => ?_) (fun h56 => ?_)
          · skip
            refine k_iconst hC 63 dX1_forecast_63 (nI 1) (by decide) ?_
            exact k_iret hC hE 64 () dX1_forecast_64 rfl (by show _ = some (Value.int (ocI (if _ then _ else _))); rw [if_neg (yn_0.mp h5), if_neg (by omega), if_neg (yn_0.mp h43), if_neg (yn_0.mp h56)]; rfl) rfl ⟨Nat.zero_le _, Nat.zero_le _⟩
          · skip
            refine k_iconst hC 59 dX1_forecast_59 (nI 3) (by decide) ?_
            refine k_goto hC 60 64 dX1_forecast_60 (by decide) ?_
            exact k_iret hC hE 64 () dX1_forecast_64 rfl (by show _ = some (Value.int (ocI (if _ then _ else _))); rw [if_neg (yn_0.mp h5), if_neg (by omega), if_neg (yn_0.mp h43), if_pos (Classical.byContradiction (fun z => h56 (yn_f z)))]; rfl) rfl ⟨Nat.zero_le _, Nat.zero_le _⟩
        · skip
          refine k_iconst hC 46 dX1_forecast_46 (nI 2) (by decide) ?_
          exact k_iret hC hE 47 () dX1_forecast_47 rfl (by show _ = some (Value.int (ocI (if _ then _ else _))); rw [if_neg (yn_0.mp h5), if_neg (by omega), if_pos (Classical.byContradiction (fun z => h43 (yn_f z)))]; rfl) rfl ⟨Nat.zero_le _, Nat.zero_le _⟩
      · skip
        refine k_bipush hC 32 dX1_forecast_32 (-9) (by decide) ?_
        exact k_iret hC hE 34 () dX1_forecast_34 rfl (by show _ = some (Value.int (ocI (if _ then _ else _))); rw [if_neg (yn_0.mp h5), if_pos ⟨h18, h29⟩]; rfl) rfl ⟨Nat.zero_le _, Nat.zero_le _⟩
  · skip
    refine k_iconst hC 8 dX1_forecast_8 (nI 0) (by decide) ?_
    exact k_iret hC hE 9 () dX1_forecast_9 rfl (by show _ = some (Value.int (ocI (if _ then _ else _))); rw [if_pos (Classical.byContradiction (fun z => h5 (yn_f z)))]; rfl) rfl ⟨Nat.zero_le _, Nat.zero_le _⟩
set_option maxHeartbeats 4000000 in
set_option maxRecDepth 100000 in
/-- givingShelf -/
theorem c_X1_givingShelf (l : Launch) (D : va_G) (a : Nat → Nat) (N T A B : List Nat) (to pi : Nat → Nat) (fe : Nat → Int32) (pl go : Nat) (hi mi re lo : Int32) (g0 g1 g2 g3 g4 g5 g6 : Nat → Int32) (hS : SR (N, T, A, B, to, pi, fe, pl, go, hi, mi, re, lo) (g0, g1, g2, g3, g4, g5, g6)) (hW : WF (N, T, A, B, to, pi, fe, pl, go, hi, mi, re, lo)) : MU l yX1_givingShelf cX1_givingShelf 4 (some .int) 2 44 D [.ref (a 0)] [((a 0), .inr (1, [.ref (a 1), .ref (a 3), .ref (a 5), .ref (a 7), .ref (a 9), .ref (a 11), .ref (a 13), .int (nI pl), .int (nI go), .int hi, .int mi, .int re, .int lo])), ((a 1), .inr (0, [.ref (a 2), .int (nI N.length)])), ((a 2), .inl (D.1 20, 40, .inl g0)), ((a 3), .inr (0, [.ref (a 4), .int (nI T.length)])), ((a 4), .inl (D.1 20, 40, .inl g1)), ((a 5), .inr (0, [.ref (a 6), .int (nI A.length)])), ((a 6), .inl (D.1 20, 40, .inl g2)), ((a 7), .inr (0, [.ref (a 8), .int (nI B.length)])), ((a 8), .inl (D.1 20, 40, .inl g3)), ((a 9), .inr (2, [.ref (a 10)])), ((a 10), .inl (D.1 20, 40, .inl g4)), ((a 11), .inr (2, [.ref (a 12)])), ((a 12), .inl (D.1 20, 40, .inl g5)), ((a 13), .inr (2, [.ref (a 14)])), ((a 14), .inl (D.1 20, 40, .inl g6))] (fun v (_ : Unit) => v = some (.int (nI (gv N T pi go)))) (fun _ => [((a 0), .inr (1, [.ref (a 1), .ref (a 3), .ref (a 5), .ref (a 7), .ref (a 9), .ref (a 11), .ref (a 13), .int (nI pl), .int (nI go), .int hi, .int mi, .int re, .int lo])), ((a 1), .inr (0, [.ref (a 2), .int (nI N.length)])), ((a 2), .inl (D.1 20, 40, .inl g0)), ((a 3), .inr (0, [.ref (a 4), .int (nI T.length)])), ((a 4), .inl (D.1 20, 40, .inl g1)), ((a 5), .inr (0, [.ref (a 6), .int (nI A.length)])), ((a 6), .inl (D.1 20, 40, .inl g2)), ((a 7), .inr (0, [.ref (a 8), .int (nI B.length)])), ((a 8), .inl (D.1 20, 40, .inl g3)), ((a 9), .inr (2, [.ref (a 10)])), ((a 10), .inl (D.1 20, 40, .inl g4)), ((a 11), .inr (2, [.ref (a 12)])), ((a 12), .inl (D.1 20, 40, .inl g5)), ((a 13), .inr (2, [.ref (a 14)])), ((a 14), .inl (D.1 20, 40, .inl g6))]) 0 0 := by
  refine MU.enter (by decide) [(0, .ref (a 0))] rfl (Nat.le_of_ble_eq_true rfl) (fun G hC hE => ?_)
  have hC : CX G D cX1_givingShelf RX1 4 := hC
  have hS0 := hS
  have hW0 := hW
  obtain ⟨r0, r1, r2, r3, r4, r5, r6⟩ := hS
  obtain ⟨kN, kT, kA, kB, nd, len, lA, lB, p2, p12, g12, t1, p9⟩ := hW
  have q0 := pc_le pi N
  have q1 := pc_le pi T
  have hmx : max 1 go ≤ 13 := by omega
  refine k_aload_n hC 0 dX1_givingShelf_0 rfl ?_
  refine k_aload_n hC 1 dX1_givingShelf_1 rfl ?_
  refine k_getf hC 2 0 0 dX1_givingShelf_2 rfl rfl inlX1 (by decide) wq_1_22 rfl ?_
  refine k_callVr hC 5 0 [0, 1, 2, 11, 12] (c_X1_pinnedOn l D a pl go hi mi re lo (a 1) (a 2) N g0 pi g5 r0 (by omega) kN r5 p9) cw_RX1_73 dX1_givingShelf_5 ⟨Nat.le_of_ble_eq_true rfl, Nat.le_of_ble_eq_true rfl, Nat.le_of_ble_eq_true rfl, Nat.le_of_ble_eq_true rfl⟩ rfl (Nat.le_of_ble_eq_true rfl) rfl rfl rfl (by decide) rfl (fun _ => Nat.le_of_ble_eq_true rfl) (fun _ => rfl) _ rfl (fun v u hp => ?_)
  obtain rfl := hp
  refine KJ.eqs (st' := .int (nI (pc pi N)) :: []) rfl ?_
  refine k_aload_n hC 8 dX1_givingShelf_8 rfl ?_
  refine k_getf hC 9 0 0 dX1_givingShelf_9 rfl rfl inlX1 (by decide) wq_1_22 rfl ?_
  refine k_getfN hC 12 1 1 dX1_givingShelf_12 rfl rfl inlX0 (by decide) hC.kt.2.1 rfl ?_
  refine n_icmp_ge hC 15 22 dX1_givingShelf_15 (by decide) (by omega) (by omega) (fun h15 => ?_) (fun h15 => ?_)
  · skip
    refine k_iconst hC 22 dX1_givingShelf_22 (nI 0) (by decide) ?_
    refine k_istore_n hC 23 1 [(1, .int (nI 0)), (0, .ref (a 0))] dX1_givingShelf_23 rfl (by decide) rfl ?_
    refine k_aload_n hC 24 dX1_givingShelf_24 rfl ?_
    refine k_getf hC 25 0 0 dX1_givingShelf_25 rfl rfl inlX1 (by decide) wq_1_22 rfl ?_
    refine k_getfN hC 28 1 1 dX1_givingShelf_28 rfl rfl inlX0 (by decide) hC.kt.2.1 rfl ?_
    refine k_iconst hC 31 dX1_givingShelf_31 (nI 1) (by decide) ?_
    refine k_aload_n hC 32 dX1_givingShelf_32 rfl ?_
    refine k_getf hC 33 0 8 dX1_givingShelf_33 rfl rfl inlX1 (by decide) wq_9_3 rfl ?_
    refine k_max hC 36 dX1_givingShelf_36 wq_9_23 wq_10_0 wq_9_6 wq_10_1 ⟨Nat.le_of_ble_eq_true rfl, Nat.le_of_ble_eq_true rfl, Nat.le_of_ble_eq_true rfl, Nat.le_of_ble_eq_true rfl⟩ (KJ.topi (y := (nI (max 1 go))) (nmax (by decide) (by omega)) ?_)
    refine n_icmp_lt hC 39 46 dX1_givingShelf_39 (by decide) (by omega) (by omega) (fun h39 => ?_) (fun h39 => ?_)
    · skip
      refine k_iconst hC 46 dX1_givingShelf_46 (nI 0) (by decide) ?_
      refine k_istore_n hC 47 2 [(2, .int (nI 0)), (1, .int (nI 0)), (0, .ref (a 0))] dX1_givingShelf_47 rfl (by decide) rfl ?_
      refine k_aload_n hC 48 dX1_givingShelf_48 rfl ?_
      refine k_aload_n hC 49 dX1_givingShelf_49 rfl ?_
      refine k_getf hC 50 0 1 dX1_givingShelf_50 rfl rfl inlX1 (by decide) wq_1_23 rfl ?_
      refine k_callVr hC 53 0 [0, 3, 4, 11, 12] (c_X1_pinnedOn l D a pl go hi mi re lo (a 3) (a 4) T g1 pi g5 r1 (by omega) kT r5 p9) cw_RX1_73 dX1_givingShelf_53 ⟨Nat.le_of_ble_eq_true rfl, Nat.le_of_ble_eq_true rfl, Nat.le_of_ble_eq_true rfl, Nat.le_of_ble_eq_true rfl⟩ rfl (Nat.le_of_ble_eq_true rfl) rfl rfl rfl (by decide) rfl (fun _ => Nat.le_of_ble_eq_true rfl) (fun _ => rfl) _ rfl (fun v u hp => ?_)
      obtain rfl := hp
      refine KJ.eqs (st' := .int (nI (pc pi T)) :: []) rfl ?_
      refine k_aload_n hC 56 dX1_givingShelf_56 rfl ?_
      refine k_getf hC 57 0 1 dX1_givingShelf_57 rfl rfl inlX1 (by decide) wq_1_23 rfl ?_
      refine k_getfN hC 60 3 1 dX1_givingShelf_60 rfl rfl inlX0 (by decide) hC.kt.2.1 rfl ?_
      refine n_icmp_lt hC 63 70 dX1_givingShelf_63 (by decide) (by omega) (by omega) (fun h63 => ?_) (fun h63 => ?_)
      · skip
        refine k_iconst hC 70 dX1_givingShelf_70 (nI 0) (by decide) ?_
        refine k_istore_n hC 71 3 [(3, .int (nI 0)), (2, .int (nI 0)), (1, .int (nI 0)), (0, .ref (a 0))] dX1_givingShelf_71 rfl (by decide) rfl ?_
        refine k_iload_n hC 72 dX1_givingShelf_72 rfl ?_
        refine n_if_eq hC 73 88 dX1_givingShelf_73 (by decide) (by omega) (fun h73 => ?_) (fun h73 => ?_)
        · skip
          refine k_iconst hC 88 dX1_givingShelf_88 (nI 1) (by decide) ?_
          exact k_iret hC hE 89 () dX1_givingShelf_89 rfl (by rw [gv, if_neg (by omega)]) rfl ⟨Nat.zero_le _, Nat.zero_le _⟩
        · skip
          exact absurd h73 (by decide)
      · skip
        refine k_iconst hC 66 dX1_givingShelf_66 (nI 1) (by decide) ?_
        refine k_goto hC 67 71 dX1_givingShelf_67 (by decide) ?_
        refine k_istore_n hC 71 3 [(3, .int (nI 1)), (2, .int (nI 0)), (1, .int (nI 0)), (0, .ref (a 0))] dX1_givingShelf_71 rfl (by decide) rfl ?_
        refine k_iload_n hC 72 dX1_givingShelf_72 rfl ?_
        refine n_if_eq hC 73 88 dX1_givingShelf_73 (by decide) (by omega) (fun h73 => ?_) (fun h73 => ?_)
        · skip
          refine k_iconst hC 88 dX1_givingShelf_88 (nI 1) (by decide) ?_
          exact k_iret hC hE 89 () dX1_givingShelf_89 rfl (by rw [gv, if_neg (by omega)]) rfl ⟨Nat.zero_le _, Nat.zero_le _⟩
        · skip
          exact absurd h73 (by decide)
    · skip
      refine k_iconst hC 42 dX1_givingShelf_42 (nI 1) (by decide) ?_
      refine k_goto hC 43 47 dX1_givingShelf_43 (by decide) ?_
      refine k_istore_n hC 47 2 [(2, .int (nI 1)), (1, .int (nI 0)), (0, .ref (a 0))] dX1_givingShelf_47 rfl (by decide) rfl ?_
      refine k_aload_n hC 48 dX1_givingShelf_48 rfl ?_
      refine k_aload_n hC 49 dX1_givingShelf_49 rfl ?_
      refine k_getf hC 50 0 1 dX1_givingShelf_50 rfl rfl inlX1 (by decide) wq_1_23 rfl ?_
      refine k_callVr hC 53 0 [0, 3, 4, 11, 12] (c_X1_pinnedOn l D a pl go hi mi re lo (a 3) (a 4) T g1 pi g5 r1 (by omega) kT r5 p9) cw_RX1_73 dX1_givingShelf_53 ⟨Nat.le_of_ble_eq_true rfl, Nat.le_of_ble_eq_true rfl, Nat.le_of_ble_eq_true rfl, Nat.le_of_ble_eq_true rfl⟩ rfl (Nat.le_of_ble_eq_true rfl) rfl rfl rfl (by decide) rfl (fun _ => Nat.le_of_ble_eq_true rfl) (fun _ => rfl) _ rfl (fun v u hp => ?_)
      obtain rfl := hp
      refine KJ.eqs (st' := .int (nI (pc pi T)) :: []) rfl ?_
      refine k_aload_n hC 56 dX1_givingShelf_56 rfl ?_
      refine k_getf hC 57 0 1 dX1_givingShelf_57 rfl rfl inlX1 (by decide) wq_1_23 rfl ?_
      refine k_getfN hC 60 3 1 dX1_givingShelf_60 rfl rfl inlX0 (by decide) hC.kt.2.1 rfl ?_
      refine n_icmp_lt hC 63 70 dX1_givingShelf_63 (by decide) (by omega) (by omega) (fun h63 => ?_) (fun h63 => ?_)
      · skip
        refine k_iconst hC 70 dX1_givingShelf_70 (nI 0) (by decide) ?_
        refine k_istore_n hC 71 3 [(3, .int (nI 0)), (2, .int (nI 1)), (1, .int (nI 0)), (0, .ref (a 0))] dX1_givingShelf_71 rfl (by decide) rfl ?_
        refine k_iload_n hC 72 dX1_givingShelf_72 rfl ?_
        refine n_if_eq hC 73 88 dX1_givingShelf_73 (by decide) (by omega) (fun h73 => ?_) (fun h73 => ?_)
        · skip
          refine k_iconst hC 88 dX1_givingShelf_88 (nI 1) (by decide) ?_
          exact k_iret hC hE 89 () dX1_givingShelf_89 rfl (by rw [gv, if_neg (by omega)]) rfl ⟨Nat.zero_le _, Nat.zero_le _⟩
        · skip
          exact absurd h73 (by decide)
      · skip
        refine k_iconst hC 66 dX1_givingShelf_66 (nI 1) (by decide) ?_
        refine k_goto hC 67 71 dX1_givingShelf_67 (by decide) ?_
        refine k_istore_n hC 71 3 [(3, .int (nI 1)), (2, .int (nI 1)), (1, .int (nI 0)), (0, .ref (a 0))] dX1_givingShelf_71 rfl (by decide) rfl ?_
        refine k_iload_n hC 72 dX1_givingShelf_72 rfl ?_
        refine n_if_eq hC 73 88 dX1_givingShelf_73 (by decide) (by omega) (fun h73 => ?_) (fun h73 => ?_)
        · skip
          refine k_iconst hC 88 dX1_givingShelf_88 (nI 1) (by decide) ?_
          exact k_iret hC hE 89 () dX1_givingShelf_89 rfl (by rw [gv, if_neg (by omega)]) rfl ⟨Nat.zero_le _, Nat.zero_le _⟩
        · skip
          exact absurd h73 (by decide)
  · skip
    refine k_iconst hC 18 dX1_givingShelf_18 (nI 1) (by decide) ?_
    refine k_goto hC 19 23 dX1_givingShelf_19 (by decide) ?_
    refine k_istore_n hC 23 1 [(1, .int (nI 1)), (0, .ref (a 0))] dX1_givingShelf_23 rfl (by decide) rfl ?_
    refine k_aload_n hC 24 dX1_givingShelf_24 rfl ?_
    refine k_getf hC 25 0 0 dX1_givingShelf_25 rfl rfl inlX1 (by decide) wq_1_22 rfl ?_
    refine k_getfN hC 28 1 1 dX1_givingShelf_28 rfl rfl inlX0 (by decide) hC.kt.2.1 rfl ?_
    refine k_iconst hC 31 dX1_givingShelf_31 (nI 1) (by decide) ?_
    refine k_aload_n hC 32 dX1_givingShelf_32 rfl ?_
    refine k_getf hC 33 0 8 dX1_givingShelf_33 rfl rfl inlX1 (by decide) wq_9_3 rfl ?_
    refine k_max hC 36 dX1_givingShelf_36 wq_9_23 wq_10_0 wq_9_6 wq_10_1 ⟨Nat.le_of_ble_eq_true rfl, Nat.le_of_ble_eq_true rfl, Nat.le_of_ble_eq_true rfl, Nat.le_of_ble_eq_true rfl⟩ (KJ.topi (y := (nI (max 1 go))) (nmax (by decide) (by omega)) ?_)
    refine n_icmp_lt hC 39 46 dX1_givingShelf_39 (by decide) (by omega) (by omega) (fun h39 => ?_) (fun h39 => ?_)
    · skip
      refine k_iconst hC 46 dX1_givingShelf_46 (nI 0) (by decide) ?_
      refine k_istore_n hC 47 2 [(2, .int (nI 0)), (1, .int (nI 1)), (0, .ref (a 0))] dX1_givingShelf_47 rfl (by decide) rfl ?_
      refine k_aload_n hC 48 dX1_givingShelf_48 rfl ?_
      refine k_aload_n hC 49 dX1_givingShelf_49 rfl ?_
      refine k_getf hC 50 0 1 dX1_givingShelf_50 rfl rfl inlX1 (by decide) wq_1_23 rfl ?_
      refine k_callVr hC 53 0 [0, 3, 4, 11, 12] (c_X1_pinnedOn l D a pl go hi mi re lo (a 3) (a 4) T g1 pi g5 r1 (by omega) kT r5 p9) cw_RX1_73 dX1_givingShelf_53 ⟨Nat.le_of_ble_eq_true rfl, Nat.le_of_ble_eq_true rfl, Nat.le_of_ble_eq_true rfl, Nat.le_of_ble_eq_true rfl⟩ rfl (Nat.le_of_ble_eq_true rfl) rfl rfl rfl (by decide) rfl (fun _ => Nat.le_of_ble_eq_true rfl) (fun _ => rfl) _ rfl (fun v u hp => ?_)
      obtain rfl := hp
      refine KJ.eqs (st' := .int (nI (pc pi T)) :: []) rfl ?_
      refine k_aload_n hC 56 dX1_givingShelf_56 rfl ?_
      refine k_getf hC 57 0 1 dX1_givingShelf_57 rfl rfl inlX1 (by decide) wq_1_23 rfl ?_
      refine k_getfN hC 60 3 1 dX1_givingShelf_60 rfl rfl inlX0 (by decide) hC.kt.2.1 rfl ?_
      refine n_icmp_lt hC 63 70 dX1_givingShelf_63 (by decide) (by omega) (by omega) (fun h63 => ?_) (fun h63 => ?_)
      · skip
        refine k_iconst hC 70 dX1_givingShelf_70 (nI 0) (by decide) ?_
        refine k_istore_n hC 71 3 [(3, .int (nI 0)), (2, .int (nI 0)), (1, .int (nI 1)), (0, .ref (a 0))] dX1_givingShelf_71 rfl (by decide) rfl ?_
        refine k_iload_n hC 72 dX1_givingShelf_72 rfl ?_
        refine n_if_eq hC 73 88 dX1_givingShelf_73 (by decide) (by omega) (fun h73 => ?_) (fun h73 => ?_)
        · skip
          exact absurd h73 (by decide)
        · skip
          refine k_iload_n hC 76 dX1_givingShelf_76 rfl ?_
          refine n_if_ne hC 77 84 dX1_givingShelf_77 (by decide) (by omega) (fun h77 => ?_) (fun h77 => ?_)
          · skip
            exact absurd h77 (by decide)
          · skip
            refine k_iload_n hC 80 dX1_givingShelf_80 rfl ?_
            refine n_if_eq hC 81 88 dX1_givingShelf_81 (by decide) (by omega) (fun h81 => ?_) (fun h81 => ?_)
            · skip
              refine k_iconst hC 88 dX1_givingShelf_88 (nI 1) (by decide) ?_
              exact k_iret hC hE 89 () dX1_givingShelf_89 rfl (by rw [gv, if_neg (by omega)]) rfl ⟨Nat.zero_le _, Nat.zero_le _⟩
            · skip
              exact absurd h81 (by decide)
      · skip
        refine k_iconst hC 66 dX1_givingShelf_66 (nI 1) (by decide) ?_
        refine k_goto hC 67 71 dX1_givingShelf_67 (by decide) ?_
        refine k_istore_n hC 71 3 [(3, .int (nI 1)), (2, .int (nI 0)), (1, .int (nI 1)), (0, .ref (a 0))] dX1_givingShelf_71 rfl (by decide) rfl ?_
        refine k_iload_n hC 72 dX1_givingShelf_72 rfl ?_
        refine n_if_eq hC 73 88 dX1_givingShelf_73 (by decide) (by omega) (fun h73 => ?_) (fun h73 => ?_)
        · skip
          exact absurd h73 (by decide)
        · skip
          refine k_iload_n hC 76 dX1_givingShelf_76 rfl ?_
          refine n_if_ne hC 77 84 dX1_givingShelf_77 (by decide) (by omega) (fun h77 => ?_) (fun h77 => ?_)
          · skip
            exact absurd h77 (by decide)
          · skip
            refine k_iload_n hC 80 dX1_givingShelf_80 rfl ?_
            refine n_if_eq hC 81 88 dX1_givingShelf_81 (by decide) (by omega) (fun h81 => ?_) (fun h81 => ?_)
            · skip
              exact absurd h81 (by decide)
            · skip
              refine k_iconst hC 84 dX1_givingShelf_84 (nI 0) (by decide) ?_
              refine k_goto hC 85 89 dX1_givingShelf_85 (by decide) ?_
              exact k_iret hC hE 89 () dX1_givingShelf_89 rfl (by rw [gv, if_pos (by omega)]) rfl ⟨Nat.zero_le _, Nat.zero_le _⟩
    · skip
      refine k_iconst hC 42 dX1_givingShelf_42 (nI 1) (by decide) ?_
      refine k_goto hC 43 47 dX1_givingShelf_43 (by decide) ?_
      refine k_istore_n hC 47 2 [(2, .int (nI 1)), (1, .int (nI 1)), (0, .ref (a 0))] dX1_givingShelf_47 rfl (by decide) rfl ?_
      refine k_aload_n hC 48 dX1_givingShelf_48 rfl ?_
      refine k_aload_n hC 49 dX1_givingShelf_49 rfl ?_
      refine k_getf hC 50 0 1 dX1_givingShelf_50 rfl rfl inlX1 (by decide) wq_1_23 rfl ?_
      refine k_callVr hC 53 0 [0, 3, 4, 11, 12] (c_X1_pinnedOn l D a pl go hi mi re lo (a 3) (a 4) T g1 pi g5 r1 (by omega) kT r5 p9) cw_RX1_73 dX1_givingShelf_53 ⟨Nat.le_of_ble_eq_true rfl, Nat.le_of_ble_eq_true rfl, Nat.le_of_ble_eq_true rfl, Nat.le_of_ble_eq_true rfl⟩ rfl (Nat.le_of_ble_eq_true rfl) rfl rfl rfl (by decide) rfl (fun _ => Nat.le_of_ble_eq_true rfl) (fun _ => rfl) _ rfl (fun v u hp => ?_)
      obtain rfl := hp
      refine KJ.eqs (st' := .int (nI (pc pi T)) :: []) rfl ?_
      refine k_aload_n hC 56 dX1_givingShelf_56 rfl ?_
      refine k_getf hC 57 0 1 dX1_givingShelf_57 rfl rfl inlX1 (by decide) wq_1_23 rfl ?_
      refine k_getfN hC 60 3 1 dX1_givingShelf_60 rfl rfl inlX0 (by decide) hC.kt.2.1 rfl ?_
      refine n_icmp_lt hC 63 70 dX1_givingShelf_63 (by decide) (by omega) (by omega) (fun h63 => ?_) (fun h63 => ?_)
      · skip
        refine k_iconst hC 70 dX1_givingShelf_70 (nI 0) (by decide) ?_
        refine k_istore_n hC 71 3 [(3, .int (nI 0)), (2, .int (nI 1)), (1, .int (nI 1)), (0, .ref (a 0))] dX1_givingShelf_71 rfl (by decide) rfl ?_
        refine k_iload_n hC 72 dX1_givingShelf_72 rfl ?_
        refine n_if_eq hC 73 88 dX1_givingShelf_73 (by decide) (by omega) (fun h73 => ?_) (fun h73 => ?_)
        · skip
          exact absurd h73 (by decide)
        · skip
          refine k_iload_n hC 76 dX1_givingShelf_76 rfl ?_
          refine n_if_ne hC 77 84 dX1_givingShelf_77 (by decide) (by omega) (fun h77 => ?_) (fun h77 => ?_)
          · skip
            refine k_iconst hC 84 dX1_givingShelf_84 (nI 0) (by decide) ?_
            refine k_goto hC 85 89 dX1_givingShelf_85 (by decide) ?_
            exact k_iret hC hE 89 () dX1_givingShelf_89 rfl (by rw [gv, if_pos (by omega)]) rfl ⟨Nat.zero_le _, Nat.zero_le _⟩
          · skip
            exact absurd h77 (by decide)
      · skip
        refine k_iconst hC 66 dX1_givingShelf_66 (nI 1) (by decide) ?_
        refine k_goto hC 67 71 dX1_givingShelf_67 (by decide) ?_
        refine k_istore_n hC 71 3 [(3, .int (nI 1)), (2, .int (nI 1)), (1, .int (nI 1)), (0, .ref (a 0))] dX1_givingShelf_71 rfl (by decide) rfl ?_
        refine k_iload_n hC 72 dX1_givingShelf_72 rfl ?_
        refine n_if_eq hC 73 88 dX1_givingShelf_73 (by decide) (by omega) (fun h73 => ?_) (fun h73 => ?_)
        · skip
          exact absurd h73 (by decide)
        · skip
          refine k_iload_n hC 76 dX1_givingShelf_76 rfl ?_
          refine n_if_ne hC 77 84 dX1_givingShelf_77 (by decide) (by omega) (fun h77 => ?_) (fun h77 => ?_)
          · skip
            refine k_iconst hC 84 dX1_givingShelf_84 (nI 0) (by decide) ?_
            refine k_goto hC 85 89 dX1_givingShelf_85 (by decide) ?_
            exact k_iret hC hE 89 () dX1_givingShelf_89 rfl (by rw [gv, if_pos (by omega)]) rfl ⟨Nat.zero_le _, Nat.zero_le _⟩
          · skip
            exact absurd h77 (by decide)
set_option maxHeartbeats 4000000 in
set_option maxRecDepth 100000 in
/-- turn -/
theorem c_X1_turn (l : Launch) (D : va_G) (r q r2 q2 : Nat) (x y : Nat) (hx : x ≤ 40) (hy : y ≤ 40) : MU l yX1_turn cX1_turn 3 (some .int) 1 13 D [.ref r, .ref r2] [(r, .inr (0, [.ref q, .int (nI x)])), (r2, .inr (0, [.ref q2, .int (nI y)]))] (fun v (_ : Unit) => v = some (.int (nI (max 1 (x / y))))) (fun _ => [(r, .inr (0, [.ref q, .int (nI x)])), (r2, .inr (0, [.ref q2, .int (nI y)]))]) 0 0 := by
  refine MU.enter (by decide) [(0, .ref r), (1, .ref r2)] rfl (Nat.le_of_ble_eq_true rfl) (fun G hC hE => ?_)
  have hC : CX G D cX1_turn RX1 3 := hC
  refine k_aload_n hC 0 dX1_turn_0 rfl ?_
  refine k_getfN hC 1 1 1 dX1_turn_1 rfl rfl inlX0 (by decide) hC.kt.2.1 rfl ?_
  refine k_istore_n hC 4 2 [(2, .int (nI y)), (0, .ref r), (1, .ref r2)] dX1_turn_4 rfl (by decide) rfl ?_
  refine k_iload_n hC 5 dX1_turn_5 rfl ?_
  refine k_iconst hC 6 dX1_turn_6 (nI 1) (by decide) ?_
  refine n_icmp_ge hC 7 14 dX1_turn_7 (by decide) (by omega) (by omega) (fun h7 => ?_) (fun h7 => ?_)
  · skip
    refine k_iconst hC 14 dX1_turn_14 (nI 1) (by decide) ?_
    refine k_aload_n hC 15 dX1_turn_15 rfl ?_
    refine k_getfN hC 16 0 1 dX1_turn_16 rfl rfl inlX0 (by decide) hC.kt.2.1 rfl ?_
    refine k_iload_n hC 19 dX1_turn_19 rfl ?_
    refine k_idiv hC 20 dX1_turn_20 (nI_ne0 (by omega) (by omega)) (KJ.topi (y := (nI (x / y))) (pk_div (by omega) (by omega) (by omega)) ?_)
    refine k_max hC 21 dX1_turn_21 wq_9_23 wq_10_0 wq_9_6 wq_10_1 ⟨Nat.le_of_ble_eq_true rfl, Nat.le_of_ble_eq_true rfl, Nat.le_of_ble_eq_true rfl, Nat.le_of_ble_eq_true rfl⟩ (KJ.topi (y := (nI (max 1 (x / y)))) (nmax (by decide) (Nat.lt_of_le_of_lt (Nat.div_le_self x y) (by omega))) ?_)
    exact k_iret hC hE 24 () dX1_turn_24 rfl rfl rfl ⟨Nat.zero_le _, Nat.zero_le _⟩
  · skip
    refine k_iconst hC 10 dX1_turn_10 (nI 1) (by decide) ?_
    refine k_goto hC 11 24 dX1_turn_11 (by decide) ?_
    exact k_iret hC hE 24 () dX1_turn_24 rfl (by rw [show y = 0 by omega, Nat.div_zero]; rfl) rfl ⟨Nat.zero_le _, Nat.zero_le _⟩
