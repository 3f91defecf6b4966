set_option maxHeartbeats 4000000 in
set_option maxRecDepth 100000 in
/-- requireKind -/
theorem c_X3_requireKind (l : Launch) (hfl : l.stackTraces = false) (D : va_G) (p : Int32)  : MX l yX3_requireKind cX3_requireKind 1 none 6 82 D [.int p] [] (fun v (_ : Unit) => v = none ∧ Ck p) (fun _ => []) (fun E => E = eB ∧ ¬ Ck p) 1 6 := by
  refine MX.enter hfl (by decide) [(0, .int p)] rfl (Nat.le_of_ble_eq_true rfl) (fun G hC hE hX => ?_)
  have hC : CX G D cX3_requireKind RX3 1 := hC
  refine k_iload_n hC 0 dX3_requireKind_0 rfl ?_
  refine k_if_lt hC 1 10 dX3_requireKind_1 (by decide) (fun h1 => ?_) (fun h1 => ?_)
  · skip
    exact x_throw (tx := "a kind is 0 to 39") hC hE hX 10 (by decide +kernel) wq_3_23 wq_4_0 (by decide +kernel) go_B ng_B ot_B dX3_requireKind_10 dX3_requireKind_13 dX3_requireKind_14 dX3_requireKind_16 dX3_requireKind_19 ⟨by decide, Nat.le_of_ble_eq_true rfl, Nat.le_of_ble_eq_true rfl, Nat.le_of_ble_eq_true rfl⟩ (⟨rfl, fun z => z.1 h1⟩) rfl ⟨Nat.le_of_ble_eq_true rfl, Nat.le_of_ble_eq_true rfl⟩
  · skip
    refine k_iload_n hC 4 dX3_requireKind_4 rfl ?_
    refine k_bipush hC 5 dX3_requireKind_5 (nI 40) (by decide) ?_
    refine k_icmp_lt hC 7 20 dX3_requireKind_7 (by decide) (fun h7 => ?_) (fun h7 => ?_)
    · skip
      exact x_vret hC hE 20 () dX3_requireKind_20 (⟨rfl, h1, h7⟩) rfl ⟨Nat.zero_le _, Nat.zero_le _⟩
    · skip
      exact x_throw (tx := "a kind is 0 to 39") hC hE hX 10 (by decide +kernel) wq_3_23 wq_4_0 (by decide +kernel) go_B ng_B ot_B dX3_requireKind_10 dX3_requireKind_13 dX3_requireKind_14 dX3_requireKind_16 dX3_requireKind_19 ⟨by decide, Nat.le_of_ble_eq_true rfl, Nat.le_of_ble_eq_true rfl, Nat.le_of_ble_eq_true rfl⟩ (⟨rfl, fun z => h7 z.2⟩) rfl ⟨Nat.le_of_ble_eq_true rfl, Nat.le_of_ble_eq_true rfl⟩
set_option maxHeartbeats 4000000 in
set_option maxRecDepth 100000 in
/-- c_X3_would -/
theorem c_X3_would (l : Launch) (hfl : l.stackTraces = false) (D : va_G) (h : Nat) (a : Nat → Nat) (N T A B : List Nat) (to pi : Nat → Nat) (fe : Nat → Int32) (pl go : Nat) (hi mi re lo : Int32) (g0 g1 g2 g3 g4 g5 g6 : Nat → Int32) (b : Nat → Nat) (N2 T2 A2 B2 : List Nat) (to2 pi2 : Nat → Nat) (fe2 : Nat → Int32) (pl2 go2 : Nat) (hi2 mi2 re2 lo2 : Int32) (m0 m1 m2 m3 m4 m5 m6 : Nat → Int32) (p : Int32) (hS : SR (N, T, A, B, to, pi, fe, pl, go, hi, mi, re, lo) (g0, g1, g2, g3, g4, g5, g6)) (hW : WF (N, T, A, B, to, pi, fe, pl, go, hi, mi, re, lo)) : MX l yX3_would cX3_would 2 (some .int) 7 102 D [.ref h, .int p] [(h, .inr (3, [.ref (a 0), .ref (b 0)])), ((a 0), .inr (1, [.ref (a 1), .ref (a 3), .ref (a 5), .ref (a 7), .ref (a 9), .ref (a 11), .ref (a 13), .int (nI pl), .int (nI go), .int hi, .int mi, .int re, .int lo])), ((a 1), .inr (0, [.ref (a 2), .int (nI N.length)])), ((a 2), .inl (D.1 5, 40, .inl g0)), ((a 3), .inr (0, [.ref (a 4), .int (nI T.length)])), ((a 4), .inl (D.1 5, 40, .inl g1)), ((a 5), .inr (0, [.ref (a 6), .int (nI A.length)])), ((a 6), .inl (D.1 5, 40, .inl g2)), ((a 7), .inr (0, [.ref (a 8), .int (nI B.length)])), ((a 8), .inl (D.1 5, 40, .inl g3)), ((a 9), .inr (2, [.ref (a 10)])), ((a 10), .inl (D.1 5, 40, .inl g4)), ((a 11), .inr (2, [.ref (a 12)])), ((a 12), .inl (D.1 5, 40, .inl g5)), ((a 13), .inr (2, [.ref (a 14)])), ((a 14), .inl (D.1 5, 40, .inl g6)), ((b 0), .inr (1, [.ref (b 1), .ref (b 3), .ref (b 5), .ref (b 7), .ref (b 9), .ref (b 11), .ref (b 13), .int (nI pl2), .int (nI go2), .int hi2, .int mi2, .int re2, .int lo2])), ((b 1), .inr (0, [.ref (b 2), .int (nI N2.length)])), ((b 2), .inl (D.1 5, 40, .inl m0)), ((b 3), .inr (0, [.ref (b 4), .int (nI T2.length)])), ((b 4), .inl (D.1 5, 40, .inl m1)), ((b 5), .inr (0, [.ref (b 6), .int (nI A2.length)])), ((b 6), .inl (D.1 5, 40, .inl m2)), ((b 7), .inr (0, [.ref (b 8), .int (nI B2.length)])), ((b 8), .inl (D.1 5, 40, .inl m3)), ((b 9), .inr (2, [.ref (b 10)])), ((b 10), .inl (D.1 5, 40, .inl m4)), ((b 11), .inr (2, [.ref (b 12)])), ((b 12), .inl (D.1 5, 40, .inl m5)), ((b 13), .inr (2, [.ref (b 14)])), ((b 14), .inl (D.1 5, 40, .inl m6))] (fun v (u : (PS × PG) × PS × PG) => wouldK p = 0 ∧ v = some (.int (ocI (oc (N, T, A, B, to, pi, fe, pl, go, hi, mi, re, lo) (kn p)))) ∧ u.1.1 = (N, T, A, B, to, pi, fe, pl, go, hi, mi, re, lo) ∧ SR u.1.1 u.1.2) (fun u => (h, .inr (3, [.ref (a 0), .ref (b 0)])) :: (wSt D a u.1.1 u.1.2 ++ wSt D b u.2.1 u.2.2)) (fun E => (wouldK p = 1 ∧ E = eB) ∨ (wouldK p = 2 ∧ E = eS)) 1 6 := by
  refine MX.enter hfl (by decide) [(0, .ref h), (1, .int p)] rfl (Nat.le_of_ble_eq_true rfl) (fun G hC hE hX => ?_)
  have hC : CX G D cX3_would RX3 2 := hC
  have hS0 := hS
  have hW0 := hW
  obtain ⟨r0, r1, r2, r3, r4, r5, r6⟩ := hS
  obtain ⟨kN, kT, kA, kB, nd, len, lA, lB, pp2, pp12, g12, t1, p9⟩ := hW
  refine k_iload_n hC 0 dX3_would_0 rfl ?_
  refine x_callS hC hX 1 [] (fun u => [(h, .inr (3, [.ref (a 0), .ref (b 0)])), ((a 0), .inr (1, [.ref (a 1), .ref (a 3), .ref (a 5), .ref (a 7), .ref (a 9), .ref (a 11), .ref (a 13), .int (nI pl), .int (nI go), .int hi, .int mi, .int re, .int lo])), ((a 1), .inr (0, [.ref (a 2), .int (nI N.length)])), ((a 2), .inl (D.1 5, 40, .inl g0)), ((a 3), .inr (0, [.ref (a 4), .int (nI T.length)])), ((a 4), .inl (D.1 5, 40, .inl g1)), ((a 5), .inr (0, [.ref (a 6), .int (nI A.length)])), ((a 6), .inl (D.1 5, 40, .inl g2)), ((a 7), .inr (0, [.ref (a 8), .int (nI B.length)])), ((a 8), .inl (D.1 5, 40, .inl g3)), ((a 9), .inr (2, [.ref (a 10)])), ((a 10), .inl (D.1 5, 40, .inl g4)), ((a 11), .inr (2, [.ref (a 12)])), ((a 12), .inl (D.1 5, 40, .inl g5)), ((a 13), .inr (2, [.ref (a 14)])), ((a 14), .inl (D.1 5, 40, .inl g6)), ((b 0), .inr (1, [.ref (b 1), .ref (b 3), .ref (b 5), .ref (b 7), .ref (b 9), .ref (b 11), .ref (b 13), .int (nI pl2), .int (nI go2), .int hi2, .int mi2, .int re2, .int lo2])), ((b 1), .inr (0, [.ref (b 2), .int (nI N2.length)])), ((b 2), .inl (D.1 5, 40, .inl m0)), ((b 3), .inr (0, [.ref (b 4), .int (nI T2.length)])), ((b 4), .inl (D.1 5, 40, .inl m1)), ((b 5), .inr (0, [.ref (b 6), .int (nI A2.length)])), ((b 6), .inl (D.1 5, 40, .inl m2)), ((b 7), .inr (0, [.ref (b 8), .int (nI B2.length)])), ((b 8), .inl (D.1 5, 40, .inl m3)), ((b 9), .inr (2, [.ref (b 10)])), ((b 10), .inl (D.1 5, 40, .inl m4)), ((b 11), .inr (2, [.ref (b 12)])), ((b 12), .inl (D.1 5, 40, .inl m5)), ((b 13), .inr (2, [.ref (b 14)])), ((b 14), .inl (D.1 5, 40, .inl m6))]) (c_X3_requireKind l hfl D p) cw_RX3_19 dX3_would_1 ⟨Nat.le_of_ble_eq_true rfl, Nat.le_of_ble_eq_true rfl, Nat.le_of_ble_eq_true rfl, Nat.le_of_ble_eq_true rfl⟩ rfl (Nat.le_of_ble_eq_true rfl) (by decide) rfl (fun _ => Nat.le_of_ble_eq_true rfl) (fun _ => rfl) rfl _ rfl (fun v u hp => ?_) (fun E hx => x_out hE (Or.inl ⟨kK_1 hx.2, hx.1⟩) rfl 1 ⟨Nat.le_of_ble_eq_true rfl, Nat.le_of_ble_eq_true rfl⟩)
  obtain ⟨rfl, hk⟩ := hp
  refine KJ.eqs (st' := []) rfl ?_
  obtain ⟨hk40, hp⟩ := hk.k
  rw [← hp]
  refine k_aload_n hC 4 dX3_would_4 rfl ?_
  refine k_getf hC 5 0 0 dX3_would_5 rfl rfl inlX3 (by decide) wq_1_16 rfl ?_
  refine k_iload_n hC 8 dX3_would_8 rfl ?_
  refine k_callVr hC 9 1 [1, 2, 3, 4, 5, 6, 7, 8, 9, 10, 11, 12, 13, 14, 15] (c_X1_forecast l D a N T A B to pi fe pl go hi mi re lo g0 g1 g2 g3 g4 g5 g6 (kn p) hS0 hW0 hk40) cw_RX3_124 dX3_would_9 ⟨Nat.le_of_ble_eq_true rfl, Nat.le_of_ble_eq_true rfl, Nat.le_of_ble_eq_true rfl, Nat.le_of_ble_eq_true rfl⟩ rfl (Nat.le_of_ble_eq_true rfl) rfl rfl rfl (by decide) rfl (fun _ => Nat.le_of_ble_eq_true rfl) (fun _ => rfl) _ rfl (fun v u hp => ?_)
  obtain rfl := hp
  refine KJ.eqs (st' := .int (ocI (oc (N, T, A, B, to, pi, fe, pl, go, hi, mi, re, lo) (kn p))) :: []) rfl ?_
  exact x_iret hC hE 12 (((N, T, A, B, to, pi, fe, pl, go, hi, mi, re, lo), (g0, g1, g2, g3, g4, g5, g6)), ((N2, T2, A2, B2, to2, pi2, fe2, pl2, go2, hi2, mi2, re2, lo2), (m0, m1, m2, m3, m4, m5, m6))) dX3_would_12 rfl (⟨kK_0 (not_not_intro hk) id, rfl, rfl, hS0⟩) rfl ⟨Nat.le_of_ble_eq_true rfl, Nat.le_of_ble_eq_true rfl⟩
