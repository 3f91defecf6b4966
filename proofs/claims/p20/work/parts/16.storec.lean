/-! PinnedPantry$Store: fetching, places, what is told -/
set_option maxHeartbeats 4000000 in
set_option maxRecDepth 100000 in
/-- sweep, where none can leave -/
theorem c_X1_sweep_no (l : Launch) (D : va_G) (a : Nat → Nat) (N T A B : List Nat) (to pi : Nat → Nat) (fe : Nat → Int32) (pl go : Nat) (hi mi re lo : Int32) (g0 g1 g2 g3 g4 g5 g6 : Nat → Int32) (hS : SR (N, T, A, B, to, pi, fe, pl, go, hi, mi, re, lo) (g0, g1, g2, g3, g4, g5, g6)) (hW : WF (N, T, A, B, to, pi, fe, pl, go, hi, mi, re, lo)) (hpj : ¬ pc pi N + pc pi T < N.length + T.length) : MU l yX1_sweep cX1_sweep 5 (some .int) 3 67 D [.ref (a 0)] [((a 0), .inr (1, [.ref (a 1), .ref (a 3), .ref (a 5), .ref (a 7), .ref (a 9), .ref (a 11), .ref (a 13), .int (nI pl), .int (nI go), .int hi, .int mi, .int re, .int lo])), ((a 1), .inr (0, [.ref (a 2), .int (nI N.length)])), ((a 2), .inl (D.1 20, 40, .inl g0)), ((a 3), .inr (0, [.ref (a 4), .int (nI T.length)])), ((a 4), .inl (D.1 20, 40, .inl g1)), ((a 5), .inr (0, [.ref (a 6), .int (nI A.length)])), ((a 6), .inl (D.1 20, 40, .inl g2)), ((a 7), .inr (0, [.ref (a 8), .int (nI B.length)])), ((a 8), .inl (D.1 20, 40, .inl g3)), ((a 9), .inr (2, [.ref (a 10)])), ((a 10), .inl (D.1 20, 40, .inl g4)), ((a 11), .inr (2, [.ref (a 12)])), ((a 12), .inl (D.1 20, 40, .inl g5)), ((a 13), .inr (2, [.ref (a 14)])), ((a 14), .inl (D.1 20, 40, .inl g6))] (fun v (u : PS × PG) => v = some (.int (-1)) ∧ u.1 = (N, T, A, B, to, pi, fe, pl, go, hi, mi, re, lo) ∧ SR u.1 u.2) (fun u => wSt D a u.1 u.2) 0 0 := by
  refine MU.enter (by decide) [(0, .ref (a 0))] rfl (Nat.le_of_ble_eq_true rfl) (fun G hC hE => ?_)
  have hC : CX G D cX1_sweep RX1 5 := hC
  have hS0 := hS
  have hW0 := hW
  obtain ⟨r0, r1, r2, r3, r4, r5, r6⟩ := hS
  obtain ⟨kN, kT, kA, kB, nd, len, lA, lB, p2, p12, g12, t1, p9⟩ := hW
  have q0 := pc_le pi N
  have q1 := pc_le pi T
  refine k_aload_n hC 0 dX1_sweep_0 rfl ?_
  refine k_callVr hC 1 0 [0, 1, 2, 3, 4, 5, 6, 7, 8, 9, 10, 11, 12, 13, 14] (c_X1_pinnedJars l D a N T A B to pi fe pl go hi mi re lo g0 g1 g2 g3 g4 g5 g6 hS0 hW0) cw_RX1_91 dX1_sweep_1 ⟨Nat.le_of_ble_eq_true rfl, Nat.le_of_ble_eq_true rfl, Nat.le_of_ble_eq_true rfl, Nat.le_of_ble_eq_true rfl⟩ rfl (Nat.le_of_ble_eq_true rfl) rfl rfl rfl (by decide) rfl (fun _ => Nat.le_of_ble_eq_true rfl) (fun _ => rfl) _ rfl (fun v u hp => ?_)
  obtain rfl := hp
  refine KJ.eqs (st' := .int (nI (pc pi N + pc pi T)) :: []) rfl ?_
  refine k_aload_n hC 4 dX1_sweep_4 rfl ?_
  refine k_callVr hC 5 0 [0, 1, 2, 3, 4, 5, 6, 7, 8, 9, 10, 11, 12, 13, 14] (c_X1_jars l D a N T A B to pi fe pl go hi mi re lo g0 g1 g2 g3 g4 g5 g6 hS0 hW0) cw_RX1_87 dX1_sweep_5 ⟨Nat.le_of_ble_eq_true rfl, Nat.le_of_ble_eq_true rfl, Nat.le_of_ble_eq_true rfl, Nat.le_of_ble_eq_true rfl⟩ rfl (Nat.le_of_ble_eq_true rfl) rfl rfl rfl (by decide) rfl (fun _ => Nat.le_of_ble_eq_true rfl) (fun _ => rfl) _ rfl (fun v u hp => ?_)
  obtain rfl := hp
  refine KJ.eqs (st' := .int (nI (N.length + T.length)) :: .int (nI (pc pi N + pc pi T)) :: []) rfl ?_
  refine n_icmp_lt hC 8 13 dX1_sweep_8 (by decide) (by omega) (by omega) (fun h8 => ?_) (fun h8 => ?_)
  · skip
    exact absurd h8 (by omega)
  · skip
    refine k_iconst hC 11 dX1_sweep_11 (-1) (by decide) ?_
    exact k_iret hC hE 12 ((N, T, A, B, to, pi, fe, pl, go, hi, mi, re, lo), (g0, g1, g2, g3, g4, g5, g6)) dX1_sweep_12 rfl (⟨rfl, rfl, hS0⟩) rfl ⟨Nat.zero_le _, Nat.zero_le _⟩
set_option maxHeartbeats 4000000 in
set_option maxRecDepth 100000 in
/-- bring -/
theorem c_X1_bring (l : Launch) (D : va_G) (a : Nat → Nat) (N T A B : List Nat) (to pi : Nat → Nat) (fe : Nat → Int32) (pl go : Nat) (hi mi re lo : Int32) (g0 g1 g2 g3 g4 g5 g6 : Nat → Int32) (k : Nat) (hS : SR (N, T, A, B, to, pi, fe, pl, go, hi, mi, re, lo) (g0, g1, g2, g3, g4, g5, g6)) (hW : WF (N, T, A, B, to, pi, fe, pl, go, hi, mi, re, lo)) (hk : k < 40) : MU l yX1_bring cX1_bring 3 (some .int) 4 91 D [.ref (a 0), .int (nI k)] [((a 0), .inr (1, [.ref (a 1), .ref (a 3), .ref (a 5), .ref (a 7), .ref (a 9), .ref (a 11), .ref (a 13), .int (nI pl), .int (nI go), .int hi, .int mi, .int re, .int lo])), ((a 1), .inr (0, [.ref (a 2), .int (nI N.length)])), ((a 2), .inl (D.1 20, 40, .inl g0)), ((a 3), .inr (0, [.ref (a 4), .int (nI T.length)])), ((a 4), .inl (D.1 20, 40, .inl g1)), ((a 5), .inr (0, [.ref (a 6), .int (nI A.length)])), ((a 6), .inl (D.1 20, 40, .inl g2)), ((a 7), .inr (0, [.ref (a 8), .int (nI B.length)])), ((a 8), .inl (D.1 20, 40, .inl g3)), ((a 9), .inr (2, [.ref (a 10)])), ((a 10), .inl (D.1 20, 40, .inl g4)), ((a 11), .inr (2, [.ref (a 12)])), ((a 12), .inl (D.1 20, 40, .inl g5)), ((a 13), .inr (2, [.ref (a 14)])), ((a 14), .inl (D.1 20, 40, .inl g6))] (fun v (u : PS × PG) => v = some (.int (ocI (oc (N, T, A, B, to, pi, fe, pl, go, hi, mi, re, lo) k))) ∧ u.1 = br (N, T, A, B, to, pi, fe, pl, go, hi, mi, re, lo) k ∧ SR u.1 u.2) (fun u => wSt D a u.1 u.2) 0 0 := by
  refine MU.enter (by decide) [(0, .ref (a 0)), (1, .int (nI k))] rfl (Nat.le_of_ble_eq_true rfl) (fun G hC hE => ?_)
  have hC : CX G D cX1_bring RX1 3 := hC
  have hS0 := hS
  have hW0 := hW
  obtain ⟨r0, r1, r2, r3, r4, r5, r6⟩ := hS
  obtain ⟨kN, kT, kA, kB, nd, len, lA, lB, p2, p12, g12, t1, p9⟩ := hW
  refine k_aload_n hC 0 dX1_bring_0 rfl ?_
  refine k_iload_n hC 1 dX1_bring_1 rfl ?_
  refine k_callVr hC 2 0 [0, 1, 2, 3, 4, 5, 6, 7, 8, 9, 10, 11, 12, 13, 14] (c_X1_forecast l D a N T A B to pi fe pl go hi mi re lo g0 g1 g2 g3 g4 g5 g6 k hS0 hW0 hk) cw_RX1_94 dX1_bring_2 ⟨Nat.le_of_ble_eq_true rfl, Nat.le_of_ble_eq_true rfl, Nat.le_of_ble_eq_true rfl, Nat.le_of_ble_eq_true rfl⟩ rfl (Nat.le_of_ble_eq_true rfl) rfl rfl rfl (by decide) rfl (fun _ => Nat.le_of_ble_eq_true rfl) (fun _ => rfl) _ rfl (fun v u hp => ?_)
  obtain rfl := hp
  refine KJ.eqs (st' := .int (ocI (oc (N, T, A, B, to, pi, fe, pl, go, hi, mi, re, lo) k)) :: []) rfl ?_
  have hol := oc_lt (N, T, A, B, to, pi, fe, pl, go, hi, mi, re, lo) k
  generalize ho : oc (N, T, A, B, to, pi, fe, pl, go, hi, mi, re, lo) k = o at hol
  by_cases h4 : o = 4
  · skip
    subst h4
    rw [ocI_4]
    refine k_istore_n hC 5 2 [(2, .int (-9)), (0, .ref (a 0)), (1, .int (nI k))] dX1_bring_5 rfl (by decide) rfl ?_
    refine k_iload_n hC 6 dX1_bring_6 rfl ?_
    refine k_bipush hC 7 dX1_bring_7 (-9) (by decide) ?_
    refine k_icmp_ne hC 9 14 dX1_bring_9 (by decide) (fun h9 => ?_) (fun h9 => ?_)
    · skip
      exact absurd rfl h9
    · skip
      refine k_iload_n hC 12 dX1_bring_12 rfl ?_
      exact k_iret hC hE 13 ((N, T, A, B, to, pi, fe, pl, go, hi, mi, re, lo), (g0, g1, g2, g3, g4, g5, g6)) dX1_bring_13 rfl (⟨by rw [ho, ocI_4], (br_4 ho).symm, hS0⟩) rfl ⟨Nat.zero_le _, Nat.zero_le _⟩
  · skip
    rw [ocI_n h4]
    refine k_istore_n hC 5 2 [(2, .int (nI o)), (0, .ref (a 0)), (1, .int (nI k))] dX1_bring_5 rfl (by decide) rfl ?_
    refine k_iload_n hC 6 dX1_bring_6 rfl ?_
    refine k_bipush hC 7 dX1_bring_7 (-9) (by decide) ?_
    refine k_icmp_ne hC 9 14 dX1_bring_9 (by decide) (fun h9 => ?_) (fun h9 => ?_)
    · skip
      refine k_iload_n hC 14 dX1_bring_14 rfl ?_
      refine n_if_ne hC 15 57 dX1_bring_15 (by decide) (by omega) (fun h15 => ?_) (fun h15 => ?_)
      · skip
        refine k_aload_n hC 57 dX1_bring_57 rfl ?_
        refine k_dup hC 58 dX1_bring_58 rfl ?_
        refine k_getf hC 59 0 10 dX1_bring_59 rfl rfl inlX1 (by decide) wq_11_15 rfl ?_
        refine k_iconst hC 62 dX1_bring_62 (nI 1) (by decide) ?_
        refine k_iadd hC 63 dX1_bring_63 (KJ.topi (y := (mi + 1)) rfl ?_)
        refine k_putf hC 64 (ty0 := tyX1) 0 10 [((a 0), .inr (1, [.ref (a 1), .ref (a 3), .ref (a 5), .ref (a 7), .ref (a 9), .ref (a 11), .ref (a 13), .int (nI pl), .int (nI go), .int hi, .int (mi + 1), .int re, .int lo])), ((a 1), .inr (0, [.ref (a 2), .int (nI N.length)])), ((a 2), .inl (D.1 20, 40, .inl g0)), ((a 3), .inr (0, [.ref (a 4), .int (nI T.length)])), ((a 4), .inl (D.1 20, 40, .inl g1)), ((a 5), .inr (0, [.ref (a 6), .int (nI A.length)])), ((a 6), .inl (D.1 20, 40, .inl g2)), ((a 7), .inr (0, [.ref (a 8), .int (nI B.length)])), ((a 8), .inl (D.1 20, 40, .inl g3)), ((a 9), .inr (2, [.ref (a 10)])), ((a 10), .inl (D.1 20, 40, .inl g4)), ((a 11), .inr (2, [.ref (a 12)])), ((a 12), .inl (D.1 20, 40, .inl g5)), ((a 13), .inr (2, [.ref (a 14)])), ((a 14), .inl (D.1 20, 40, .inl g6))] dX1_bring_64 rfl rfl inlX1 tyX1_ok nmX1 (by decide) wq_11_15 rfl rfl rfl (Nat.le_of_ble_eq_true rfl) rfl ?_
        refine k_aload_n hC 67 dX1_bring_67 rfl ?_
        refine k_iload_n hC 68 dX1_bring_68 rfl ?_
        refine k_iload_n hC 69 dX1_bring_69 rfl ?_
        refine k_callV hC 70 0 [0, 1, 2, 3, 4, 5, 6, 7, 8, 9, 10, 11, 12, 13, 14] (fun u => [((a 0), .inr (1, [.ref (a 1), .ref (a 3), .ref (a 5), .ref (a 7), .ref (a 9), .ref (a 11), .ref (a 13), .int (nI u.1.2.2.2.2.2.2.2.1), .int (nI u.1.2.2.2.2.2.2.2.2.1), .int u.1.2.2.2.2.2.2.2.2.2.1, .int u.1.2.2.2.2.2.2.2.2.2.2.1, .int u.1.2.2.2.2.2.2.2.2.2.2.2.1, .int u.1.2.2.2.2.2.2.2.2.2.2.2.2])), ((a 1), .inr (0, [.ref (a 2), .int (nI u.1.1.length)])), ((a 2), .inl (D.1 20, 40, .inl u.2.1)), ((a 3), .inr (0, [.ref (a 4), .int (nI u.1.2.1.length)])), ((a 4), .inl (D.1 20, 40, .inl u.2.2.1)), ((a 5), .inr (0, [.ref (a 6), .int (nI u.1.2.2.1.length)])), ((a 6), .inl (D.1 20, 40, .inl u.2.2.2.1)), ((a 7), .inr (0, [.ref (a 8), .int (nI u.1.2.2.2.1.length)])), ((a 8), .inl (D.1 20, 40, .inl u.2.2.2.2.1)), ((a 9), .inr (2, [.ref (a 10)])), ((a 10), .inl (D.1 20, 40, .inl u.2.2.2.2.2.1)), ((a 11), .inr (2, [.ref (a 12)])), ((a 12), .inl (D.1 20, 40, .inl u.2.2.2.2.2.2.1)), ((a 13), .inr (2, [.ref (a 14)])), ((a 14), .inl (D.1 20, 40, .inl u.2.2.2.2.2.2.2))]) (c_X1_recall l D a N T A B to pi fe pl go hi (mi + 1) re lo g0 g1 g2 g3 g4 g5 g6 k o hS0 hW0 hk (by omega) (fun z => oc_2 (ho.trans z)) (fun z => oc_3 (ho.trans z))) cw_RX1_101 dX1_bring_70 ⟨Nat.le_of_ble_eq_true rfl, Nat.le_of_ble_eq_true rfl, Nat.le_of_ble_eq_true rfl, Nat.le_of_ble_eq_true rfl⟩ rfl (Nat.le_of_ble_eq_true rfl) rfl rfl rfl (by decide) rfl (fun _ => Nat.le_of_ble_eq_true rfl) (fun _ => rfl) _ rfl (fun v u hp => ?_)
        obtain ⟨⟨N1, T1, A1, B1, to1, pi1, fe1, pl1, go1, hi1, mi1, re1, lo1⟩, y01, y11, y21, y31, y41, y51, y61⟩ := u
        obtain ⟨rfl, e1, hS1⟩ := hp
        have e1 : (N1, T1, A1, B1, to1, pi1, fe1, pl1, go1, hi1, mi1, re1, lo1) = rcl (missS (N, T, A, B, to, pi, fe, pl, go, hi, mi, re, lo)) k o := e1
        have hS1 : SR (N1, T1, A1, B1, to1, pi1, fe1, pl1, go1, hi1, mi1, re1, lo1) (y01, y11, y21, y31, y41, y51, y61) := hS1
        have w1 : WF (N1, T1, A1, B1, to1, pi1, fe1, pl1, go1, hi1, mi1, re1, lo1) := by rw [e1]; exact rcl_wf (missS_wf hW0) k o
        have l1 : N1.length + T1.length ≤ 12 := jrs_12 w1
        have p1 : pl1 ≤ 12 := w1.2.2.2.2.2.2.2.2.2.1
        have mo := mid_ok hW0 ho h15 h4
        have mp := mid_pj ho h15 h4
        rw [← e1] at mo mp
        refine KJ.eqs (st' := []) rfl ?_
        refine KJ.eqw (ws' := [((a 0), .inr (1, [.ref (a 1), .ref (a 3), .ref (a 5), .ref (a 7), .ref (a 9), .ref (a 11), .ref (a 13), .int (nI pl1), .int (nI go1), .int hi1, .int mi1, .int re1, .int lo1])), ((a 1), .inr (0, [.ref (a 2), .int (nI N1.length)])), ((a 2), .inl (D.1 20, 40, .inl y01)), ((a 3), .inr (0, [.ref (a 4), .int (nI T1.length)])), ((a 4), .inl (D.1 20, 40, .inl y11)), ((a 5), .inr (0, [.ref (a 6), .int (nI A1.length)])), ((a 6), .inl (D.1 20, 40, .inl y21)), ((a 7), .inr (0, [.ref (a 8), .int (nI B1.length)])), ((a 8), .inl (D.1 20, 40, .inl y31)), ((a 9), .inr (2, [.ref (a 10)])), ((a 10), .inl (D.1 20, 40, .inl y41)), ((a 11), .inr (2, [.ref (a 12)])), ((a 12), .inl (D.1 20, 40, .inl y51)), ((a 13), .inr (2, [.ref (a 14)])), ((a 14), .inl (D.1 20, 40, .inl y61))]) rfl ?_
        refine k_aload_n hC 73 dX1_bring_73 rfl ?_
        refine k_callVr hC 74 0 [0, 1, 2, 3, 4, 5, 6, 7, 8, 9, 10, 11, 12, 13, 14] (c_X1_jars l D a N1 T1 A1 B1 to1 pi1 fe1 pl1 go1 hi1 mi1 re1 lo1 y01 y11 y21 y31 y41 y51 y61 hS1 w1) cw_RX1_87 dX1_bring_74 ⟨Nat.le_of_ble_eq_true rfl, Nat.le_of_ble_eq_true rfl, Nat.le_of_ble_eq_true rfl, Nat.le_of_ble_eq_true rfl⟩ rfl (Nat.le_of_ble_eq_true rfl) rfl rfl rfl (by decide) rfl (fun _ => Nat.le_of_ble_eq_true rfl) (fun _ => rfl) _ rfl (fun v u hp => ?_)
        obtain rfl := hp
        refine KJ.eqs (st' := .int (nI (N1.length + T1.length)) :: []) rfl ?_
        refine k_aload_n hC 77 dX1_bring_77 rfl ?_
        refine k_getf hC 78 0 7 dX1_bring_78 rfl rfl inlX1 (by decide) wq_2_8 rfl ?_
        refine n_icmp_lt hC 81 89 dX1_bring_81 (by decide) (by omega) (by omega) (fun hc => ?_) (fun hc => ?_)
        · skip
          have mo2 : ((N1, T1, A1, B1, to1, pi1, fe1, pl1, go1, hi1, mi1, re1, lo1) : PS) = (if plS (N1, T1, A1, B1, to1, pi1, fe1, pl1, go1, hi1, mi1, re1, lo1) ≤ jrs (N1, T1, A1, B1, to1, pi1, fe1, pl1, go1, hi1, mi1, re1, lo1) then (sw (N1, T1, A1, B1, to1, pi1, fe1, pl1, go1, hi1, mi1, re1, lo1)).1 else (N1, T1, A1, B1, to1, pi1, fe1, pl1, go1, hi1, mi1, re1, lo1)) := (if_neg (Nat.not_le.mpr hc)).symm
          rw [← mo2] at mo
          refine k_aload_n hC 89 dX1_bring_89 rfl ?_
          refine k_iload_n hC 90 dX1_bring_90 rfl ?_
          refine k_iload_n hC 91 dX1_bring_91 rfl ?_
          refine k_iconst hC 92 dX1_bring_92 (nI 1) (by decide) ?_
          refine n_icmp_ne hC 93 103 dX1_bring_93 (by decide) (by omega) (by omega) (fun h93 => ?_) (fun h93 => ?_)
          · skip
            refine k_aload_n hC 103 dX1_bring_103 rfl ?_
            refine k_getf hC 104 0 1 dX1_bring_104 rfl rfl inlX1 (by decide) wq_1_23 rfl ?_
            refine k_callV hC 107 0 [0, 1, 2, 3, 4, 5, 6, 7, 8, 9, 10, 11, 12, 13, 14] (fun u => [((a 0), .inr (1, [.ref (a 1), .ref (a 3), .ref (a 5), .ref (a 7), .ref (a 9), .ref (a 11), .ref (a 13), .int (nI u.1.2.2.2.2.2.2.2.1), .int (nI u.1.2.2.2.2.2.2.2.2.1), .int u.1.2.2.2.2.2.2.2.2.2.1, .int u.1.2.2.2.2.2.2.2.2.2.2.1, .int u.1.2.2.2.2.2.2.2.2.2.2.2.1, .int u.1.2.2.2.2.2.2.2.2.2.2.2.2])), ((a 1), .inr (0, [.ref (a 2), .int (nI u.1.1.length)])), ((a 2), .inl (D.1 20, 40, .inl u.2.1)), ((a 3), .inr (0, [.ref (a 4), .int (nI u.1.2.1.length)])), ((a 4), .inl (D.1 20, 40, .inl u.2.2.1)), ((a 5), .inr (0, [.ref (a 6), .int (nI u.1.2.2.1.length)])), ((a 6), .inl (D.1 20, 40, .inl u.2.2.2.1)), ((a 7), .inr (0, [.ref (a 8), .int (nI u.1.2.2.2.1.length)])), ((a 8), .inl (D.1 20, 40, .inl u.2.2.2.2.1)), ((a 9), .inr (2, [.ref (a 10)])), ((a 10), .inl (D.1 20, 40, .inl u.2.2.2.2.2.1)), ((a 11), .inr (2, [.ref (a 12)])), ((a 12), .inl (D.1 20, 40, .inl u.2.2.2.2.2.2.1)), ((a 13), .inr (2, [.ref (a 14)])), ((a 14), .inl (D.1 20, 40, .inl u.2.2.2.2.2.2.2))]) (c_X1_placeNewJar1 l D a N1 T1 A1 B1 to1 pi1 fe1 pl1 go1 hi1 mi1 re1 lo1 y01 y11 y21 y31 y41 y51 y61 k o hS1 w1 hk h93) cw_RX1_107 dX1_bring_107 ⟨Nat.le_of_ble_eq_true rfl, Nat.le_of_ble_eq_true rfl, Nat.le_of_ble_eq_true rfl, Nat.le_of_ble_eq_true rfl⟩ rfl (Nat.le_of_ble_eq_true rfl) rfl rfl rfl (by decide) rfl (fun _ => Nat.le_of_ble_eq_true rfl) (fun _ => rfl) _ rfl (fun v u hp => ?_)
            obtain ⟨⟨N3, T3, A3, B3, to3, pi3, fe3, pl3, go3, hi3, mi3, re3, lo3⟩, y03, y13, y23, y33, y43, y53, y63⟩ := u
            obtain ⟨rfl, e3, hS3⟩ := hp
            have e3 : (N3, T3, A3, B3, to3, pi3, fe3, pl3, go3, hi3, mi3, re3, lo3) = plc (N1, T1, A1, B1, to1, pi1, fe1, pl1, go1, hi1, mi1, re1, lo1) k o := e3
            have hS3 : SR (N3, T3, A3, B3, to3, pi3, fe3, pl3, go3, hi3, mi3, re3, lo3) (y03, y13, y23, y33, y43, y53, y63) := hS3
            refine KJ.eqs (st' := []) rfl ?_
            refine KJ.eqw (ws' := [((a 0), .inr (1, [.ref (a 1), .ref (a 3), .ref (a 5), .ref (a 7), .ref (a 9), .ref (a 11), .ref (a 13), .int (nI pl3), .int (nI go3), .int hi3, .int mi3, .int re3, .int lo3])), ((a 1), .inr (0, [.ref (a 2), .int (nI N3.length)])), ((a 2), .inl (D.1 20, 40, .inl y03)), ((a 3), .inr (0, [.ref (a 4), .int (nI T3.length)])), ((a 4), .inl (D.1 20, 40, .inl y13)), ((a 5), .inr (0, [.ref (a 6), .int (nI A3.length)])), ((a 6), .inl (D.1 20, 40, .inl y23)), ((a 7), .inr (0, [.ref (a 8), .int (nI B3.length)])), ((a 8), .inl (D.1 20, 40, .inl y33)), ((a 9), .inr (2, [.ref (a 10)])), ((a 10), .inl (D.1 20, 40, .inl y43)), ((a 11), .inr (2, [.ref (a 12)])), ((a 12), .inl (D.1 20, 40, .inl y53)), ((a 13), .inr (2, [.ref (a 14)])), ((a 14), .inl (D.1 20, 40, .inl y63))]) rfl ?_
            refine k_iload_n hC 110 dX1_bring_110 rfl ?_
            exact k_iret hC hE 111 ((N3, T3, A3, B3, to3, pi3, fe3, pl3, go3, hi3, mi3, re3, lo3), (y03, y13, y23, y33, y43, y53, y63)) dX1_bring_111 rfl (⟨by rw [ho, ocI_n h4], by rw [br_m ho h15 h4, e3, mo2, e1], hS3⟩) rfl ⟨Nat.zero_le _, Nat.zero_le _⟩
          · skip
            refine k_aload_n hC 96 dX1_bring_96 rfl ?_
            refine k_getf hC 97 0 0 dX1_bring_97 rfl rfl inlX1 (by decide) wq_1_22 rfl ?_
            refine k_goto hC 100 107 dX1_bring_100 (by decide) ?_
            refine k_callV hC 107 0 [0, 1, 2, 3, 4, 5, 6, 7, 8, 9, 10, 11, 12, 13, 14] (fun u => [((a 0), .inr (1, [.ref (a 1), .ref (a 3), .ref (a 5), .ref (a 7), .ref (a 9), .ref (a 11), .ref (a 13), .int (nI u.1.2.2.2.2.2.2.2.1), .int (nI u.1.2.2.2.2.2.2.2.2.1), .int u.1.2.2.2.2.2.2.2.2.2.1, .int u.1.2.2.2.2.2.2.2.2.2.2.1, .int u.1.2.2.2.2.2.2.2.2.2.2.2.1, .int u.1.2.2.2.2.2.2.2.2.2.2.2.2])), ((a 1), .inr (0, [.ref (a 2), .int (nI u.1.1.length)])), ((a 2), .inl (D.1 20, 40, .inl u.2.1)), ((a 3), .inr (0, [.ref (a 4), .int (nI u.1.2.1.length)])), ((a 4), .inl (D.1 20, 40, .inl u.2.2.1)), ((a 5), .inr (0, [.ref (a 6), .int (nI u.1.2.2.1.length)])), ((a 6), .inl (D.1 20, 40, .inl u.2.2.2.1)), ((a 7), .inr (0, [.ref (a 8), .int (nI u.1.2.2.2.1.length)])), ((a 8), .inl (D.1 20, 40, .inl u.2.2.2.2.1)), ((a 9), .inr (2, [.ref (a 10)])), ((a 10), .inl (D.1 20, 40, .inl u.2.2.2.2.2.1)), ((a 11), .inr (2, [.ref (a 12)])), ((a 12), .inl (D.1 20, 40, .inl u.2.2.2.2.2.2.1)), ((a 13), .inr (2, [.ref (a 14)])), ((a 14), .inl (D.1 20, 40, .inl u.2.2.2.2.2.2.2))]) (c_X1_placeNewJar0 l D a N1 T1 A1 B1 to1 pi1 fe1 pl1 go1 hi1 mi1 re1 lo1 y01 y11 y21 y31 y41 y51 y61 k o hS1 w1 hk h93) cw_RX1_107 dX1_bring_107 ⟨Nat.le_of_ble_eq_true rfl, Nat.le_of_ble_eq_true rfl, Nat.le_of_ble_eq_true rfl, Nat.le_of_ble_eq_true rfl⟩ rfl (Nat.le_of_ble_eq_true rfl) rfl rfl rfl (by decide) rfl (fun _ => Nat.le_of_ble_eq_true rfl) (fun _ => rfl) _ rfl (fun v u hp => ?_)
            obtain ⟨⟨N3, T3, A3, B3, to3, pi3, fe3, pl3, go3, hi3, mi3, re3, lo3⟩, y03, y13, y23, y33, y43, y53, y63⟩ := u
            obtain ⟨rfl, e3, hS3⟩ := hp
            have e3 : (N3, T3, A3, B3, to3, pi3, fe3, pl3, go3, hi3, mi3, re3, lo3) = plc (N1, T1, A1, B1, to1, pi1, fe1, pl1, go1, hi1, mi1, re1, lo1) k o := e3
            have hS3 : SR (N3, T3, A3, B3, to3, pi3, fe3, pl3, go3, hi3, mi3, re3, lo3) (y03, y13, y23, y33, y43, y53, y63) := hS3
            refine KJ.eqs (st' := []) rfl ?_
            refine KJ.eqw (ws' := [((a 0), .inr (1, [.ref (a 1), .ref (a 3), .ref (a 5), .ref (a 7), .ref (a 9), .ref (a 11), .ref (a 13), .int (nI pl3), .int (nI go3), .int hi3, .int mi3, .int re3, .int lo3])), ((a 1), .inr (0, [.ref (a 2), .int (nI N3.length)])), ((a 2), .inl (D.1 20, 40, .inl y03)), ((a 3), .inr (0, [.ref (a 4), .int (nI T3.length)])), ((a 4), .inl (D.1 20, 40, .inl y13)), ((a 5), .inr (0, [.ref (a 6), .int (nI A3.length)])), ((a 6), .inl (D.1 20, 40, .inl y23)), ((a 7), .inr (0, [.ref (a 8), .int (nI B3.length)])), ((a 8), .inl (D.1 20, 40, .inl y33)), ((a 9), .inr (2, [.ref (a 10)])), ((a 10), .inl (D.1 20, 40, .inl y43)), ((a 11), .inr (2, [.ref (a 12)])), ((a 12), .inl (D.1 20, 40, .inl y53)), ((a 13), .inr (2, [.ref (a 14)])), ((a 14), .inl (D.1 20, 40, .inl y63))]) rfl ?_
            refine k_iload_n hC 110 dX1_bring_110 rfl ?_
            exact k_iret hC hE 111 ((N3, T3, A3, B3, to3, pi3, fe3, pl3, go3, hi3, mi3, re3, lo3), (y03, y13, y23, y33, y43, y53, y63)) dX1_bring_111 rfl (⟨by rw [ho, ocI_n h4], by rw [br_m ho h15 h4, e3, mo2, e1], hS3⟩) rfl ⟨Nat.zero_le _, Nat.zero_le _⟩
        · skip
          refine k_aload_n hC 84 dX1_bring_84 rfl ?_
          have so := sw_ok w1 (mp hc)
          refine k_callV hC 85 0 [0, 1, 2, 3, 4, 5, 6, 7, 8, 9, 10, 11, 12, 13, 14] (fun u => [((a 0), .inr (1, [.ref (a 1), .ref (a 3), .ref (a 5), .ref (a 7), .ref (a 9), .ref (a 11), .ref (a 13), .int (nI u.1.2.2.2.2.2.2.2.1), .int (nI u.1.2.2.2.2.2.2.2.2.1), .int u.1.2.2.2.2.2.2.2.2.2.1, .int u.1.2.2.2.2.2.2.2.2.2.2.1, .int u.1.2.2.2.2.2.2.2.2.2.2.2.1, .int u.1.2.2.2.2.2.2.2.2.2.2.2.2])), ((a 1), .inr (0, [.ref (a 2), .int (nI u.1.1.length)])), ((a 2), .inl (D.1 20, 40, .inl u.2.1)), ((a 3), .inr (0, [.ref (a 4), .int (nI u.1.2.1.length)])), ((a 4), .inl (D.1 20, 40, .inl u.2.2.1)), ((a 5), .inr (0, [.ref (a 6), .int (nI u.1.2.2.1.length)])), ((a 6), .inl (D.1 20, 40, .inl u.2.2.2.1)), ((a 7), .inr (0, [.ref (a 8), .int (nI u.1.2.2.2.1.length)])), ((a 8), .inl (D.1 20, 40, .inl u.2.2.2.2.1)), ((a 9), .inr (2, [.ref (a 10)])), ((a 10), .inl (D.1 20, 40, .inl u.2.2.2.2.2.1)), ((a 11), .inr (2, [.ref (a 12)])), ((a 12), .inl (D.1 20, 40, .inl u.2.2.2.2.2.2.1)), ((a 13), .inr (2, [.ref (a 14)])), ((a 14), .inl (D.1 20, 40, .inl u.2.2.2.2.2.2.2))]) (c_X1_sweep l D a N1 T1 A1 B1 to1 pi1 fe1 pl1 go1 hi1 mi1 re1 lo1 y01 y11 y21 y31 y41 y51 y61 200 (sw (N1, T1, A1, B1, to1, pi1, fe1, pl1, go1, hi1, mi1, re1, lo1)).1 (sw (N1, T1, A1, B1, to1, pi1, fe1, pl1, go1, hi1, mi1, re1, lo1)).2 hS1 w1 (by decide) so.1 (mp hc)) cw_RX1_104 dX1_bring_85 ⟨Nat.le_of_ble_eq_true rfl, Nat.le_of_ble_eq_true rfl, Nat.le_of_ble_eq_true rfl, Nat.le_of_ble_eq_true rfl⟩ rfl (Nat.le_of_ble_eq_true rfl) rfl rfl rfl (by decide) rfl (fun _ => Nat.le_of_ble_eq_true rfl) (fun _ => rfl) _ rfl (fun v u hp => ?_)
          obtain ⟨⟨N2, T2, A2, B2, to2, pi2, fe2, pl2, go2, hi2, mi2, re2, lo2⟩, y02, y12, y22, y32, y42, y52, y62⟩ := u
          obtain ⟨rfl, e2, hS2⟩ := hp
          have e2 : (N2, T2, A2, B2, to2, pi2, fe2, pl2, go2, hi2, mi2, re2, lo2) = (sw (N1, T1, A1, B1, to1, pi1, fe1, pl1, go1, hi1, mi1, re1, lo1)).1 := e2
          have hS2 : SR (N2, T2, A2, B2, to2, pi2, fe2, pl2, go2, hi2, mi2, re2, lo2) (y02, y12, y22, y32, y42, y52, y62) := hS2
          have w2 : WF (N2, T2, A2, B2, to2, pi2, fe2, pl2, go2, hi2, mi2, re2, lo2) := by rw [e2]; exact so.2.1
          have mo2 : ((N2, T2, A2, B2, to2, pi2, fe2, pl2, go2, hi2, mi2, re2, lo2) : PS) = (if plS (N1, T1, A1, B1, to1, pi1, fe1, pl1, go1, hi1, mi1, re1, lo1) ≤ jrs (N1, T1, A1, B1, to1, pi1, fe1, pl1, go1, hi1, mi1, re1, lo1) then (sw (N1, T1, A1, B1, to1, pi1, fe1, pl1, go1, hi1, mi1, re1, lo1)).1 else (N1, T1, A1, B1, to1, pi1, fe1, pl1, go1, hi1, mi1, re1, lo1)) := e2.trans (if_pos hc).symm
          rw [← mo2] at mo
          refine KJ.eqs (st' := .int (nI ((sw (N1, T1, A1, B1, to1, pi1, fe1, pl1, go1, hi1, mi1, re1, lo1)).2)) :: []) rfl ?_
          refine KJ.eqw (ws' := [((a 0), .inr (1, [.ref (a 1), .ref (a 3), .ref (a 5), .ref (a 7), .ref (a 9), .ref (a 11), .ref (a 13), .int (nI pl2), .int (nI go2), .int hi2, .int mi2, .int re2, .int lo2])), ((a 1), .inr (0, [.ref (a 2), .int (nI N2.length)])), ((a 2), .inl (D.1 20, 40, .inl y02)), ((a 3), .inr (0, [.ref (a 4), .int (nI T2.length)])), ((a 4), .inl (D.1 20, 40, .inl y12)), ((a 5), .inr (0, [.ref (a 6), .int (nI A2.length)])), ((a 6), .inl (D.1 20, 40, .inl y22)), ((a 7), .inr (0, [.ref (a 8), .int (nI B2.length)])), ((a 8), .inl (D.1 20, 40, .inl y32)), ((a 9), .inr (2, [.ref (a 10)])), ((a 10), .inl (D.1 20, 40, .inl y42)), ((a 11), .inr (2, [.ref (a 12)])), ((a 12), .inl (D.1 20, 40, .inl y52)), ((a 13), .inr (2, [.ref (a 14)])), ((a 14), .inl (D.1 20, 40, .inl y62))]) rfl ?_
          refine k_pop hC 88 dX1_bring_88 rfl ?_
          refine k_aload_n hC 89 dX1_bring_89 rfl ?_
          refine k_iload_n hC 90 dX1_bring_90 rfl ?_
          refine k_iload_n hC 91 dX1_bring_91 rfl ?_
          refine k_iconst hC 92 dX1_bring_92 (nI 1) (by decide) ?_
          refine n_icmp_ne hC 93 103 dX1_bring_93 (by decide) (by omega) (by omega) (fun h93 => ?_) (fun h93 => ?_)
          · skip
            refine k_aload_n hC 103 dX1_bring_103 rfl ?_
            refine k_getf hC 104 0 1 dX1_bring_104 rfl rfl inlX1 (by decide) wq_1_23 rfl ?_
            refine k_callV hC 107 0 [0, 1, 2, 3, 4, 5, 6, 7, 8, 9, 10, 11, 12, 13, 14] (fun u => [((a 0), .inr (1, [.ref (a 1), .ref (a 3), .ref (a 5), .ref (a 7), .ref (a 9), .ref (a 11), .ref (a 13), .int (nI u.1.2.2.2.2.2.2.2.1), .int (nI u.1.2.2.2.2.2.2.2.2.1), .int u.1.2.2.2.2.2.2.2.2.2.1, .int u.1.2.2.2.2.2.2.2.2.2.2.1, .int u.1.2.2.2.2.2.2.2.2.2.2.2.1, .int u.1.2.2.2.2.2.2.2.2.2.2.2.2])), ((a 1), .inr (0, [.ref (a 2), .int (nI u.1.1.length)])), ((a 2), .inl (D.1 20, 40, .inl u.2.1)), ((a 3), .inr (0, [.ref (a 4), .int (nI u.1.2.1.length)])), ((a 4), .inl (D.1 20, 40, .inl u.2.2.1)), ((a 5), .inr (0, [.ref (a 6), .int (nI u.1.2.2.1.length)])), ((a 6), .inl (D.1 20, 40, .inl u.2.2.2.1)), ((a 7), .inr (0, [.ref (a 8), .int (nI u.1.2.2.2.1.length)])), ((a 8), .inl (D.1 20, 40, .inl u.2.2.2.2.1)), ((a 9), .inr (2, [.ref (a 10)])), ((a 10), .inl (D.1 20, 40, .inl u.2.2.2.2.2.1)), ((a 11), .inr (2, [.ref (a 12)])), ((a 12), .inl (D.1 20, 40, .inl u.2.2.2.2.2.2.1)), ((a 13), .inr (2, [.ref (a 14)])), ((a 14), .inl (D.1 20, 40, .inl u.2.2.2.2.2.2.2))]) (c_X1_placeNewJar1 l D a N2 T2 A2 B2 to2 pi2 fe2 pl2 go2 hi2 mi2 re2 lo2 y02 y12 y22 y32 y42 y52 y62 k o hS2 w2 hk h93) cw_RX1_107 dX1_bring_107 ⟨Nat.le_of_ble_eq_true rfl, Nat.le_of_ble_eq_true rfl, Nat.le_of_ble_eq_true rfl, Nat.le_of_ble_eq_true rfl⟩ rfl (Nat.le_of_ble_eq_true rfl) rfl rfl rfl (by decide) rfl (fun _ => Nat.le_of_ble_eq_true rfl) (fun _ => rfl) _ rfl (fun v u hp => ?_)
            obtain ⟨⟨N3, T3, A3, B3, to3, pi3, fe3, pl3, go3, hi3, mi3, re3, lo3⟩, y03, y13, y23, y33, y43, y53, y63⟩ := u
            obtain ⟨rfl, e3, hS3⟩ := hp
            have e3 : (N3, T3, A3, B3, to3, pi3, fe3, pl3, go3, hi3, mi3, re3, lo3) = plc (N2, T2, A2, B2, to2, pi2, fe2, pl2, go2, hi2, mi2, re2, lo2) k o := e3
            have hS3 : SR (N3, T3, A3, B3, to3, pi3, fe3, pl3, go3, hi3, mi3, re3, lo3) (y03, y13, y23, y33, y43, y53, y63) := hS3
            refine KJ.eqs (st' := []) rfl ?_
            refine KJ.eqw (ws' := [((a 0), .inr (1, [.ref (a 1), .ref (a 3), .ref (a 5), .ref (a 7), .ref (a 9), .ref (a 11), .ref (a 13), .int (nI pl3), .int (nI go3), .int hi3, .int mi3, .int re3, .int lo3])), ((a 1), .inr (0, [.ref (a 2), .int (nI N3.length)])), ((a 2), .inl (D.1 20, 40, .inl y03)), ((a 3), .inr (0, [.ref (a 4), .int (nI T3.length)])), ((a 4), .inl (D.1 20, 40, .inl y13)), ((a 5), .inr (0, [.ref (a 6), .int (nI A3.length)])), ((a 6), .inl (D.1 20, 40, .inl y23)), ((a 7), .inr (0, [.ref (a 8), .int (nI B3.length)])), ((a 8), .inl (D.1 20, 40, .inl y33)), ((a 9), .inr (2, [.ref (a 10)])), ((a 10), .inl (D.1 20, 40, .inl y43)), ((a 11), .inr (2, [.ref (a 12)])), ((a 12), .inl (D.1 20, 40, .inl y53)), ((a 13), .inr (2, [.ref (a 14)])), ((a 14), .inl (D.1 20, 40, .inl y63))]) rfl ?_
            refine k_iload_n hC 110 dX1_bring_110 rfl ?_
            exact k_iret hC hE 111 ((N3, T3, A3, B3, to3, pi3, fe3, pl3, go3, hi3, mi3, re3, lo3), (y03, y13, y23, y33, y43, y53, y63)) dX1_bring_111 rfl (⟨by rw [ho, ocI_n h4], by rw [br_m ho h15 h4, e3, mo2, e1], hS3⟩) rfl ⟨Nat.zero_le _, Nat.zero_le _⟩
          · skip
            refine k_aload_n hC 96 dX1_bring_96 rfl ?_
            refine k_getf hC 97 0 0 dX1_bring_97 rfl rfl inlX1 (by decide) wq_1_22 rfl ?_
            refine k_goto hC 100 107 dX1_bring_100 (by decide) ?_
            refine k_callV hC 107 0 [0, 1, 2, 3, 4, 5, 6, 7, 8, 9, 10, 11, 12, 13, 14] (fun u => [((a 0), .inr (1, [.ref (a 1), .ref (a 3), .ref (a 5), .ref (a 7), .ref (a 9), .ref (a 11), .ref (a 13), .int (nI u.1.2.2.2.2.2.2.2.1), .int (nI u.1.2.2.2.2.2.2.2.2.1), .int u.1.2.2.2.2.2.2.2.2.2.1, .int u.1.2.2.2.2.2.2.2.2.2.2.1, .int u.1.2.2.2.2.2.2.2.2.2.2.2.1, .int u.1.2.2.2.2.2.2.2.2.2.2.2.2])), ((a 1), .inr (0, [.ref (a 2), .int (nI u.1.1.length)])), ((a 2), .inl (D.1 20, 40, .inl u.2.1)), ((a 3), .inr (0, [.ref (a 4), .int (nI u.1.2.1.length)])), ((a 4), .inl (D.1 20, 40, .inl u.2.2.1)), ((a 5), .inr (0, [.ref (a 6), .int (nI u.1.2.2.1.length)])), ((a 6), .inl (D.1 20, 40, .inl u.2.2.2.1)), ((a 7), .inr (0, [.ref (a 8), .int (nI u.1.2.2.2.1.length)])), ((a 8), .inl (D.1 20, 40, .inl u.2.2.2.2.1)), ((a 9), .inr (2, [.ref (a 10)])), ((a 10), .inl (D.1 20, 40, .inl u.2.2.2.2.2.1)), ((a 11), .inr (2, [.ref (a 12)])), ((a 12), .inl (D.1 20, 40, .inl u.2.2.2.2.2.2.1)), ((a 13), .inr (2, [.ref (a 14)])), ((a 14), .inl (D.1 20, 40, .inl u.2.2.2.2.2.2.2))]) (c_X1_placeNewJar0 l D a N2 T2 A2 B2 to2 pi2 fe2 pl2 go2 hi2 mi2 re2 lo2 y02 y12 y22 y32 y42 y52 y62 k o hS2 w2 hk h93) cw_RX1_107 dX1_bring_107 ⟨Nat.le_of_ble_eq_true rfl, Nat.le_of_ble_eq_true rfl, Nat.le_of_ble_eq_true rfl, Nat.le_of_ble_eq_true rfl⟩ rfl (Nat.le_of_ble_eq_true rfl) rfl rfl rfl (by decide) rfl (fun _ => Nat.le_of_ble_eq_true rfl) (fun _ => rfl) _ rfl (fun v u hp => ?_)
            obtain ⟨⟨N3, T3, A3, B3, to3, pi3, fe3, pl3, go3, hi3, mi3, re3, lo3⟩, y03, y13, y23, y33, y43, y53, y63⟩ := u
            obtain ⟨rfl, e3, hS3⟩ := hp
            have e3 : (N3, T3, A3, B3, to3, pi3, fe3, pl3, go3, hi3, mi3, re3, lo3) = plc (N2, T2, A2, B2, to2, pi2, fe2, pl2, go2, hi2, mi2, re2, lo2) k o := e3
            have hS3 : SR (N3, T3, A3, B3, to3, pi3, fe3, pl3, go3, hi3, mi3, re3, lo3) (y03, y13, y23, y33, y43, y53, y63) := hS3
            refine KJ.eqs (st' := []) rfl ?_
            refine KJ.eqw (ws' := [((a 0), .inr (1, [.ref (a 1), .ref (a 3), .ref (a 5), .ref (a 7), .ref (a 9), .ref (a 11), .ref (a 13), .int (nI pl3), .int (nI go3), .int hi3, .int mi3, .int re3, .int lo3])), ((a 1), .inr (0, [.ref (a 2), .int (nI N3.length)])), ((a 2), .inl (D.1 20, 40, .inl y03)), ((a 3), .inr (0, [.ref (a 4), .int (nI T3.length)])), ((a 4), .inl (D.1 20, 40, .inl y13)), ((a 5), .inr (0, [.ref (a 6), .int (nI A3.length)])), ((a 6), .inl (D.1 20, 40, .inl y23)), ((a 7), .inr (0, [.ref (a 8), .int (nI B3.length)])), ((a 8), .inl (D.1 20, 40, .inl y33)), ((a 9), .inr (2, [.ref (a 10)])), ((a 10), .inl (D.1 20, 40, .inl y43)), ((a 11), .inr (2, [.ref (a 12)])), ((a 12), .inl (D.1 20, 40, .inl y53)), ((a 13), .inr (2, [.ref (a 14)])), ((a 14), .inl (D.1 20, 40, .inl y63))]) rfl ?_
            refine k_iload_n hC 110 dX1_bring_110 rfl ?_
            exact k_iret hC hE 111 ((N3, T3, A3, B3, to3, pi3, fe3, pl3, go3, hi3, mi3, re3, lo3), (y03, y13, y23, y33, y43, y53, y63)) dX1_bring_111 rfl (⟨by rw [ho, ocI_n h4], by rw [br_m ho h15 h4, e3, mo2, e1], hS3⟩) rfl ⟨Nat.zero_le _, Nat.zero_le _⟩
      · skip
        refine k_aload_n hC 18 dX1_bring_18 rfl ?_
        refine k_dup hC 19 dX1_bring_19 rfl ?_
        refine k_getf hC 20 0 9 dX1_bring_20 rfl rfl inlX1 (by decide) wq_11_10 rfl ?_
        refine k_iconst hC 23 dX1_bring_23 (nI 1) (by decide) ?_
        refine k_iadd hC 24 dX1_bring_24 (KJ.topi (y := (hi + 1)) rfl ?_)
        refine k_putf hC 25 (ty0 := tyX1) 0 9 [((a 0), .inr (1, [.ref (a 1), .ref (a 3), .ref (a 5), .ref (a 7), .ref (a 9), .ref (a 11), .ref (a 13), .int (nI pl), .int (nI go), .int (hi + 1), .int mi, .int re, .int lo])), ((a 1), .inr (0, [.ref (a 2), .int (nI N.length)])), ((a 2), .inl (D.1 20, 40, .inl g0)), ((a 3), .inr (0, [.ref (a 4), .int (nI T.length)])), ((a 4), .inl (D.1 20, 40, .inl g1)), ((a 5), .inr (0, [.ref (a 6), .int (nI A.length)])), ((a 6), .inl (D.1 20, 40, .inl g2)), ((a 7), .inr (0, [.ref (a 8), .int (nI B.length)])), ((a 8), .inl (D.1 20, 40, .inl g3)), ((a 9), .inr (2, [.ref (a 10)])), ((a 10), .inl (D.1 20, 40, .inl g4)), ((a 11), .inr (2, [.ref (a 12)])), ((a 12), .inl (D.1 20, 40, .inl g5)), ((a 13), .inr (2, [.ref (a 14)])), ((a 14), .inl (D.1 20, 40, .inl g6))] dX1_bring_25 rfl rfl inlX1 tyX1_ok nmX1 (by decide) wq_11_10 rfl rfl rfl (Nat.le_of_ble_eq_true rfl) rfl ?_
        refine k_aload_n hC 28 dX1_bring_28 rfl ?_
        refine k_getf hC 29 0 4 dX1_bring_29 rfl rfl inlX1 (by decide) wq_2_5 rfl ?_
        refine k_iload_n hC 32 dX1_bring_32 rfl ?_
        refine k_iconst hC 33 dX1_bring_33 (nI 1) (by decide) ?_
        refine k_callV hC 34 9 [9, 10] (fun _ => [((a 0), .inr (1, [.ref (a 1), .ref (a 3), .ref (a 5), .ref (a 7), .ref (a 9), .ref (a 11), .ref (a 13), .int (nI pl), .int (nI go), .int (hi + 1), .int mi, .int re, .int lo])), ((a 1), .inr (0, [.ref (a 2), .int (nI N.length)])), ((a 2), .inl (D.1 20, 40, .inl g0)), ((a 3), .inr (0, [.ref (a 4), .int (nI T.length)])), ((a 4), .inl (D.1 20, 40, .inl g1)), ((a 5), .inr (0, [.ref (a 6), .int (nI A.length)])), ((a 6), .inl (D.1 20, 40, .inl g2)), ((a 7), .inr (0, [.ref (a 8), .int (nI B.length)])), ((a 8), .inl (D.1 20, 40, .inl g3)), ((a 9), .inr (2, [.ref (a 10)])), ((a 10), .inl (D.1 20, 40, .inl (upd g4 k (nI 1)))), ((a 11), .inr (2, [.ref (a 12)])), ((a 12), .inl (D.1 20, 40, .inl g5)), ((a 13), .inr (2, [.ref (a 14)])), ((a 14), .inl (D.1 20, 40, .inl g6))]) (c_X2_put l D (a 9) (a 10) g4 k (nI 1) hk) cw_RX1_97 dX1_bring_34 ⟨Nat.le_of_ble_eq_true rfl, Nat.le_of_ble_eq_true rfl, Nat.le_of_ble_eq_true rfl, Nat.le_of_ble_eq_true rfl⟩ rfl (Nat.le_of_ble_eq_true rfl) rfl rfl rfl (by decide) rfl (fun _ => Nat.le_of_ble_eq_true rfl) (fun _ => rfl) _ rfl (fun v _ hp => ?_)
        obtain rfl := hp
        refine KJ.eqs (st' := []) rfl ?_
        refine k_aload_n hC 37 dX1_bring_37 rfl ?_
        refine k_getf hC 38 0 6 dX1_bring_38 rfl rfl inlX1 (by decide) wq_2_7 rfl ?_
        refine k_iload_n hC 41 dX1_bring_41 rfl ?_
        refine k_aload_n hC 42 dX1_bring_42 rfl ?_
        refine k_getf hC 43 0 6 dX1_bring_43 rfl rfl inlX1 (by decide) wq_2_7 rfl ?_
        refine k_iload_n hC 46 dX1_bring_46 rfl ?_
        refine k_callVr hC 47 13 [13, 14] (c_X2_of l D (a 13) (a 14) g6 k hk) cw_RX1_81 dX1_bring_47 ⟨Nat.le_of_ble_eq_true rfl, Nat.le_of_ble_eq_true rfl, Nat.le_of_ble_eq_true rfl, Nat.le_of_ble_eq_true rfl⟩ rfl (Nat.le_of_ble_eq_true rfl) rfl rfl rfl (by decide) rfl (fun _ => Nat.le_of_ble_eq_true rfl) (fun _ => rfl) _ rfl (fun v u hp => ?_)
        obtain rfl := hp
        refine KJ.eqs (st' := .int (g6 k) :: .int (nI k) :: .ref (a 13) :: []) rfl ?_
        refine KJ.topi (y := (fe k)) (r6 k hk) ?_
        refine k_iconst hC 50 dX1_bring_50 (nI 1) (by decide) ?_
        refine k_iadd hC 51 dX1_bring_51 (KJ.topi (y := (fe k + 1)) rfl ?_)
        refine k_callV hC 52 13 [13, 14] (fun _ => [((a 0), .inr (1, [.ref (a 1), .ref (a 3), .ref (a 5), .ref (a 7), .ref (a 9), .ref (a 11), .ref (a 13), .int (nI pl), .int (nI go), .int (hi + 1), .int mi, .int re, .int lo])), ((a 1), .inr (0, [.ref (a 2), .int (nI N.length)])), ((a 2), .inl (D.1 20, 40, .inl g0)), ((a 3), .inr (0, [.ref (a 4), .int (nI T.length)])), ((a 4), .inl (D.1 20, 40, .inl g1)), ((a 5), .inr (0, [.ref (a 6), .int (nI A.length)])), ((a 6), .inl (D.1 20, 40, .inl g2)), ((a 7), .inr (0, [.ref (a 8), .int (nI B.length)])), ((a 8), .inl (D.1 20, 40, .inl g3)), ((a 9), .inr (2, [.ref (a 10)])), ((a 10), .inl (D.1 20, 40, .inl (upd g4 k (nI 1)))), ((a 11), .inr (2, [.ref (a 12)])), ((a 12), .inl (D.1 20, 40, .inl g5)), ((a 13), .inr (2, [.ref (a 14)])), ((a 14), .inl (D.1 20, 40, .inl (upd g6 k (fe k + 1))))]) (c_X2_put l D (a 13) (a 14) g6 k (fe k + 1) hk) cw_RX1_97 dX1_bring_52 ⟨Nat.le_of_ble_eq_true rfl, Nat.le_of_ble_eq_true rfl, Nat.le_of_ble_eq_true rfl, Nat.le_of_ble_eq_true rfl⟩ rfl (Nat.le_of_ble_eq_true rfl) rfl rfl rfl (by decide) rfl (fun _ => Nat.le_of_ble_eq_true rfl) (fun _ => rfl) _ rfl (fun v _ hp => ?_)
        obtain rfl := hp
        refine KJ.eqs (st' := []) rfl ?_
        refine k_iload_n hC 55 dX1_bring_55 rfl ?_
        exact k_iret hC hE 56 ((N, T, A, B, va_up to k 1, pi, va_up fe k (fe k + 1), pl, go, hi + 1, mi, re, lo), (g0, g1, g2, g3, upd g4 k (nI 1), g5, upd g6 k (fe k + 1))) dX1_bring_56 rfl (⟨by rw [ho, ocI_n h4], by rw [br_0 (ho.trans h15)]; rfl, r0, r1, r2, r3, tup r4 k 1, r5, tupI r6 k (fe k + 1)⟩) rfl ⟨Nat.zero_le _, Nat.zero_le _⟩
    · skip
      exact absurd h9 (nI_m9 (by omega))
