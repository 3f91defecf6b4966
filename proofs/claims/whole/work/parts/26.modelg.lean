/-! WHAT IS TOLD, FOR THE MODEL -/
section DT
variable {N T A B : List Nat} {to pi : Nat → Nat} {fe : Nat → Int32} {pl go : Nat} {hi mi re lo : Int32} {k : Nat}
theorem dtl_no (n : Nat) (h : ¬ (k ∈ N ∨ k ∈ T)) : dtl (N, T, A, B, to, pi, fe, pl, go, hi, mi, re, lo) k n = -1 := if_neg h
theorem dtl_y (n : Nat) (h : k ∈ N ∨ k ∈ T) : dtl (N, T, A, B, to, pi, fe, pl, go, hi, mi, re, lo) k n = (if n = 0 then (if k ∈ N then nI 0 else nI 1) else if n = 1 then (if k ∈ N then nI (N.idxOf k) else nI (T.idxOf k)) else if n = 2 then nI (to k) else if n = 3 then nI (pi k) else fe k) := if_pos h
theorem in_row {len i : Nat} (hl : len ≤ 40) (h : i < len) : ¬ nI i < nI 0 ∧ nI i ≤ nI len - nI 1 := by
  obtain ⟨m, rfl⟩ : ∃ m, len = m + 1 := ⟨len - 1, by omega⟩
  have e : nI (m + 1) - nI 1 = nI m := by rw [← nI_add, Int32.add_sub_cancel]
  rw [e]
  exact ⟨fun z => nI_pos (show i < 2147483648 by omega) (by rw [← nI_0]; exact z), (nI_leI (by omega) (by omega)).mpr (by omega)⟩
theorem row_in {len : Nat} {p : Int32} (hl : len ≤ 40) (h1 : ¬ p < nI 0) (h2 : p ≤ nI len - nI 1) : ∃ i : Nat, i < len ∧ p = nI i := by
  rcases Nat.eq_zero_or_pos len with e | e
  · subst e
    exact absurd (Int32.lt_of_le_of_lt h2 (by decide)) h1
  · obtain ⟨m, rfl⟩ : ∃ m, len = m + 1 := ⟨len - 1, by omega⟩
    have e : nI (m + 1) - nI 1 = nI m := by rw [← nI_add, Int32.add_sub_cancel]
    rw [e] at h2
    obtain ⟨-, b, hp⟩ := nn_of (m := 0) (by decide) (by omega) h1 h2
    exact ⟨kn p, by omega, hp.symm⟩
end DT
set_option maxHeartbeats 4000000 in
set_option maxRecDepth 100000 in
/-- m_counted -/
theorem m_counted (l : Launch) (D : va_G) (o : Nat → Nat) (th : Int32) (fj fs fl fn : Nat → Int32) (N T A B : List Nat) (to pi : Nat → Nat) (fe : Nat → Int32) (pl go : Nat) (hi mi re lo : Int32) (n : Nat) (hM : MR (N, T, A, B, to, pi, fe, pl, go, hi, mi, re, lo) (fj, fs, fl, fn)) (hW : WF (N, T, A, B, to, pi, fe, pl, go, hi, mi, re, lo)) (hn : n ≤ 10) : MU l yX4_counted cX4_counted 2 (some .int) 3 65 D [.ref (o 0), .int (nI n)] [((o 0), .inr (4, [.int th, .ref (o 1), .ref (o 2), .ref (o 3), .ref (o 4)])), ((o 1), .inl (D.1 5, 160, .inl fj)), ((o 2), .inl (D.1 5, 24, .inl fs)), ((o 3), .inl (D.1 5, 26, .inl fl)), ((o 4), .inl (D.1 5, 10, .inl fn))] (fun v (_ : Unit) => v = some (.int (ct (N, T, A, B, to, pi, fe, pl, go, hi, mi, re, lo) n))) (fun _ => [((o 0), .inr (4, [.int th, .ref (o 1), .ref (o 2), .ref (o 3), .ref (o 4)])), ((o 1), .inl (D.1 5, 160, .inl fj)), ((o 2), .inl (D.1 5, 24, .inl fs)), ((o 3), .inl (D.1 5, 26, .inl fl)), ((o 4), .inl (D.1 5, 10, .inl fn))]) 0 0 := by
  refine MU.enter (by decide) [(0, .ref (o 0)), (1, .int (nI n))] rfl (Nat.le_of_ble_eq_true rfl) (fun G hC hE => ?_)
  have hC : CX G D cX4_counted RX4 2 := hC
  have hM0 := hM
  have hW0 := hW
  obtain ⟨⟨r0, r1, r2, r3⟩, hj, ⟨n0, n1, n2, n3, n4, n5⟩, n6, n7, n8, n9⟩ := hM
  obtain ⟨kN, kT, kA, kB, nd, len, lA, lB, pp2, pp12, g12, t1, p9⟩ := hW
  have q0 := pc_le pi N
  have q1 := pc_le pi T
  rcases (show n = 0 ∨ n = 1 ∨ n = 2 ∨ n = 3 ∨ n = 4 ∨ n = 5 ∨ n = 6 ∨ n = 7 ∨ n = 8 ∨ n = 9 ∨ n = 10 by omega) with rfl | rfl | rfl | rfl | rfl | rfl | rfl | rfl | rfl | rfl | rfl
  · skip
    refine k_iload_n hC 0 dX4_counted_0 rfl ?_
    refine k_tableIn hC 1 60 dX4_counted_1 (by decide) (by decide) rfl (by decide) ?_
    refine k_aload_n hC 60 dX4_counted_60 rfl ?_
    refine k_getf hC 61 0 4 dX4_counted_61 rfl rfl inlX4 (by decide) wq_3_7 rfl ?_
    refine k_iconst hC 64 dX4_counted_64 (nI 0) (by decide) ?_
    refine n_iald hC 65 4 (nI pl) dX4_counted_65 rfl (by omega) (by decide) n0 ?_
    exact k_iret hC hE 66 () dX4_counted_66 rfl rfl rfl ⟨Nat.zero_le _, Nat.zero_le _⟩
  · skip
    refine k_iload_n hC 0 dX4_counted_0 rfl ?_
    refine k_tableIn hC 1 67 dX4_counted_1 (by decide) (by decide) rfl (by decide) ?_
    refine k_aload_n hC 67 dX4_counted_67 rfl ?_
    refine k_iconst hC 68 dX4_counted_68 (nI 0) (by decide) ?_
    refine k_callVr hC 69 0 [0, 1, 2, 3, 4] (m_many l D o th fj fs fl fn 0 (by decide)) cw_RX4_34 dX4_counted_69 ⟨Nat.le_of_ble_eq_true rfl, Nat.le_of_ble_eq_true rfl, Nat.le_of_ble_eq_true rfl, Nat.le_of_ble_eq_true rfl⟩ rfl (Nat.le_of_ble_eq_true rfl) rfl rfl rfl (by decide) rfl (fun _ => Nat.le_of_ble_eq_true rfl) (fun _ => rfl) _ rfl (fun v u hp => ?_)
    obtain rfl := hp
    refine KJ.eqs (st' := .int (fn (6 + 0)) :: []) rfl ?_
    refine KJ.topi (y := (nI N.length)) n6 ?_
    exact k_iret hC hE 72 () dX4_counted_72 rfl rfl rfl ⟨Nat.zero_le _, Nat.zero_le _⟩
  · skip
    refine k_iload_n hC 0 dX4_counted_0 rfl ?_
    refine k_tableIn hC 1 73 dX4_counted_1 (by decide) (by decide) rfl (by decide) ?_
    refine k_aload_n hC 73 dX4_counted_73 rfl ?_
    refine k_iconst hC 74 dX4_counted_74 (nI 1) (by decide) ?_
    refine k_callVr hC 75 0 [0, 1, 2, 3, 4] (m_many l D o th fj fs fl fn 1 (by decide)) cw_RX4_34 dX4_counted_75 ⟨Nat.le_of_ble_eq_true rfl, Nat.le_of_ble_eq_true rfl, Nat.le_of_ble_eq_true rfl, Nat.le_of_ble_eq_true rfl⟩ rfl (Nat.le_of_ble_eq_true rfl) rfl rfl rfl (by decide) rfl (fun _ => Nat.le_of_ble_eq_true rfl) (fun _ => rfl) _ rfl (fun v u hp => ?_)
    obtain rfl := hp
    refine KJ.eqs (st' := .int (fn (6 + 1)) :: []) rfl ?_
    refine KJ.topi (y := (nI T.length)) n7 ?_
    exact k_iret hC hE 78 () dX4_counted_78 rfl rfl rfl ⟨Nat.zero_le _, Nat.zero_le _⟩
  · skip
    refine k_iload_n hC 0 dX4_counted_0 rfl ?_
    refine k_tableIn hC 1 79 dX4_counted_1 (by decide) (by decide) rfl (by decide) ?_
    refine k_aload_n hC 79 dX4_counted_79 rfl ?_
    refine k_iconst hC 80 dX4_counted_80 (nI 0) (by decide) ?_
    refine k_callVr hC 81 0 [0, 1, 2, 3, 4] (m_listed l D o th fj fs fl fn 0 (by decide)) cw_RX4_44 dX4_counted_81 ⟨Nat.le_of_ble_eq_true rfl, Nat.le_of_ble_eq_true rfl, Nat.le_of_ble_eq_true rfl, Nat.le_of_ble_eq_true rfl⟩ rfl (Nat.le_of_ble_eq_true rfl) rfl rfl rfl (by decide) rfl (fun _ => Nat.le_of_ble_eq_true rfl) (fun _ => rfl) _ rfl (fun v u hp => ?_)
    obtain rfl := hp
    refine KJ.eqs (st' := .int (fn (8 + 0)) :: []) rfl ?_
    refine KJ.topi (y := (nI A.length)) n8 ?_
    exact k_iret hC hE 84 () dX4_counted_84 rfl rfl rfl ⟨Nat.zero_le _, Nat.zero_le _⟩
  · skip
    refine k_iload_n hC 0 dX4_counted_0 rfl ?_
    refine k_tableIn hC 1 85 dX4_counted_1 (by decide) (by decide) rfl (by decide) ?_
    refine k_aload_n hC 85 dX4_counted_85 rfl ?_
    refine k_iconst hC 86 dX4_counted_86 (nI 1) (by decide) ?_
    refine k_callVr hC 87 0 [0, 1, 2, 3, 4] (m_listed l D o th fj fs fl fn 1 (by decide)) cw_RX4_44 dX4_counted_87 ⟨Nat.le_of_ble_eq_true rfl, Nat.le_of_ble_eq_true rfl, Nat.le_of_ble_eq_true rfl, Nat.le_of_ble_eq_true rfl⟩ rfl (Nat.le_of_ble_eq_true rfl) rfl rfl rfl (by decide) rfl (fun _ => Nat.le_of_ble_eq_true rfl) (fun _ => rfl) _ rfl (fun v u hp => ?_)
    obtain rfl := hp
    refine KJ.eqs (st' := .int (fn (8 + 1)) :: []) rfl ?_
    refine KJ.topi (y := (nI B.length)) n9 ?_
    exact k_iret hC hE 90 () dX4_counted_90 rfl rfl rfl ⟨Nat.zero_le _, Nat.zero_le _⟩
  · skip
    refine k_iload_n hC 0 dX4_counted_0 rfl ?_
    refine k_tableIn hC 1 91 dX4_counted_1 (by decide) (by decide) rfl (by decide) ?_
    refine k_aload_n hC 91 dX4_counted_91 rfl ?_
    refine k_getf hC 92 0 4 dX4_counted_92 rfl rfl inlX4 (by decide) wq_3_7 rfl ?_
    refine k_iconst hC 95 dX4_counted_95 (nI 1) (by decide) ?_
    refine n_iald hC 96 4 (nI go) dX4_counted_96 rfl (by omega) (by decide) n1 ?_
    exact k_iret hC hE 97 () dX4_counted_97 rfl rfl rfl ⟨Nat.zero_le _, Nat.zero_le _⟩
  · skip
    refine k_iload_n hC 0 dX4_counted_0 rfl ?_
    refine k_tableIn hC 1 103 dX4_counted_1 (by decide) (by decide) rfl (by decide) ?_
    refine k_aload_n hC 103 dX4_counted_103 rfl ?_
    refine k_getf hC 104 0 4 dX4_counted_104 rfl rfl inlX4 (by decide) wq_3_7 rfl ?_
    refine k_iconst hC 107 dX4_counted_107 (nI 2) (by decide) ?_
    refine k_iload_n hC 108 dX4_counted_108 rfl ?_
    refine n_iadd hC 109 8 dX4_counted_109 (by omega) ?_
    refine k_bipush hC 110 dX4_counted_110 (nI 6) (by decide) ?_
    refine n_isub hC 112 2 dX4_counted_112 (by omega) (by omega) ?_
    refine n_iald hC 113 4 hi dX4_counted_113 rfl (by omega) (by decide) n2 ?_
    exact k_iret hC hE 114 () dX4_counted_114 rfl rfl rfl ⟨Nat.zero_le _, Nat.zero_le _⟩
  · skip
    refine k_iload_n hC 0 dX4_counted_0 rfl ?_
    refine k_tableIn hC 1 103 dX4_counted_1 (by decide) (by decide) rfl (by decide) ?_
    refine k_aload_n hC 103 dX4_counted_103 rfl ?_
    refine k_getf hC 104 0 4 dX4_counted_104 rfl rfl inlX4 (by decide) wq_3_7 rfl ?_
    refine k_iconst hC 107 dX4_counted_107 (nI 2) (by decide) ?_
    refine k_iload_n hC 108 dX4_counted_108 rfl ?_
    refine n_iadd hC 109 9 dX4_counted_109 (by omega) ?_
    refine k_bipush hC 110 dX4_counted_110 (nI 6) (by decide) ?_
    refine n_isub hC 112 3 dX4_counted_112 (by omega) (by omega) ?_
    refine n_iald hC 113 4 mi dX4_counted_113 rfl (by omega) (by decide) n3 ?_
    exact k_iret hC hE 114 () dX4_counted_114 rfl rfl rfl ⟨Nat.zero_le _, Nat.zero_le _⟩
  · skip
    refine k_iload_n hC 0 dX4_counted_0 rfl ?_
    refine k_tableIn hC 1 103 dX4_counted_1 (by decide) (by decide) rfl (by decide) ?_
    refine k_aload_n hC 103 dX4_counted_103 rfl ?_
    refine k_getf hC 104 0 4 dX4_counted_104 rfl rfl inlX4 (by decide) wq_3_7 rfl ?_
    refine k_iconst hC 107 dX4_counted_107 (nI 2) (by decide) ?_
    refine k_iload_n hC 108 dX4_counted_108 rfl ?_
    refine n_iadd hC 109 10 dX4_counted_109 (by omega) ?_
    refine k_bipush hC 110 dX4_counted_110 (nI 6) (by decide) ?_
    refine n_isub hC 112 4 dX4_counted_112 (by omega) (by omega) ?_
    refine n_iald hC 113 4 re dX4_counted_113 rfl (by omega) (by decide) n4 ?_
    exact k_iret hC hE 114 () dX4_counted_114 rfl rfl rfl ⟨Nat.zero_le _, Nat.zero_le _⟩
  · skip
    refine k_iload_n hC 0 dX4_counted_0 rfl ?_
    refine k_tableIn hC 1 103 dX4_counted_1 (by decide) (by decide) rfl (by decide) ?_
    refine k_aload_n hC 103 dX4_counted_103 rfl ?_
    refine k_getf hC 104 0 4 dX4_counted_104 rfl rfl inlX4 (by decide) wq_3_7 rfl ?_
    refine k_iconst hC 107 dX4_counted_107 (nI 2) (by decide) ?_
    refine k_iload_n hC 108 dX4_counted_108 rfl ?_
    refine n_iadd hC 109 11 dX4_counted_109 (by omega) ?_
    refine k_bipush hC 110 dX4_counted_110 (nI 6) (by decide) ?_
    refine n_isub hC 112 5 dX4_counted_112 (by omega) (by omega) ?_
    refine n_iald hC 113 4 lo dX4_counted_113 rfl (by omega) (by decide) n5 ?_
    exact k_iret hC hE 114 () dX4_counted_114 rfl rfl rfl ⟨Nat.zero_le _, Nat.zero_le _⟩
  · skip
    refine k_iload_n hC 0 dX4_counted_0 rfl ?_
    refine k_tableIn hC 1 98 dX4_counted_1 (by decide) (by decide) rfl (by decide) ?_
    refine k_aload_n hC 98 dX4_counted_98 rfl ?_
    refine k_callVr hC 99 0 [0, 1, 2, 3, 4] (m_pinned l D o th fj fs fl fn N T to pi fe hj nd kN kT p9) cw_RX4_86 dX4_counted_99 ⟨Nat.le_of_ble_eq_true rfl, Nat.le_of_ble_eq_true rfl, Nat.le_of_ble_eq_true rfl, Nat.le_of_ble_eq_true rfl⟩ rfl (Nat.le_of_ble_eq_true rfl) rfl rfl rfl (by decide) rfl (fun _ => Nat.le_of_ble_eq_true rfl) (fun _ => rfl) _ rfl (fun v u hp => ?_)
    obtain rfl := hp
    refine KJ.eqs (st' := .int (nI (pc pi N + pc pi T)) :: []) rfl ?_
    exact k_iret hC hE 102 () dX4_counted_102 rfl rfl rfl ⟨Nat.zero_le _, Nat.zero_le _⟩
set_option maxHeartbeats 4000000 in
set_option maxRecDepth 100000 in
/-- m_count -/
theorem m_count (l : Launch) (D : va_G) (o : Nat → Nat) (th : Int32) (fj fs fl fn : Nat → Int32) (N T A B : List Nat) (to pi : Nat → Nat) (fe : Nat → Int32) (pl go : Nat) (hi mi re lo : Int32) (p : Int32) (hM : MR (N, T, A, B, to, pi, fe, pl, go, hi, mi, re, lo) (fj, fs, fl, fn)) (hW : WF (N, T, A, B, to, pi, fe, pl, go, hi, mi, re, lo)) (hjp : N.length + T.length ≤ pl) : MU l yX4_count cX4_count 2 (some .int) 4 86 D [.ref (o 0), .int p] [((o 0), .inr (4, [.int th, .ref (o 1), .ref (o 2), .ref (o 3), .ref (o 4)])), ((o 1), .inl (D.1 5, 160, .inl fj)), ((o 2), .inl (D.1 5, 24, .inl fs)), ((o 3), .inl (D.1 5, 26, .inl fl)), ((o 4), .inl (D.1 5, 10, .inl fn))] (fun v (u : MG) => ∃ x : Int32, v = some (.int x) ∧ ((countK p = 0 ∧ x = ct (N, T, A, B, to, pi, fe, pl, go, hi, mi, re, lo) (kn p) ∧ MR ((N, T, A, B, to, pi, fe, pl, go, hi, mi, re, lo)) u) ∨ (countK p ≠ 0 ∧ MR (N, T, A, B, to, pi, fe, pl, go, hi, mi, re, lo) u))) (fun u => [((o 0), .inr (4, [.int (nI (countK p)), .ref (o 1), .ref (o 2), .ref (o 3), .ref (o 4)])), ((o 1), .inl (D.1 5, 160, .inl u.1)), ((o 2), .inl (D.1 5, 24, .inl u.2.1)), ((o 3), .inl (D.1 5, 26, .inl u.2.2.1)), ((o 4), .inl (D.1 5, 10, .inl u.2.2.2))]) 0 0 := by
  refine MU.enter (by decide) [(0, .ref (o 0)), (1, .int p)] rfl (Nat.le_of_ble_eq_true rfl) (fun G hC hE => ?_)
  have hC : CX G D cX4_count RX4 2 := hC
  have hM0 := hM
  have hW0 := hW
  obtain ⟨⟨r0, r1, r2, r3⟩, hj, ⟨n0, n1, n2, n3, n4, n5⟩, n6, n7, n8, n9⟩ := hM
  obtain ⟨kN, kT, kA, kB, nd, len, lA, lB, pp2, pp12, g12, t1, p9⟩ := hW
  have q0 := pc_le pi N
  have q1 := pc_le pi T
  refine k_aload_n hC 0 dX4_count_0 rfl ?_
  refine k_iconst hC 1 dX4_count_1 (nI 0) (by decide) ?_
  refine k_putf hC 2 (ty0 := tyX4) 0 0 [((o 0), .inr (4, [.int (nI 0), .ref (o 1), .ref (o 2), .ref (o 3), .ref (o 4)])), ((o 1), .inl (D.1 5, 160, .inl fj)), ((o 2), .inl (D.1 5, 24, .inl fs)), ((o 3), .inl (D.1 5, 26, .inl fl)), ((o 4), .inl (D.1 5, 10, .inl fn))] dX4_count_2 rfl rfl inlX4 tyX4_ok nmX4 (by decide) wq_8_7 rfl rfl rfl (Nat.le_of_ble_eq_true rfl) rfl ?_
  refine k_iload_n hC 5 dX4_count_5 rfl ?_
  refine k_iconst hC 6 dX4_count_6 (nI 0) (by decide) ?_
  refine k_bipush hC 7 dX4_count_7 (nI 10) (by decide) ?_
  refine k_callSr hC 9 [] (m_isIn l D p (nI 0) (nI 10)) cw_RX4_26 dX4_count_9 ⟨Nat.le_of_ble_eq_true rfl, Nat.le_of_ble_eq_true rfl, Nat.le_of_ble_eq_true rfl, Nat.le_of_ble_eq_true rfl⟩ rfl (Nat.le_of_ble_eq_true rfl) (by decide) rfl (fun _ => Nat.le_of_ble_eq_true rfl) (fun _ => rfl) _ rfl (fun v u hp => ?_)
  obtain ⟨c, rfl, hc1, hc⟩ := hp
  refine KJ.eqs (st' := .int (nI c) :: []) rfl ?_
  refine n_if_eq hC 12 23 dX4_count_12 (by decide) (by omega) (fun h12 => ?_) (fun h12 => ?_)
  · skip
    have hK : countK p = 1 := kK_1 ((in_no hc h12).imp (fun z => by rw [← nI_0]; exact z) (fun z y => z (lt_le (by decide) y)))
    refine k_aload_n hC 23 dX4_count_23 rfl ?_
    refine k_iconst hC 24 dX4_count_24 (nI 1) (by decide) ?_
    refine k_callV hC 25 0 [0, 1, 2, 3, 4] (fun (_ : Unit) => [((o 0), .inr (4, [.int (nI 1), .ref (o 1), .ref (o 2), .ref (o 3), .ref (o 4)])), ((o 1), .inl (D.1 5, 160, .inl fj)), ((o 2), .inl (D.1 5, 24, .inl fs)), ((o 3), .inl (D.1 5, 26, .inl fl)), ((o 4), .inl (D.1 5, 10, .inl fn))]) (m_fail l D o (nI 0) fj fs fl fn 1) cw_RX4_104 dX4_count_25 ⟨Nat.le_of_ble_eq_true rfl, Nat.le_of_ble_eq_true rfl, Nat.le_of_ble_eq_true rfl, Nat.le_of_ble_eq_true rfl⟩ rfl (Nat.le_of_ble_eq_true rfl) rfl rfl rfl (by decide) rfl (fun _ => Nat.le_of_ble_eq_true rfl) (fun _ => rfl) _ rfl (fun v (_ : Unit) hp => ?_)
    obtain rfl := hp
    refine KJ.eqs (st' := .int 0 :: []) rfl ?_
    exact k_iret hC hE 28 (fj, fs, fl, fn) dX4_count_28 rfl (⟨_, rfl, Or.inr ⟨by rw [hK]; decide, hM0⟩⟩) (congrArg (fun z => ([((o 0), .inr (4, [.int (nI z), .ref (o 1), .ref (o 2), .ref (o 3), .ref (o 4)])), ((o 1), .inl (D.1 5, 160, .inl fj)), ((o 2), .inl (D.1 5, 24, .inl fs)), ((o 3), .inl (D.1 5, 26, .inl fl)), ((o 4), .inl (D.1 5, 10, .inl fn))] : va_W)) hK) ⟨Nat.zero_le _, Nat.zero_le _⟩
  · skip
    obtain ⟨q1, q2⟩ := hc.mp h12
    obtain ⟨b1, b2, hp⟩ := nn_of (m := 0) (by decide) (by decide) q1 q2
    rw [← hp]
    have q1 : ¬ p < 0 := fun z => q1 (by rw [nI_0]; exact z)
    have hK : countK p = 0 := kK_0 (fun z => z.elim q1 (fun y => y (Int32.lt_of_le_of_lt q2 (by decide)))) id
    refine k_aload_n hC 15 dX4_count_15 rfl ?_
    refine k_iload_n hC 16 dX4_count_16 rfl ?_
    refine k_callVr hC 17 0 [0, 1, 2, 3, 4] (m_counted l D o (nI 0) fj fs fl fn N T A B to pi fe pl go hi mi re lo (kn p) hM0 hW0 b2) cw_RX4_126 dX4_count_17 ⟨Nat.le_of_ble_eq_true rfl, Nat.le_of_ble_eq_true rfl, Nat.le_of_ble_eq_true rfl, Nat.le_of_ble_eq_true rfl⟩ rfl (Nat.le_of_ble_eq_true rfl) rfl rfl rfl (by decide) rfl (fun _ => Nat.le_of_ble_eq_true rfl) (fun _ => rfl) _ rfl (fun v u hp => ?_)
    obtain rfl := hp
    refine KJ.eqs (st' := .int (ct (N, T, A, B, to, pi, fe, pl, go, hi, mi, re, lo) (kn p)) :: []) rfl ?_
    refine k_goto hC 20 28 dX4_count_20 (by decide) ?_
    exact k_iret hC hE 28 (fj, fs, fl, fn) dX4_count_28 rfl (⟨_, rfl, Or.inl ⟨hK, rfl, hM0⟩⟩) (congrArg (fun z => ([((o 0), .inr (4, [.int (nI z), .ref (o 1), .ref (o 2), .ref (o 3), .ref (o 4)])), ((o 1), .inl (D.1 5, 160, .inl fj)), ((o 2), .inl (D.1 5, 24, .inl fs)), ((o 3), .inl (D.1 5, 26, .inl fl)), ((o 4), .inl (D.1 5, 10, .inl fn))] : va_W)) hK) ⟨Nat.zero_le _, Nat.zero_le _⟩
set_option maxHeartbeats 4000000 in
set_option maxRecDepth 100000 in
/-- m_jar -/
theorem m_jar (l : Launch) (D : va_G) (o : Nat → Nat) (th : Int32) (fj fs fl fn : Nat → Int32) (N T A B : List Nat) (to pi : Nat → Nat) (fe : Nat → Int32) (pl go : Nat) (hi mi re lo : Int32) (p0 p1 : Int32) (hM : MR (N, T, A, B, to, pi, fe, pl, go, hi, mi, re, lo) (fj, fs, fl, fn)) (hW : WF (N, T, A, B, to, pi, fe, pl, go, hi, mi, re, lo)) (hjp : N.length + T.length ≤ pl) : MU l yX4_jar cX4_jar 3 (some .int) 2 44 D [.ref (o 0), .int p0, .int p1] [((o 0), .inr (4, [.int th, .ref (o 1), .ref (o 2), .ref (o 3), .ref (o 4)])), ((o 1), .inl (D.1 5, 160, .inl fj)), ((o 2), .inl (D.1 5, 24, .inl fs)), ((o 3), .inl (D.1 5, 26, .inl fl)), ((o 4), .inl (D.1 5, 10, .inl fn))] (fun v (u : MG) => ∃ x : Int32, v = some (.int x) ∧ ((jarK p0 p1 = 0 ∧ x = dtl (N, T, A, B, to, pi, fe, pl, go, hi, mi, re, lo) (kn p0) (kn p1) ∧ MR ((N, T, A, B, to, pi, fe, pl, go, hi, mi, re, lo)) u) ∨ (jarK p0 p1 ≠ 0 ∧ MR (N, T, A, B, to, pi, fe, pl, go, hi, mi, re, lo) u))) (fun u => [((o 0), .inr (4, [.int (nI (jarK p0 p1)), .ref (o 1), .ref (o 2), .ref (o 3), .ref (o 4)])), ((o 1), .inl (D.1 5, 160, .inl u.1)), ((o 2), .inl (D.1 5, 24, .inl u.2.1)), ((o 3), .inl (D.1 5, 26, .inl u.2.2.1)), ((o 4), .inl (D.1 5, 10, .inl u.2.2.2))]) 0 0 := by
  refine MU.enter (by decide) [(0, .ref (o 0)), (1, .int p0), (2, .int p1)] rfl (Nat.le_of_ble_eq_true rfl) (fun G hC hE => ?_)
  have hC : CX G D cX4_jar RX4 3 := hC
  have hM0 := hM
  have hW0 := hW
  obtain ⟨⟨r0, r1, r2, r3⟩, hj, ⟨n0, n1, n2, n3, n4, n5⟩, n6, n7, n8, n9⟩ := hM
  obtain ⟨kN, kT, kA, kB, nd, len, lA, lB, pp2, pp12, g12, t1, p9⟩ := hW
  have q0 := pc_le pi N
  have q1 := pc_le pi T
  refine k_aload_n hC 0 dX4_jar_0 rfl ?_
  refine k_iconst hC 1 dX4_jar_1 (nI 0) (by decide) ?_
  refine k_putf hC 2 (ty0 := tyX4) 0 0 [((o 0), .inr (4, [.int (nI 0), .ref (o 1), .ref (o 2), .ref (o 3), .ref (o 4)])), ((o 1), .inl (D.1 5, 160, .inl fj)), ((o 2), .inl (D.1 5, 24, .inl fs)), ((o 3), .inl (D.1 5, 26, .inl fl)), ((o 4), .inl (D.1 5, 10, .inl fn))] dX4_jar_2 rfl rfl inlX4 tyX4_ok nmX4 (by decide) wq_8_7 rfl rfl rfl (Nat.le_of_ble_eq_true rfl) rfl ?_
  refine k_iload_n hC 5 dX4_jar_5 rfl ?_
  refine k_callSr hC 6 [] (m_isKind l D p0) cw_RX4_101 dX4_jar_6 ⟨Nat.le_of_ble_eq_true rfl, Nat.le_of_ble_eq_true rfl, Nat.le_of_ble_eq_true rfl, Nat.le_of_ble_eq_true rfl⟩ rfl (Nat.le_of_ble_eq_true rfl) (by decide) rfl (fun _ => Nat.le_of_ble_eq_true rfl) (fun _ => rfl) _ rfl (fun v u hp => ?_)
  obtain ⟨c, rfl, hc1, hc⟩ := hp
  refine KJ.eqs (st' := .int (nI c) :: []) rfl ?_
  refine n_if_eq hC 9 21 dX4_jar_9 (by decide) (by omega) (fun h9 => ?_) (fun h9 => ?_)
  · skip
    have hK : jarK p0 p1 = 1 := kK_1 (Or.inl (fun z => hc.mpr z h9))
    refine k_aload_n hC 21 dX4_jar_21 rfl ?_
    refine k_iconst hC 22 dX4_jar_22 (nI 1) (by decide) ?_
    refine k_callV hC 23 0 [0, 1, 2, 3, 4] (fun (_ : Unit) => [((o 0), .inr (4, [.int (nI 1), .ref (o 1), .ref (o 2), .ref (o 3), .ref (o 4)])), ((o 1), .inl (D.1 5, 160, .inl fj)), ((o 2), .inl (D.1 5, 24, .inl fs)), ((o 3), .inl (D.1 5, 26, .inl fl)), ((o 4), .inl (D.1 5, 10, .inl fn))]) (m_fail l D o (nI 0) fj fs fl fn 1) cw_RX4_104 dX4_jar_23 ⟨Nat.le_of_ble_eq_true rfl, Nat.le_of_ble_eq_true rfl, Nat.le_of_ble_eq_true rfl, Nat.le_of_ble_eq_true rfl⟩ rfl (Nat.le_of_ble_eq_true rfl) rfl rfl rfl (by decide) rfl (fun _ => Nat.le_of_ble_eq_true rfl) (fun _ => rfl) _ rfl (fun v (_ : Unit) hp => ?_)
    obtain rfl := hp
    refine KJ.eqs (st' := .int 0 :: []) rfl ?_
    exact k_iret hC hE 26 (fj, fs, fl, fn) dX4_jar_26 rfl (⟨_, rfl, Or.inr ⟨by rw [hK]; decide, hM0⟩⟩) (congrArg (fun z => ([((o 0), .inr (4, [.int (nI z), .ref (o 1), .ref (o 2), .ref (o 3), .ref (o 4)])), ((o 1), .inl (D.1 5, 160, .inl fj)), ((o 2), .inl (D.1 5, 24, .inl fs)), ((o 3), .inl (D.1 5, 26, .inl fl)), ((o 4), .inl (D.1 5, 10, .inl fn))] : va_W)) hK) ⟨Nat.zero_le _, Nat.zero_le _⟩
  · skip
    have hk := hc.mp h9
    obtain ⟨hk40, hp0⟩ := hk.k
    rw [← hp0]
    refine k_iload_n hC 12 dX4_jar_12 rfl ?_
    refine k_iconst hC 13 dX4_jar_13 (nI 0) (by decide) ?_
    refine k_iconst hC 14 dX4_jar_14 (nI 4) (by decide) ?_
    refine k_callSr hC 15 [] (m_isIn l D p1 (nI 0) (nI 4)) cw_RX4_26 dX4_jar_15 ⟨Nat.le_of_ble_eq_true rfl, Nat.le_of_ble_eq_true rfl, Nat.le_of_ble_eq_true rfl, Nat.le_of_ble_eq_true rfl⟩ rfl (Nat.le_of_ble_eq_true rfl) (by decide) rfl (fun _ => Nat.le_of_ble_eq_true rfl) (fun _ => rfl) _ rfl (fun v u hp => ?_)
    obtain ⟨d, rfl, hd1, hd⟩ := hp
    refine KJ.eqs (st' := .int (nI d) :: []) rfl ?_
    refine n_if_ne hC 18 27 dX4_jar_18 (by decide) (by omega) (fun h18 => ?_) (fun h18 => ?_)
    · skip
      obtain ⟨q1, q2⟩ := hd.mp h18
      obtain ⟨b1, b2, hp1⟩ := nn_of (m := 0) (by decide) (by decide) q1 q2
      rw [← hp1]
      have q1 : ¬ p1 < 0 := fun z => q1 (by rw [nI_0]; exact z)
      have hK : jarK p0 p1 = 0 := kK_0 (fun z => z.elim (fun y => y hk) (fun y => y.elim q1 (fun x => x (Int32.lt_of_le_of_lt q2 (by decide))))) id
      refine k_aload_n hC 27 dX4_jar_27 rfl ?_
      refine k_iload_n hC 28 dX4_jar_28 rfl ?_
      refine k_callVr hC 29 0 [0, 1, 2, 3, 4] (m_isThere l D o (nI 0) fj fs fl fn N T (kn p0) hk40 (hj (kn p0) hk40).1) cw_RX4_61 dX4_jar_29 ⟨Nat.le_of_ble_eq_true rfl, Nat.le_of_ble_eq_true rfl, Nat.le_of_ble_eq_true rfl, Nat.le_of_ble_eq_true rfl⟩ rfl (Nat.le_of_ble_eq_true rfl) rfl rfl rfl (by decide) rfl (fun _ => Nat.le_of_ble_eq_true rfl) (fun _ => rfl) _ rfl (fun v u hp => ?_)
      obtain rfl := hp
      refine KJ.eqs (st' := .int (nI (yn (kn p0 ∈ N ∨ kn p0 ∈ T))) :: []) rfl ?_
      refine n_if_ne hC 32 37 dX4_jar_32 (by decide) (Nat.lt_of_le_of_lt yn_le (by decide)) (fun h32 => ?_) (fun h32 => ?_)
      · skip
        obtain ⟨n, hn1⟩ : ∃ n, kn p1 = n := ⟨_, rfl⟩
        rw [hn1]
        rw [hn1] at b2
        have hin : kn p0 ∈ N ∨ kn p0 ∈ T := Classical.byContradiction (fun z => h32 (yn_f z))
        have dj := (List.nodup_append.mp nd).2.2
        rcases (show (kn p0 ∈ N ∧ kn p0 ∉ T) ∨ (kn p0 ∉ N ∧ kn p0 ∈ T) from by
          by_cases hm : kn p0 ∈ N
          · exact Or.inl ⟨hm, fun z => dj _ hm _ z rfl⟩
          · exact Or.inr ⟨hm, hin.resolve_left hm⟩) with ⟨hN, hT⟩ | ⟨hN, hT⟩
        · skip
          rcases (show n = 0 ∨ n = 1 ∨ n = 2 ∨ n = 3 ∨ n = 4 by omega) with rfl | rfl | rfl | rfl | rfl
          · skip
            refine k_iload_n hC 37 dX4_jar_37 rfl ?_
            refine n_if_ne hC 38 50 dX4_jar_38 (by decide) (by omega) (fun h38 => ?_) (fun h38 => ?_)
            · skip
              exact absurd h38 (by decide)
            · skip
              refine k_aload_n hC 41 dX4_jar_41 rfl ?_
              refine k_iload_n hC 42 dX4_jar_42 rfl ?_
              refine k_iconst hC 43 dX4_jar_43 (nI 0) (by decide) ?_
              refine k_callVr hC 44 0 [0, 1, 2, 3, 4] (m_ja l D o (nI 0) fj fs fl fn (kn p0) 0 hk40 (by decide)) cw_RX4_30 dX4_jar_44 ⟨Nat.le_of_ble_eq_true rfl, Nat.le_of_ble_eq_true rfl, Nat.le_of_ble_eq_true rfl, Nat.le_of_ble_eq_true rfl⟩ rfl (Nat.le_of_ble_eq_true rfl) rfl rfl rfl (by decide) rfl (fun _ => Nat.le_of_ble_eq_true rfl) (fun _ => rfl) _ rfl (fun v u hp => ?_)
              obtain rfl := hp
              refine KJ.eqs (st' := .int (fj (4 * (kn p0) + 0)) :: []) rfl ?_
              refine KJ.topi (y := (nI 0)) ((hj _ hk40).1.trans (sf_0 hN)) ?_
              refine k_goto hC 47 71 dX4_jar_47 (by decide) ?_
              exact k_iret hC hE 71 (fj, fs, fl, fn) dX4_jar_71 rfl (⟨_, rfl, Or.inl ⟨hK, by rw [hn1, dtl_y _ hin]; simp [hN], hM0⟩⟩) (congrArg (fun z => ([((o 0), .inr (4, [.int (nI z), .ref (o 1), .ref (o 2), .ref (o 3), .ref (o 4)])), ((o 1), .inl (D.1 5, 160, .inl fj)), ((o 2), .inl (D.1 5, 24, .inl fs)), ((o 3), .inl (D.1 5, 26, .inl fl)), ((o 4), .inl (D.1 5, 10, .inl fn))] : va_W)) hK) ⟨Nat.zero_le _, Nat.zero_le _⟩
          · skip
            refine k_iload_n hC 37 dX4_jar_37 rfl ?_
            refine n_if_ne hC 38 50 dX4_jar_38 (by decide) (by omega) (fun h38 => ?_) (fun h38 => ?_)
            · skip
              refine k_iload_n hC 50 dX4_jar_50 rfl ?_
              refine k_iconst hC 51 dX4_jar_51 (nI 1) (by decide) ?_
              refine n_icmp_ne hC 52 63 dX4_jar_52 (by decide) (by omega) (by omega) (fun h52 => ?_) (fun h52 => ?_)
              · skip
                exact absurd h52 (by decide)
              · skip
                refine k_aload_n hC 55 dX4_jar_55 rfl ?_
                refine k_iload_n hC 56 dX4_jar_56 rfl ?_
                refine k_callVr hC 57 0 [0, 1, 2, 3, 4] (m_placeOf l D o (nI 0) fj fs fl fn 0 N (kn p0) (by decide) (by omega) kN r0 hk40 hN ((hj _ hk40).1.trans (sf_0 hN))) cw_RX4_120 dX4_jar_57 ⟨Nat.le_of_ble_eq_true rfl, Nat.le_of_ble_eq_true rfl, Nat.le_of_ble_eq_true rfl, Nat.le_of_ble_eq_true rfl⟩ rfl (Nat.le_of_ble_eq_true rfl) rfl rfl rfl (by decide) rfl (fun _ => Nat.le_of_ble_eq_true rfl) (fun _ => rfl) _ rfl (fun v u hp => ?_)
                obtain rfl := hp
                refine KJ.eqs (st' := .int (nI (N.idxOf (kn p0))) :: []) rfl ?_
                refine k_goto hC 60 71 dX4_jar_60 (by decide) ?_
                exact k_iret hC hE 71 (fj, fs, fl, fn) dX4_jar_71 rfl (⟨_, rfl, Or.inl ⟨hK, by rw [hn1, dtl_y _ hin]; simp [hN], hM0⟩⟩) (congrArg (fun z => ([((o 0), .inr (4, [.int (nI z), .ref (o 1), .ref (o 2), .ref (o 3), .ref (o 4)])), ((o 1), .inl (D.1 5, 160, .inl fj)), ((o 2), .inl (D.1 5, 24, .inl fs)), ((o 3), .inl (D.1 5, 26, .inl fl)), ((o 4), .inl (D.1 5, 10, .inl fn))] : va_W)) hK) ⟨Nat.zero_le _, Nat.zero_le _⟩
            · skip
              exact absurd h38 (by decide)
          · skip
            refine k_iload_n hC 37 dX4_jar_37 rfl ?_
            refine n_if_ne hC 38 50 dX4_jar_38 (by decide) (by omega) (fun h38 => ?_) (fun h38 => ?_)
            · skip
              refine k_iload_n hC 50 dX4_jar_50 rfl ?_
              refine k_iconst hC 51 dX4_jar_51 (nI 1) (by decide) ?_
              refine n_icmp_ne hC 52 63 dX4_jar_52 (by decide) (by omega) (by omega) (fun h52 => ?_) (fun h52 => ?_)
              · skip
                refine k_aload_n hC 63 dX4_jar_63 rfl ?_
                refine k_iload_n hC 64 dX4_jar_64 rfl ?_
                refine k_iload_n hC 65 dX4_jar_65 rfl ?_
                refine k_iconst hC 66 dX4_jar_66 (nI 1) (by decide) ?_
                refine n_isub hC 67 1 dX4_jar_67 (by omega) (by omega) ?_
                refine k_callVr hC 68 0 [0, 1, 2, 3, 4] (m_ja l D o (nI 0) fj fs fl fn (kn p0) 1 hk40 (by decide)) cw_RX4_30 dX4_jar_68 ⟨Nat.le_of_ble_eq_true rfl, Nat.le_of_ble_eq_true rfl, Nat.le_of_ble_eq_true rfl, Nat.le_of_ble_eq_true rfl⟩ rfl (Nat.le_of_ble_eq_true rfl) rfl rfl rfl (by decide) rfl (fun _ => Nat.le_of_ble_eq_true rfl) (fun _ => rfl) _ rfl (fun v u hp => ?_)
                obtain rfl := hp
                refine KJ.eqs (st' := .int (fj (4 * (kn p0) + 1)) :: []) rfl ?_
                refine KJ.topi (y := (nI (to (kn p0)))) (hj _ hk40).2.1 ?_
                exact k_iret hC hE 71 (fj, fs, fl, fn) dX4_jar_71 rfl (⟨_, rfl, Or.inl ⟨hK, by rw [hn1, dtl_y _ hin]; simp [hN], hM0⟩⟩) (congrArg (fun z => ([((o 0), .inr (4, [.int (nI z), .ref (o 1), .ref (o 2), .ref (o 3), .ref (o 4)])), ((o 1), .inl (D.1 5, 160, .inl fj)), ((o 2), .inl (D.1 5, 24, .inl fs)), ((o 3), .inl (D.1 5, 26, .inl fl)), ((o 4), .inl (D.1 5, 10, .inl fn))] : va_W)) hK) ⟨Nat.zero_le _, Nat.zero_le _⟩
              · skip
                exact absurd h52 (by decide)
            · skip
              exact absurd h38 (by decide)
          · skip
            refine k_iload_n hC 37 dX4_jar_37 rfl ?_
            refine n_if_ne hC 38 50 dX4_jar_38 (by decide) (by omega) (fun h38 => ?_) (fun h38 => ?_)
            · skip
              refine k_iload_n hC 50 dX4_jar_50 rfl ?_
              refine k_iconst hC 51 dX4_jar_51 (nI 1) (by decide) ?_
              refine n_icmp_ne hC 52 63 dX4_jar_52 (by decide) (by omega) (by omega) (fun h52 => ?_) (fun h52 => ?_)
              · skip
                refine k_aload_n hC 63 dX4_jar_63 rfl ?_
                refine k_iload_n hC 64 dX4_jar_64 rfl ?_
                refine k_iload_n hC 65 dX4_jar_65 rfl ?_
                refine k_iconst hC 66 dX4_jar_66 (nI 1) (by decide) ?_
                refine n_isub hC 67 2 dX4_jar_67 (by omega) (by omega) ?_
                refine k_callVr hC 68 0 [0, 1, 2, 3, 4] (m_ja l D o (nI 0) fj fs fl fn (kn p0) 2 hk40 (by decide)) cw_RX4_30 dX4_jar_68 ⟨Nat.le_of_ble_eq_true rfl, Nat.le_of_ble_eq_true rfl, Nat.le_of_ble_eq_true rfl, Nat.le_of_ble_eq_true rfl⟩ rfl (Nat.le_of_ble_eq_true rfl) rfl rfl rfl (by decide) rfl (fun _ => Nat.le_of_ble_eq_true rfl) (fun _ => rfl) _ rfl (fun v u hp => ?_)
                obtain rfl := hp
                refine KJ.eqs (st' := .int (fj (4 * (kn p0) + 2)) :: []) rfl ?_
                refine KJ.topi (y := (nI (pi (kn p0)))) (hj _ hk40).2.2.1 ?_
                exact k_iret hC hE 71 (fj, fs, fl, fn) dX4_jar_71 rfl (⟨_, rfl, Or.inl ⟨hK, by rw [hn1, dtl_y _ hin]; simp [hN], hM0⟩⟩) (congrArg (fun z => ([((o 0), .inr (4, [.int (nI z), .ref (o 1), .ref (o 2), .ref (o 3), .ref (o 4)])), ((o 1), .inl (D.1 5, 160, .inl fj)), ((o 2), .inl (D.1 5, 24, .inl fs)), ((o 3), .inl (D.1 5, 26, .inl fl)), ((o 4), .inl (D.1 5, 10, .inl fn))] : va_W)) hK) ⟨Nat.zero_le _, Nat.zero_le _⟩
              · skip
                exact absurd h52 (by decide)
            · skip
              exact absurd h38 (by decide)
          · skip
            refine k_iload_n hC 37 dX4_jar_37 rfl ?_
            refine n_if_ne hC 38 50 dX4_jar_38 (by decide) (by omega) (fun h38 => ?_) (fun h38 => ?_)
            · skip
              refine k_iload_n hC 50 dX4_jar_50 rfl ?_
              refine k_iconst hC 51 dX4_jar_51 (nI 1) (by decide) ?_
              refine n_icmp_ne hC 52 63 dX4_jar_52 (by decide) (by omega) (by omega) (fun h52 => ?_) (fun h52 => ?_)
              · skip
                refine k_aload_n hC 63 dX4_jar_63 rfl ?_
                refine k_iload_n hC 64 dX4_jar_64 rfl ?_
                refine k_iload_n hC 65 dX4_jar_65 rfl ?_
                refine k_iconst hC 66 dX4_jar_66 (nI 1) (by decide) ?_
                refine n_isub hC 67 3 dX4_jar_67 (by omega) (by omega) ?_
                refine k_callVr hC 68 0 [0, 1, 2, 3, 4] (m_ja l D o (nI 0) fj fs fl fn (kn p0) 3 hk40 (by decide)) cw_RX4_30 dX4_jar_68 ⟨Nat.le_of_ble_eq_true rfl, Nat.le_of_ble_eq_true rfl, Nat.le_of_ble_eq_true rfl, Nat.le_of_ble_eq_true rfl⟩ rfl (Nat.le_of_ble_eq_true rfl) rfl rfl rfl (by decide) rfl (fun _ => Nat.le_of_ble_eq_true rfl) (fun _ => rfl) _ rfl (fun v u hp => ?_)
                obtain rfl := hp
                refine KJ.eqs (st' := .int (fj (4 * (kn p0) + 3)) :: []) rfl ?_
                refine KJ.topi (y := (fe (kn p0))) (hj _ hk40).2.2.2 ?_
                exact k_iret hC hE 71 (fj, fs, fl, fn) dX4_jar_71 rfl (⟨_, rfl, Or.inl ⟨hK, by rw [hn1, dtl_y _ hin]; simp [hN], hM0⟩⟩) (congrArg (fun z => ([((o 0), .inr (4, [.int (nI z), .ref (o 1), .ref (o 2), .ref (o 3), .ref (o 4)])), ((o 1), .inl (D.1 5, 160, .inl fj)), ((o 2), .inl (D.1 5, 24, .inl fs)), ((o 3), .inl (D.1 5, 26, .inl fl)), ((o 4), .inl (D.1 5, 10, .inl fn))] : va_W)) hK) ⟨Nat.zero_le _, Nat.zero_le _⟩
              · skip
                exact absurd h52 (by decide)
            · skip
              exact absurd h38 (by decide)
        · skip
          rcases (show n = 0 ∨ n = 1 ∨ n = 2 ∨ n = 3 ∨ n = 4 by omega) with rfl | rfl | rfl | rfl | rfl
          · skip
            refine k_iload_n hC 37 dX4_jar_37 rfl ?_
            refine n_if_ne hC 38 50 dX4_jar_38 (by decide) (by omega) (fun h38 => ?_) (fun h38 => ?_)
            · skip
              exact absurd h38 (by decide)
            · skip
              refine k_aload_n hC 41 dX4_jar_41 rfl ?_
              refine k_iload_n hC 42 dX4_jar_42 rfl ?_
              refine k_iconst hC 43 dX4_jar_43 (nI 0) (by decide) ?_
              refine k_callVr hC 44 0 [0, 1, 2, 3, 4] (m_ja l D o (nI 0) fj fs fl fn (kn p0) 0 hk40 (by decide)) cw_RX4_30 dX4_jar_44 ⟨Nat.le_of_ble_eq_true rfl, Nat.le_of_ble_eq_true rfl, Nat.le_of_ble_eq_true rfl, Nat.le_of_ble_eq_true rfl⟩ rfl (Nat.le_of_ble_eq_true rfl) rfl rfl rfl (by decide) rfl (fun _ => Nat.le_of_ble_eq_true rfl) (fun _ => rfl) _ rfl (fun v u hp => ?_)
              obtain rfl := hp
              refine KJ.eqs (st' := .int (fj (4 * (kn p0) + 0)) :: []) rfl ?_
              refine KJ.topi (y := (nI 1)) ((hj _ hk40).1.trans (sf_1 hN hT)) ?_
              refine k_goto hC 47 71 dX4_jar_47 (by decide) ?_
              exact k_iret hC hE 71 (fj, fs, fl, fn) dX4_jar_71 rfl (⟨_, rfl, Or.inl ⟨hK, by rw [hn1, dtl_y _ hin]; simp [hN], hM0⟩⟩) (congrArg (fun z => ([((o 0), .inr (4, [.int (nI z), .ref (o 1), .ref (o 2), .ref (o 3), .ref (o 4)])), ((o 1), .inl (D.1 5, 160, .inl fj)), ((o 2), .inl (D.1 5, 24, .inl fs)), ((o 3), .inl (D.1 5, 26, .inl fl)), ((o 4), .inl (D.1 5, 10, .inl fn))] : va_W)) hK) ⟨Nat.zero_le _, Nat.zero_le _⟩
          · skip
            refine k_iload_n hC 37 dX4_jar_37 rfl ?_
            refine n_if_ne hC 38 50 dX4_jar_38 (by decide) (by omega) (fun h38 => ?_) (fun h38 => ?_)
            · skip
              refine k_iload_n hC 50 dX4_jar_50 rfl ?_
              refine k_iconst hC 51 dX4_jar_51 (nI 1) (by decide) ?_
              refine n_icmp_ne hC 52 63 dX4_jar_52 (by decide) (by omega) (by omega) (fun h52 => ?_) (fun h52 => ?_)
              · skip
                exact absurd h52 (by decide)
              · skip
                refine k_aload_n hC 55 dX4_jar_55 rfl ?_
                refine k_iload_n hC 56 dX4_jar_56 rfl ?_
                refine k_callVr hC 57 0 [0, 1, 2, 3, 4] (m_placeOf l D o (nI 0) fj fs fl fn 1 T (kn p0) (by decide) (by omega) kT r1 hk40 hT ((hj _ hk40).1.trans (sf_1 hN hT))) cw_RX4_120 dX4_jar_57 ⟨Nat.le_of_ble_eq_true rfl, Nat.le_of_ble_eq_true rfl, Nat.le_of_ble_eq_true rfl, Nat.le_of_ble_eq_true rfl⟩ rfl (Nat.le_of_ble_eq_true rfl) rfl rfl rfl (by decide) rfl (fun _ => Nat.le_of_ble_eq_true rfl) (fun _ => rfl) _ rfl (fun v u hp => ?_)
                obtain rfl := hp
                refine KJ.eqs (st' := .int (nI (T.idxOf (kn p0))) :: []) rfl ?_
                refine k_goto hC 60 71 dX4_jar_60 (by decide) ?_
                exact k_iret hC hE 71 (fj, fs, fl, fn) dX4_jar_71 rfl (⟨_, rfl, Or.inl ⟨hK, by rw [hn1, dtl_y _ hin]; simp [hN], hM0⟩⟩) (congrArg (fun z => ([((o 0), .inr (4, [.int (nI z), .ref (o 1), .ref (o 2), .ref (o 3), .ref (o 4)])), ((o 1), .inl (D.1 5, 160, .inl fj)), ((o 2), .inl (D.1 5, 24, .inl fs)), ((o 3), .inl (D.1 5, 26, .inl fl)), ((o 4), .inl (D.1 5, 10, .inl fn))] : va_W)) hK) ⟨Nat.zero_le _, Nat.zero_le _⟩
            · skip
              exact absurd h38 (by decide)
          · skip
            refine k_iload_n hC 37 dX4_jar_37 rfl ?_
            refine n_if_ne hC 38 50 dX4_jar_38 (by decide) (by omega) (fun h38 => ?_) (fun h38 => ?_)
            · skip
              refine k_iload_n hC 50 dX4_jar_50 rfl ?_
              refine k_iconst hC 51 dX4_jar_51 (nI 1) (by decide) ?_
              refine n_icmp_ne hC 52 63 dX4_jar_52 (by decide) (by omega) (by omega) (fun h52 => ?_) (fun h52 => ?_)
              · skip
                refine k_aload_n hC 63 dX4_jar_63 rfl ?_
                refine k_iload_n hC 64 dX4_jar_64 rfl ?_
                refine k_iload_n hC 65 dX4_jar_65 rfl ?_
                refine k_iconst hC 66 dX4_jar_66 (nI 1) (by decide) ?_
                refine n_isub hC 67 1 dX4_jar_67 (by omega) (by omega) ?_
                refine k_callVr hC 68 0 [0, 1, 2, 3, 4] (m_ja l D o (nI 0) fj fs fl fn (kn p0) 1 hk40 (by decide)) cw_RX4_30 dX4_jar_68 ⟨Nat.le_of_ble_eq_true rfl, Nat.le_of_ble_eq_true rfl, Nat.le_of_ble_eq_true rfl, Nat.le_of_ble_eq_true rfl⟩ rfl (Nat.le_of_ble_eq_true rfl) rfl rfl rfl (by decide) rfl (fun _ => Nat.le_of_ble_eq_true rfl) (fun _ => rfl) _ rfl (fun v u hp => ?_)
                obtain rfl := hp
                refine KJ.eqs (st' := .int (fj (4 * (kn p0) + 1)) :: []) rfl ?_
                refine KJ.topi (y := (nI (to (kn p0)))) (hj _ hk40).2.1 ?_
                exact k_iret hC hE 71 (fj, fs, fl, fn) dX4_jar_71 rfl (⟨_, rfl, Or.inl ⟨hK, by rw [hn1, dtl_y _ hin]; simp [hN], hM0⟩⟩) (congrArg (fun z => ([((o 0), .inr (4, [.int (nI z), .ref (o 1), .ref (o 2), .ref (o 3), .ref (o 4)])), ((o 1), .inl (D.1 5, 160, .inl fj)), ((o 2), .inl (D.1 5, 24, .inl fs)), ((o 3), .inl (D.1 5, 26, .inl fl)), ((o 4), .inl (D.1 5, 10, .inl fn))] : va_W)) hK) ⟨Nat.zero_le _, Nat.zero_le _⟩
              · skip
                exact absurd h52 (by decide)
            · skip
              exact absurd h38 (by decide)
          · skip
            refine k_iload_n hC 37 dX4_jar_37 rfl ?_
            refine n_if_ne hC 38 50 dX4_jar_38 (by decide) (by omega) (fun h38 => ?_) (fun h38 => ?_)
            · skip
              refine k_iload_n hC 50 dX4_jar_50 rfl ?_
              refine k_iconst hC 51 dX4_jar_51 (nI 1) (by decide) ?_
              refine n_icmp_ne hC 52 63 dX4_jar_52 (by decide) (by omega) (by omega) (fun h52 => ?_) (fun h52 => ?_)
              · skip
                refine k_aload_n hC 63 dX4_jar_63 rfl ?_
                refine k_iload_n hC 64 dX4_jar_64 rfl ?_
                refine k_iload_n hC 65 dX4_jar_65 rfl ?_
                refine k_iconst hC 66 dX4_jar_66 (nI 1) (by decide) ?_
                refine n_isub hC 67 2 dX4_jar_67 (by omega) (by omega) ?_
                refine k_callVr hC 68 0 [0, 1, 2, 3, 4] (m_ja l D o (nI 0) fj fs fl fn (kn p0) 2 hk40 (by decide)) cw_RX4_30 dX4_jar_68 ⟨Nat.le_of_ble_eq_true rfl, Nat.le_of_ble_eq_true rfl, Nat.le_of_ble_eq_true rfl, Nat.le_of_ble_eq_true rfl⟩ rfl (Nat.le_of_ble_eq_true rfl) rfl rfl rfl (by decide) rfl (fun _ => Nat.le_of_ble_eq_true rfl) (fun _ => rfl) _ rfl (fun v u hp => ?_)
                obtain rfl := hp
                refine KJ.eqs (st' := .int (fj (4 * (kn p0) + 2)) :: []) rfl ?_
                refine KJ.topi (y := (nI (pi (kn p0)))) (hj _ hk40).2.2.1 ?_
                exact k_iret hC hE 71 (fj, fs, fl, fn) dX4_jar_71 rfl (⟨_, rfl, Or.inl ⟨hK, by rw [hn1, dtl_y _ hin]; simp [hN], hM0⟩⟩) (congrArg (fun z => ([((o 0), .inr (4, [.int (nI z), .ref (o 1), .ref (o 2), .ref (o 3), .ref (o 4)])), ((o 1), .inl (D.1 5, 160, .inl fj)), ((o 2), .inl (D.1 5, 24, .inl fs)), ((o 3), .inl (D.1 5, 26, .inl fl)), ((o 4), .inl (D.1 5, 10, .inl fn))] : va_W)) hK) ⟨Nat.zero_le _, Nat.zero_le _⟩
              · skip
                exact absurd h52 (by decide)
            · skip
              exact absurd h38 (by decide)
          · skip
            refine k_iload_n hC 37 dX4_jar_37 rfl ?_
            refine n_if_ne hC 38 50 dX4_jar_38 (by decide) (by omega) (fun h38 => ?_) (fun h38 => ?_)
            · skip
              refine k_iload_n hC 50 dX4_jar_50 rfl ?_
              refine k_iconst hC 51 dX4_jar_51 (nI 1) (by decide) ?_
              refine n_icmp_ne hC 52 63 dX4_jar_52 (by decide) (by omega) (by omega) (fun h52 => ?_) (fun h52 => ?_)
              · skip
                refine k_aload_n hC 63 dX4_jar_63 rfl ?_
                refine k_iload_n hC 64 dX4_jar_64 rfl ?_
                refine k_iload_n hC 65 dX4_jar_65 rfl ?_
                refine k_iconst hC 66 dX4_jar_66 (nI 1) (by decide) ?_
                refine n_isub hC 67 3 dX4_jar_67 (by omega) (by omega) ?_
                refine k_callVr hC 68 0 [0, 1, 2, 3, 4] (m_ja l D o (nI 0) fj fs fl fn (kn p0) 3 hk40 (by decide)) cw_RX4_30 dX4_jar_68 ⟨Nat.le_of_ble_eq_true rfl, Nat.le_of_ble_eq_true rfl, Nat.le_of_ble_eq_true rfl, Nat.le_of_ble_eq_true rfl⟩ rfl (Nat.le_of_ble_eq_true rfl) rfl rfl rfl (by decide) rfl (fun _ => Nat.le_of_ble_eq_true rfl) (fun _ => rfl) _ rfl (fun v u hp => ?_)
                obtain rfl := hp
                refine KJ.eqs (st' := .int (fj (4 * (kn p0) + 3)) :: []) rfl ?_
                refine KJ.topi (y := (fe (kn p0))) (hj _ hk40).2.2.2 ?_
                exact k_iret hC hE 71 (fj, fs, fl, fn) dX4_jar_71 rfl (⟨_, rfl, Or.inl ⟨hK, by rw [hn1, dtl_y _ hin]; simp [hN], hM0⟩⟩) (congrArg (fun z => ([((o 0), .inr (4, [.int (nI z), .ref (o 1), .ref (o 2), .ref (o 3), .ref (o 4)])), ((o 1), .inl (D.1 5, 160, .inl fj)), ((o 2), .inl (D.1 5, 24, .inl fs)), ((o 3), .inl (D.1 5, 26, .inl fl)), ((o 4), .inl (D.1 5, 10, .inl fn))] : va_W)) hK) ⟨Nat.zero_le _, Nat.zero_le _⟩
              · skip
                exact absurd h52 (by decide)
            · skip
              exact absurd h38 (by decide)
      · skip
        refine k_iconst hC 35 dX4_jar_35 (-1) (by decide) ?_
        exact k_iret hC hE 36 (fj, fs, fl, fn) dX4_jar_36 rfl (⟨_, rfl, Or.inl ⟨hK, (dtl_no _ (yn_0.mp h32)).symm, hM0⟩⟩) (congrArg (fun z => ([((o 0), .inr (4, [.int (nI z), .ref (o 1), .ref (o 2), .ref (o 3), .ref (o 4)])), ((o 1), .inl (D.1 5, 160, .inl fj)), ((o 2), .inl (D.1 5, 24, .inl fs)), ((o 3), .inl (D.1 5, 26, .inl fl)), ((o 4), .inl (D.1 5, 10, .inl fn))] : va_W)) hK) ⟨Nat.zero_le _, Nat.zero_le _⟩
    · skip
      have hK : jarK p0 p1 = 1 := kK_1 (Or.inr ((in_no hd h18).imp (fun z => by rw [← nI_0]; exact z) (fun z y => z (lt_le (by decide) y))))
      refine k_aload_n hC 21 dX4_jar_21 rfl ?_
      refine k_iconst hC 22 dX4_jar_22 (nI 1) (by decide) ?_
      refine k_callV hC 23 0 [0, 1, 2, 3, 4] (fun (_ : Unit) => [((o 0), .inr (4, [.int (nI 1), .ref (o 1), .ref (o 2), .ref (o 3), .ref (o 4)])), ((o 1), .inl (D.1 5, 160, .inl fj)), ((o 2), .inl (D.1 5, 24, .inl fs)), ((o 3), .inl (D.1 5, 26, .inl fl)), ((o 4), .inl (D.1 5, 10, .inl fn))]) (m_fail l D o (nI 0) fj fs fl fn 1) cw_RX4_104 dX4_jar_23 ⟨Nat.le_of_ble_eq_true rfl, Nat.le_of_ble_eq_true rfl, Nat.le_of_ble_eq_true rfl, Nat.le_of_ble_eq_true rfl⟩ rfl (Nat.le_of_ble_eq_true rfl) rfl rfl rfl (by decide) rfl (fun _ => Nat.le_of_ble_eq_true rfl) (fun _ => rfl) _ rfl (fun v (_ : Unit) hp => ?_)
      obtain rfl := hp
      refine KJ.eqs (st' := .int 0 :: []) rfl ?_
      exact k_iret hC hE 26 (fj, fs, fl, fn) dX4_jar_26 rfl (⟨_, rfl, Or.inr ⟨by rw [hK]; decide, hM0⟩⟩) (congrArg (fun z => ([((o 0), .inr (4, [.int (nI z), .ref (o 1), .ref (o 2), .ref (o 3), .ref (o 4)])), ((o 1), .inl (D.1 5, 160, .inl fj)), ((o 2), .inl (D.1 5, 24, .inl fs)), ((o 3), .inl (D.1 5, 26, .inl fl)), ((o 4), .inl (D.1 5, 10, .inl fn))] : va_W)) hK) ⟨Nat.zero_le _, Nat.zero_le _⟩
set_option maxHeartbeats 4000000 in
set_option maxRecDepth 100000 in
/-- m_shelf -/
theorem m_shelf (l : Launch) (D : va_G) (o : Nat → Nat) (th : Int32) (fj fs fl fn : Nat → Int32) (N T A B : List Nat) (to pi : Nat → Nat) (fe : Nat → Int32) (pl go : Nat) (hi mi re lo : Int32) (p0 p1 : Int32) (hM : MR (N, T, A, B, to, pi, fe, pl, go, hi, mi, re, lo) (fj, fs, fl, fn)) (hW : WF (N, T, A, B, to, pi, fe, pl, go, hi, mi, re, lo)) (hjp : N.length + T.length ≤ pl) : MU l yX4_shelf cX4_shelf 3 (some .int) 1 22 D [.ref (o 0), .int p0, .int p1] [((o 0), .inr (4, [.int th, .ref (o 1), .ref (o 2), .ref (o 3), .ref (o 4)])), ((o 1), .inl (D.1 5, 160, .inl fj)), ((o 2), .inl (D.1 5, 24, .inl fs)), ((o 3), .inl (D.1 5, 26, .inl fl)), ((o 4), .inl (D.1 5, 10, .inl fn))] (fun v (u : MG) => ∃ x : Int32, v = some (.int x) ∧ ((rowK N T p0 p1 = 0 ∧ x = rowV N T p0 p1 ∧ MR ((N, T, A, B, to, pi, fe, pl, go, hi, mi, re, lo)) u) ∨ (rowK N T p0 p1 ≠ 0 ∧ MR (N, T, A, B, to, pi, fe, pl, go, hi, mi, re, lo) u))) (fun u => [((o 0), .inr (4, [.int (nI (rowK N T p0 p1)), .ref (o 1), .ref (o 2), .ref (o 3), .ref (o 4)])), ((o 1), .inl (D.1 5, 160, .inl u.1)), ((o 2), .inl (D.1 5, 24, .inl u.2.1)), ((o 3), .inl (D.1 5, 26, .inl u.2.2.1)), ((o 4), .inl (D.1 5, 10, .inl u.2.2.2))]) 0 0 := by
  refine MU.enter (by decide) [(0, .ref (o 0)), (1, .int p0), (2, .int p1)] rfl (Nat.le_of_ble_eq_true rfl) (fun G hC hE => ?_)
  have hC : CX G D cX4_shelf RX4 3 := hC
  have hM0 := hM
  have hW0 := hW
  obtain ⟨⟨r0, r1, r2, r3⟩, hj, ⟨n0, n1, n2, n3, n4, n5⟩, n6, n7, n8, n9⟩ := hM
  obtain ⟨kN, kT, kA, kB, nd, len, lA, lB, pp2, pp12, g12, t1, p9⟩ := hW
  have q0 := pc_le pi N
  have q1 := pc_le pi T
  refine k_aload_n hC 0 dX4_shelf_0 rfl ?_
  refine k_iconst hC 1 dX4_shelf_1 (nI 0) (by decide) ?_
  refine k_putf hC 2 (ty0 := tyX4) 0 0 [((o 0), .inr (4, [.int (nI 0), .ref (o 1), .ref (o 2), .ref (o 3), .ref (o 4)])), ((o 1), .inl (D.1 5, 160, .inl fj)), ((o 2), .inl (D.1 5, 24, .inl fs)), ((o 3), .inl (D.1 5, 26, .inl fl)), ((o 4), .inl (D.1 5, 10, .inl fn))] dX4_shelf_2 rfl rfl inlX4 tyX4_ok nmX4 (by decide) wq_8_7 rfl rfl rfl (Nat.le_of_ble_eq_true rfl) rfl ?_
  refine k_iload_n hC 5 dX4_shelf_5 rfl ?_
  refine k_iconst hC 6 dX4_shelf_6 (nI 0) (by decide) ?_
  refine k_iconst hC 7 dX4_shelf_7 (nI 1) (by decide) ?_
  refine k_callSr hC 8 [] (m_isIn l D p0 (nI 0) (nI 1)) cw_RX4_26 dX4_shelf_8 ⟨Nat.le_of_ble_eq_true rfl, Nat.le_of_ble_eq_true rfl, Nat.le_of_ble_eq_true rfl, Nat.le_of_ble_eq_true rfl⟩ rfl (Nat.le_of_ble_eq_true rfl) (by decide) rfl (fun _ => Nat.le_of_ble_eq_true rfl) (fun _ => rfl) _ rfl (fun v u hp => ?_)
  obtain ⟨c, rfl, hc1, hc⟩ := hp
  refine KJ.eqs (st' := .int (nI c) :: []) rfl ?_
  refine n_if_eq hC 11 38 dX4_shelf_11 (by decide) (by omega) (fun h11 => ?_) (fun h11 => ?_)
  · skip
    have hK : rowK N T p0 p1 = 1 := kK_1 (Or.inl (fun z => hc.mpr (z.elim (fun e => by rw [e]; decide) (fun e => by rw [e]; decide)) h11))
    refine k_aload_n hC 38 dX4_shelf_38 rfl ?_
    refine k_iconst hC 39 dX4_shelf_39 (nI 1) (by decide) ?_
    refine k_callV hC 40 0 [0, 1, 2, 3, 4] (fun (_ : Unit) => [((o 0), .inr (4, [.int (nI 1), .ref (o 1), .ref (o 2), .ref (o 3), .ref (o 4)])), ((o 1), .inl (D.1 5, 160, .inl fj)), ((o 2), .inl (D.1 5, 24, .inl fs)), ((o 3), .inl (D.1 5, 26, .inl fl)), ((o 4), .inl (D.1 5, 10, .inl fn))]) (m_fail l D o (nI 0) fj fs fl fn 1) cw_RX4_104 dX4_shelf_40 ⟨Nat.le_of_ble_eq_true rfl, Nat.le_of_ble_eq_true rfl, Nat.le_of_ble_eq_true rfl, Nat.le_of_ble_eq_true rfl⟩ rfl (Nat.le_of_ble_eq_true rfl) rfl rfl rfl (by decide) rfl (fun _ => Nat.le_of_ble_eq_true rfl) (fun _ => rfl) _ rfl (fun v (_ : Unit) hp => ?_)
    obtain rfl := hp
    refine KJ.eqs (st' := .int 0 :: []) rfl ?_
    exact k_iret hC hE 43 (fj, fs, fl, fn) dX4_shelf_43 rfl (⟨_, rfl, Or.inr ⟨by rw [hK]; decide, hM0⟩⟩) (congrArg (fun z => ([((o 0), .inr (4, [.int (nI z), .ref (o 1), .ref (o 2), .ref (o 3), .ref (o 4)])), ((o 1), .inl (D.1 5, 160, .inl fj)), ((o 2), .inl (D.1 5, 24, .inl fs)), ((o 3), .inl (D.1 5, 26, .inl fl)), ((o 4), .inl (D.1 5, 10, .inl fn))] : va_W)) hK) ⟨Nat.zero_le _, Nat.zero_le _⟩
  · skip
    obtain ⟨q1, q2⟩ := hc.mp h11
    obtain ⟨b1, b2, hp0⟩ := nn_of (m := 0) (by decide) (by decide) q1 q2
    rcases (show kn p0 = 0 ∨ kn p0 = 1 by omega) with e0 | e0
    · skip
      have h0 : p0 = nI 0 := by rw [← hp0, e0]
      rw [h0]
      refine k_iload_n hC 14 dX4_shelf_14 rfl ?_
      refine k_iconst hC 15 dX4_shelf_15 (nI 0) (by decide) ?_
      refine k_aload_n hC 16 dX4_shelf_16 rfl ?_
      refine k_iload_n hC 17 dX4_shelf_17 rfl ?_
      refine k_callVr hC 18 0 [0, 1, 2, 3, 4] (m_many l D o (nI 0) fj fs fl fn 0 (by decide)) cw_RX4_34 dX4_shelf_18 ⟨Nat.le_of_ble_eq_true rfl, Nat.le_of_ble_eq_true rfl, Nat.le_of_ble_eq_true rfl, Nat.le_of_ble_eq_true rfl⟩ rfl (Nat.le_of_ble_eq_true rfl) rfl rfl rfl (by decide) rfl (fun _ => Nat.le_of_ble_eq_true rfl) (fun _ => rfl) _ rfl (fun v u hp => ?_)
      obtain rfl := hp
      refine KJ.eqs (st' := .int (fn (6 + 0)) :: .int (nI 0) :: .int p1 :: []) rfl ?_
      refine KJ.topi (y := (nI N.length)) n6 ?_
      refine k_iconst hC 21 dX4_shelf_21 (nI 1) (by decide) ?_
      refine k_isub hC 22 dX4_shelf_22 (KJ.topi (y := (nI N.length - nI 1)) rfl ?_)
      refine k_callSr hC 23 [] (m_isIn l D p1 (nI 0) (nI N.length - nI 1)) cw_RX4_26 dX4_shelf_23 ⟨Nat.le_of_ble_eq_true rfl, Nat.le_of_ble_eq_true rfl, Nat.le_of_ble_eq_true rfl, Nat.le_of_ble_eq_true rfl⟩ rfl (Nat.le_of_ble_eq_true rfl) (by decide) rfl (fun _ => Nat.le_of_ble_eq_true rfl) (fun _ => rfl) _ rfl (fun v u hp => ?_)
      obtain ⟨d, rfl, hd1, hd⟩ := hp
      refine KJ.eqs (st' := .int (nI d) :: []) rfl ?_
      refine n_if_eq hC 26 38 dX4_shelf_26 (by decide) (by omega) (fun h26 => ?_) (fun h26 => ?_)
      · skip
        have hK : rowK N T p0 p1 = 1 := kK_1 (Or.inr (by rw [if_pos (h0.trans nI_0)]; exact fun i hi2 e => (hd.mpr (by rw [e]; exact in_row (by omega) hi2)) h26))
        refine k_aload_n hC 38 dX4_shelf_38 rfl ?_
        refine k_iconst hC 39 dX4_shelf_39 (nI 1) (by decide) ?_
        refine k_callV hC 40 0 [0, 1, 2, 3, 4] (fun (_ : Unit) => [((o 0), .inr (4, [.int (nI 1), .ref (o 1), .ref (o 2), .ref (o 3), .ref (o 4)])), ((o 1), .inl (D.1 5, 160, .inl fj)), ((o 2), .inl (D.1 5, 24, .inl fs)), ((o 3), .inl (D.1 5, 26, .inl fl)), ((o 4), .inl (D.1 5, 10, .inl fn))]) (m_fail l D o (nI 0) fj fs fl fn 1) cw_RX4_104 dX4_shelf_40 ⟨Nat.le_of_ble_eq_true rfl, Nat.le_of_ble_eq_true rfl, Nat.le_of_ble_eq_true rfl, Nat.le_of_ble_eq_true rfl⟩ rfl (Nat.le_of_ble_eq_true rfl) rfl rfl rfl (by decide) rfl (fun _ => Nat.le_of_ble_eq_true rfl) (fun _ => rfl) _ rfl (fun v (_ : Unit) hp => ?_)
        obtain rfl := hp
        refine KJ.eqs (st' := .int 0 :: []) rfl ?_
        exact k_iret hC hE 43 (fj, fs, fl, fn) dX4_shelf_43 rfl (⟨_, rfl, Or.inr ⟨by rw [hK]; decide, hM0⟩⟩) (congrArg (fun z => ([((o 0), .inr (4, [.int (nI z), .ref (o 1), .ref (o 2), .ref (o 3), .ref (o 4)])), ((o 1), .inl (D.1 5, 160, .inl fj)), ((o 2), .inl (D.1 5, 24, .inl fs)), ((o 3), .inl (D.1 5, 26, .inl fl)), ((o 4), .inl (D.1 5, 10, .inl fn))] : va_W)) hK) ⟨Nat.zero_le _, Nat.zero_le _⟩
      · skip
        obtain ⟨u1, u2⟩ := hd.mp h26
        obtain ⟨i, hi2, hpi⟩ := row_in (by omega) u1 u2
        rw [hpi]
        have hK : rowK N T p0 p1 = 0 := kK_0 (fun z => z.elim (fun y => y (show Sk p0 from Or.inl (h0.trans nI_0))) (fun y => by rw [if_pos (h0.trans nI_0)] at y; exact y i hi2 hpi)) id
        refine k_aload_n hC 29 dX4_shelf_29 rfl ?_
        refine k_iload_n hC 30 dX4_shelf_30 rfl ?_
        refine k_iload_n hC 31 dX4_shelf_31 rfl ?_
        refine k_callVr hC 32 0 [0, 1, 2, 3, 4] (m_kindAt l D o (nI 0) fj fs fl fn 0 i (by omega)) cw_RX4_58 dX4_shelf_32 ⟨Nat.le_of_ble_eq_true rfl, Nat.le_of_ble_eq_true rfl, Nat.le_of_ble_eq_true rfl, Nat.le_of_ble_eq_true rfl⟩ rfl (Nat.le_of_ble_eq_true rfl) rfl rfl rfl (by decide) rfl (fun _ => Nat.le_of_ble_eq_true rfl) (fun _ => rfl) _ rfl (fun v u hp => ?_)
        obtain rfl := hp
        refine KJ.eqs (st' := .int (fs (12 * 0 + i)) :: []) rfl ?_
        refine KJ.topi (y := (nI (N.getD i 0))) (r0 i hi2) ?_
        refine k_goto hC 35 43 dX4_shelf_35 (by decide) ?_
        exact k_iret hC hE 43 (fj, fs, fl, fn) dX4_shelf_43 rfl (⟨_, rfl, Or.inl ⟨hK, by rw [rowV, if_pos (h0.trans nI_0), hpi, kn_nI (by omega)], hM0⟩⟩) (congrArg (fun z => ([((o 0), .inr (4, [.int (nI z), .ref (o 1), .ref (o 2), .ref (o 3), .ref (o 4)])), ((o 1), .inl (D.1 5, 160, .inl fj)), ((o 2), .inl (D.1 5, 24, .inl fs)), ((o 3), .inl (D.1 5, 26, .inl fl)), ((o 4), .inl (D.1 5, 10, .inl fn))] : va_W)) hK) ⟨Nat.zero_le _, Nat.zero_le _⟩
    · skip
      have h0 : p0 = nI 1 := by rw [← hp0, e0]
      rw [h0]
      refine k_iload_n hC 14 dX4_shelf_14 rfl ?_
      refine k_iconst hC 15 dX4_shelf_15 (nI 0) (by decide) ?_
      refine k_aload_n hC 16 dX4_shelf_16 rfl ?_
      refine k_iload_n hC 17 dX4_shelf_17 rfl ?_
      refine k_callVr hC 18 0 [0, 1, 2, 3, 4] (m_many l D o (nI 0) fj fs fl fn 1 (by decide)) cw_RX4_34 dX4_shelf_18 ⟨Nat.le_of_ble_eq_true rfl, Nat.le_of_ble_eq_true rfl, Nat.le_of_ble_eq_true rfl, Nat.le_of_ble_eq_true rfl⟩ rfl (Nat.le_of_ble_eq_true rfl) rfl rfl rfl (by decide) rfl (fun _ => Nat.le_of_ble_eq_true rfl) (fun _ => rfl) _ rfl (fun v u hp => ?_)
      obtain rfl := hp
      refine KJ.eqs (st' := .int (fn (6 + 1)) :: .int (nI 0) :: .int p1 :: []) rfl ?_
      refine KJ.topi (y := (nI T.length)) n7 ?_
      refine k_iconst hC 21 dX4_shelf_21 (nI 1) (by decide) ?_
      refine k_isub hC 22 dX4_shelf_22 (KJ.topi (y := (nI T.length - nI 1)) rfl ?_)
      refine k_callSr hC 23 [] (m_isIn l D p1 (nI 0) (nI T.length - nI 1)) cw_RX4_26 dX4_shelf_23 ⟨Nat.le_of_ble_eq_true rfl, Nat.le_of_ble_eq_true rfl, Nat.le_of_ble_eq_true rfl, Nat.le_of_ble_eq_true rfl⟩ rfl (Nat.le_of_ble_eq_true rfl) (by decide) rfl (fun _ => Nat.le_of_ble_eq_true rfl) (fun _ => rfl) _ rfl (fun v u hp => ?_)
      obtain ⟨d, rfl, hd1, hd⟩ := hp
      refine KJ.eqs (st' := .int (nI d) :: []) rfl ?_
      refine n_if_eq hC 26 38 dX4_shelf_26 (by decide) (by omega) (fun h26 => ?_) (fun h26 => ?_)
      · skip
        have hK : rowK N T p0 p1 = 1 := kK_1 (Or.inr (by rw [if_neg (fun z => absurd (h0.symm.trans z) (by decide))]; exact fun i hi2 e => (hd.mpr (by rw [e]; exact in_row (by omega) hi2)) h26))
        refine k_aload_n hC 38 dX4_shelf_38 rfl ?_
        refine k_iconst hC 39 dX4_shelf_39 (nI 1) (by decide) ?_
        refine k_callV hC 40 0 [0, 1, 2, 3, 4] (fun (_ : Unit) => [((o 0), .inr (4, [.int (nI 1), .ref (o 1), .ref (o 2), .ref (o 3), .ref (o 4)])), ((o 1), .inl (D.1 5, 160, .inl fj)), ((o 2), .inl (D.1 5, 24, .inl fs)), ((o 3), .inl (D.1 5, 26, .inl fl)), ((o 4), .inl (D.1 5, 10, .inl fn))]) (m_fail l D o (nI 0) fj fs fl fn 1) cw_RX4_104 dX4_shelf_40 ⟨Nat.le_of_ble_eq_true rfl, Nat.le_of_ble_eq_true rfl, Nat.le_of_ble_eq_true rfl, Nat.le_of_ble_eq_true rfl⟩ rfl (Nat.le_of_ble_eq_true rfl) rfl rfl rfl (by decide) rfl (fun _ => Nat.le_of_ble_eq_true rfl) (fun _ => rfl) _ rfl (fun v (_ : Unit) hp => ?_)
        obtain rfl := hp
        refine KJ.eqs (st' := .int 0 :: []) rfl ?_
        exact k_iret hC hE 43 (fj, fs, fl, fn) dX4_shelf_43 rfl (⟨_, rfl, Or.inr ⟨by rw [hK]; decide, hM0⟩⟩) (congrArg (fun z => ([((o 0), .inr (4, [.int (nI z), .ref (o 1), .ref (o 2), .ref (o 3), .ref (o 4)])), ((o 1), .inl (D.1 5, 160, .inl fj)), ((o 2), .inl (D.1 5, 24, .inl fs)), ((o 3), .inl (D.1 5, 26, .inl fl)), ((o 4), .inl (D.1 5, 10, .inl fn))] : va_W)) hK) ⟨Nat.zero_le _, Nat.zero_le _⟩
      · skip
        obtain ⟨u1, u2⟩ := hd.mp h26
        obtain ⟨i, hi2, hpi⟩ := row_in (by omega) u1 u2
        rw [hpi]
        have hK : rowK N T p0 p1 = 0 := kK_0 (fun z => z.elim (fun y => y (show Sk p0 from Or.inr h0)) (fun y => by rw [if_neg (fun z => absurd (h0.symm.trans z) (by decide))] at y; exact y i hi2 hpi)) id
        refine k_aload_n hC 29 dX4_shelf_29 rfl ?_
        refine k_iload_n hC 30 dX4_shelf_30 rfl ?_
        refine k_iload_n hC 31 dX4_shelf_31 rfl ?_
        refine k_callVr hC 32 0 [0, 1, 2, 3, 4] (m_kindAt l D o (nI 0) fj fs fl fn 1 i (by omega)) cw_RX4_58 dX4_shelf_32 ⟨Nat.le_of_ble_eq_true rfl, Nat.le_of_ble_eq_true rfl, Nat.le_of_ble_eq_true rfl, Nat.le_of_ble_eq_true rfl⟩ rfl (Nat.le_of_ble_eq_true rfl) rfl rfl rfl (by decide) rfl (fun _ => Nat.le_of_ble_eq_true rfl) (fun _ => rfl) _ rfl (fun v u hp => ?_)
        obtain rfl := hp
        refine KJ.eqs (st' := .int (fs (12 * 1 + i)) :: []) rfl ?_
        refine KJ.topi (y := (nI (T.getD i 0))) (r1 i hi2) ?_
        refine k_goto hC 35 43 dX4_shelf_35 (by decide) ?_
        exact k_iret hC hE 43 (fj, fs, fl, fn) dX4_shelf_43 rfl (⟨_, rfl, Or.inl ⟨hK, by rw [rowV, if_neg (fun z => absurd (h0.symm.trans z) (by decide)), hpi, kn_nI (by omega)], hM0⟩⟩) (congrArg (fun z => ([((o 0), .inr (4, [.int (nI z), .ref (o 1), .ref (o 2), .ref (o 3), .ref (o 4)])), ((o 1), .inl (D.1 5, 160, .inl fj)), ((o 2), .inl (D.1 5, 24, .inl fs)), ((o 3), .inl (D.1 5, 26, .inl fl)), ((o 4), .inl (D.1 5, 10, .inl fn))] : va_W)) hK) ⟨Nat.zero_le _, Nat.zero_le _⟩
set_option maxHeartbeats 4000000 in
set_option maxRecDepth 100000 in
/-- m_ghost -/
theorem m_ghost (l : Launch) (D : va_G) (o : Nat → Nat) (th : Int32) (fj fs fl fn : Nat → Int32) (N T A B : List Nat) (to pi : Nat → Nat) (fe : Nat → Int32) (pl go : Nat) (hi mi re lo : Int32) (p0 p1 : Int32) (hM : MR (N, T, A, B, to, pi, fe, pl, go, hi, mi, re, lo) (fj, fs, fl, fn)) (hW : WF (N, T, A, B, to, pi, fe, pl, go, hi, mi, re, lo)) (hjp : N.length + T.length ≤ pl) : MU l yX4_ghost cX4_ghost 3 (some .int) 1 22 D [.ref (o 0), .int p0, .int p1] [((o 0), .inr (4, [.int th, .ref (o 1), .ref (o 2), .ref (o 3), .ref (o 4)])), ((o 1), .inl (D.1 5, 160, .inl fj)), ((o 2), .inl (D.1 5, 24, .inl fs)), ((o 3), .inl (D.1 5, 26, .inl fl)), ((o 4), .inl (D.1 5, 10, .inl fn))] (fun v (u : MG) => ∃ x : Int32, v = some (.int x) ∧ ((rowK A B p0 p1 = 0 ∧ x = rowV A B p0 p1 ∧ MR ((N, T, A, B, to, pi, fe, pl, go, hi, mi, re, lo)) u) ∨ (rowK A B p0 p1 ≠ 0 ∧ MR (N, T, A, B, to, pi, fe, pl, go, hi, mi, re, lo) u))) (fun u => [((o 0), .inr (4, [.int (nI (rowK A B p0 p1)), .ref (o 1), .ref (o 2), .ref (o 3), .ref (o 4)])), ((o 1), .inl (D.1 5, 160, .inl u.1)), ((o 2), .inl (D.1 5, 24, .inl u.2.1)), ((o 3), .inl (D.1 5, 26, .inl u.2.2.1)), ((o 4), .inl (D.1 5, 10, .inl u.2.2.2))]) 0 0 := by
  refine MU.enter (by decide) [(0, .ref (o 0)), (1, .int p0), (2, .int p1)] rfl (Nat.le_of_ble_eq_true rfl) (fun G hC hE => ?_)
  have hC : CX G D cX4_ghost RX4 3 := hC
  have hM0 := hM
  have hW0 := hW
  obtain ⟨⟨r0, r1, r2, r3⟩, hj, ⟨n0, n1, n2, n3, n4, n5⟩, n6, n7, n8, n9⟩ := hM
  obtain ⟨kN, kT, kA, kB, nd, len, lA, lB, pp2, pp12, g12, t1, p9⟩ := hW
  have q0 := pc_le pi N
  have q1 := pc_le pi T
  refine k_aload_n hC 0 dX4_ghost_0 rfl ?_
  refine k_iconst hC 1 dX4_ghost_1 (nI 0) (by decide) ?_
  refine k_putf hC 2 (ty0 := tyX4) 0 0 [((o 0), .inr (4, [.int (nI 0), .ref (o 1), .ref (o 2), .ref (o 3), .ref (o 4)])), ((o 1), .inl (D.1 5, 160, .inl fj)), ((o 2), .inl (D.1 5, 24, .inl fs)), ((o 3), .inl (D.1 5, 26, .inl fl)), ((o 4), .inl (D.1 5, 10, .inl fn))] dX4_ghost_2 rfl rfl inlX4 tyX4_ok nmX4 (by decide) wq_8_7 rfl rfl rfl (Nat.le_of_ble_eq_true rfl) rfl ?_
  refine k_iload_n hC 5 dX4_ghost_5 rfl ?_
  refine k_iconst hC 6 dX4_ghost_6 (nI 0) (by decide) ?_
  refine k_iconst hC 7 dX4_ghost_7 (nI 1) (by decide) ?_
  refine k_callSr hC 8 [] (m_isIn l D p0 (nI 0) (nI 1)) cw_RX4_26 dX4_ghost_8 ⟨Nat.le_of_ble_eq_true rfl, Nat.le_of_ble_eq_true rfl, Nat.le_of_ble_eq_true rfl, Nat.le_of_ble_eq_true rfl⟩ rfl (Nat.le_of_ble_eq_true rfl) (by decide) rfl (fun _ => Nat.le_of_ble_eq_true rfl) (fun _ => rfl) _ rfl (fun v u hp => ?_)
  obtain ⟨c, rfl, hc1, hc⟩ := hp
  refine KJ.eqs (st' := .int (nI c) :: []) rfl ?_
  refine n_if_eq hC 11 38 dX4_ghost_11 (by decide) (by omega) (fun h11 => ?_) (fun h11 => ?_)
  · skip
    have hK : rowK A B p0 p1 = 1 := kK_1 (Or.inl (fun z => hc.mpr (z.elim (fun e => by rw [e]; decide) (fun e => by rw [e]; decide)) h11))
    refine k_aload_n hC 38 dX4_ghost_38 rfl ?_
    refine k_iconst hC 39 dX4_ghost_39 (nI 1) (by decide) ?_
    refine k_callV hC 40 0 [0, 1, 2, 3, 4] (fun (_ : Unit) => [((o 0), .inr (4, [.int (nI 1), .ref (o 1), .ref (o 2), .ref (o 3), .ref (o 4)])), ((o 1), .inl (D.1 5, 160, .inl fj)), ((o 2), .inl (D.1 5, 24, .inl fs)), ((o 3), .inl (D.1 5, 26, .inl fl)), ((o 4), .inl (D.1 5, 10, .inl fn))]) (m_fail l D o (nI 0) fj fs fl fn 1) cw_RX4_104 dX4_ghost_40 ⟨Nat.le_of_ble_eq_true rfl, Nat.le_of_ble_eq_true rfl, Nat.le_of_ble_eq_true rfl, Nat.le_of_ble_eq_true rfl⟩ rfl (Nat.le_of_ble_eq_true rfl) rfl rfl rfl (by decide) rfl (fun _ => Nat.le_of_ble_eq_true rfl) (fun _ => rfl) _ rfl (fun v (_ : Unit) hp => ?_)
    obtain rfl := hp
    refine KJ.eqs (st' := .int 0 :: []) rfl ?_
    exact k_iret hC hE 43 (fj, fs, fl, fn) dX4_ghost_43 rfl (⟨_, rfl, Or.inr ⟨by rw [hK]; decide, hM0⟩⟩) (congrArg (fun z => ([((o 0), .inr (4, [.int (nI z), .ref (o 1), .ref (o 2), .ref (o 3), .ref (o 4)])), ((o 1), .inl (D.1 5, 160, .inl fj)), ((o 2), .inl (D.1 5, 24, .inl fs)), ((o 3), .inl (D.1 5, 26, .inl fl)), ((o 4), .inl (D.1 5, 10, .inl fn))] : va_W)) hK) ⟨Nat.zero_le _, Nat.zero_le _⟩
  · skip
    obtain ⟨q1, q2⟩ := hc.mp h11
    obtain ⟨b1, b2, hp0⟩ := nn_of (m := 0) (by decide) (by decide) q1 q2
    rcases (show kn p0 = 0 ∨ kn p0 = 1 by omega) with e0 | e0
    · skip
      have h0 : p0 = nI 0 := by rw [← hp0, e0]
      rw [h0]
      refine k_iload_n hC 14 dX4_ghost_14 rfl ?_
      refine k_iconst hC 15 dX4_ghost_15 (nI 0) (by decide) ?_
      refine k_aload_n hC 16 dX4_ghost_16 rfl ?_
      refine k_iload_n hC 17 dX4_ghost_17 rfl ?_
      refine k_callVr hC 18 0 [0, 1, 2, 3, 4] (m_listed l D o (nI 0) fj fs fl fn 0 (by decide)) cw_RX4_44 dX4_ghost_18 ⟨Nat.le_of_ble_eq_true rfl, Nat.le_of_ble_eq_true rfl, Nat.le_of_ble_eq_true rfl, Nat.le_of_ble_eq_true rfl⟩ rfl (Nat.le_of_ble_eq_true rfl) rfl rfl rfl (by decide) rfl (fun _ => Nat.le_of_ble_eq_true rfl) (fun _ => rfl) _ rfl (fun v u hp => ?_)
      obtain rfl := hp
      refine KJ.eqs (st' := .int (fn (8 + 0)) :: .int (nI 0) :: .int p1 :: []) rfl ?_
      refine KJ.topi (y := (nI A.length)) n8 ?_
      refine k_iconst hC 21 dX4_ghost_21 (nI 1) (by decide) ?_
      refine k_isub hC 22 dX4_ghost_22 (KJ.topi (y := (nI A.length - nI 1)) rfl ?_)
      refine k_callSr hC 23 [] (m_isIn l D p1 (nI 0) (nI A.length - nI 1)) cw_RX4_26 dX4_ghost_23 ⟨Nat.le_of_ble_eq_true rfl, Nat.le_of_ble_eq_true rfl, Nat.le_of_ble_eq_true rfl, Nat.le_of_ble_eq_true rfl⟩ rfl (Nat.le_of_ble_eq_true rfl) (by decide) rfl (fun _ => Nat.le_of_ble_eq_true rfl) (fun _ => rfl) _ rfl (fun v u hp => ?_)
      obtain ⟨d, rfl, hd1, hd⟩ := hp
      refine KJ.eqs (st' := .int (nI d) :: []) rfl ?_
      refine n_if_eq hC 26 38 dX4_ghost_26 (by decide) (by omega) (fun h26 => ?_) (fun h26 => ?_)
      · skip
        have hK : rowK A B p0 p1 = 1 := kK_1 (Or.inr (by rw [if_pos (h0.trans nI_0)]; exact fun i hi2 e => (hd.mpr (by rw [e]; exact in_row (by omega) hi2)) h26))
        refine k_aload_n hC 38 dX4_ghost_38 rfl ?_
        refine k_iconst hC 39 dX4_ghost_39 (nI 1) (by decide) ?_
        refine k_callV hC 40 0 [0, 1, 2, 3, 4] (fun (_ : Unit) => [((o 0), .inr (4, [.int (nI 1), .ref (o 1), .ref (o 2), .ref (o 3), .ref (o 4)])), ((o 1), .inl (D.1 5, 160, .inl fj)), ((o 2), .inl (D.1 5, 24, .inl fs)), ((o 3), .inl (D.1 5, 26, .inl fl)), ((o 4), .inl (D.1 5, 10, .inl fn))]) (m_fail l D o (nI 0) fj fs fl fn 1) cw_RX4_104 dX4_ghost_40 ⟨Nat.le_of_ble_eq_true rfl, Nat.le_of_ble_eq_true rfl, Nat.le_of_ble_eq_true rfl, Nat.le_of_ble_eq_true rfl⟩ rfl (Nat.le_of_ble_eq_true rfl) rfl rfl rfl (by decide) rfl (fun _ => Nat.le_of_ble_eq_true rfl) (fun _ => rfl) _ rfl (fun v (_ : Unit) hp => ?_)
        obtain rfl := hp
        refine KJ.eqs (st' := .int 0 :: []) rfl ?_
        exact k_iret hC hE 43 (fj, fs, fl, fn) dX4_ghost_43 rfl (⟨_, rfl, Or.inr ⟨by rw [hK]; decide, hM0⟩⟩) (congrArg (fun z => ([((o 0), .inr (4, [.int (nI z), .ref (o 1), .ref (o 2), .ref (o 3), .ref (o 4)])), ((o 1), .inl (D.1 5, 160, .inl fj)), ((o 2), .inl (D.1 5, 24, .inl fs)), ((o 3), .inl (D.1 5, 26, .inl fl)), ((o 4), .inl (D.1 5, 10, .inl fn))] : va_W)) hK) ⟨Nat.zero_le _, Nat.zero_le _⟩
      · skip
        obtain ⟨u1, u2⟩ := hd.mp h26
        obtain ⟨i, hi2, hpi⟩ := row_in (by omega) u1 u2
        rw [hpi]
        have hK : rowK A B p0 p1 = 0 := kK_0 (fun z => z.elim (fun y => y (show Sk p0 from Or.inl (h0.trans nI_0))) (fun y => by rw [if_pos (h0.trans nI_0)] at y; exact y i hi2 hpi)) id
        refine k_aload_n hC 29 dX4_ghost_29 rfl ?_
        refine k_iload_n hC 30 dX4_ghost_30 rfl ?_
        refine k_iload_n hC 31 dX4_ghost_31 rfl ?_
        refine k_callVr hC 32 0 [0, 1, 2, 3, 4] (m_listedAt l D o (nI 0) fj fs fl fn 0 i (by omega)) cw_RX4_55 dX4_ghost_32 ⟨Nat.le_of_ble_eq_true rfl, Nat.le_of_ble_eq_true rfl, Nat.le_of_ble_eq_true rfl, Nat.le_of_ble_eq_true rfl⟩ rfl (Nat.le_of_ble_eq_true rfl) rfl rfl rfl (by decide) rfl (fun _ => Nat.le_of_ble_eq_true rfl) (fun _ => rfl) _ rfl (fun v u hp => ?_)
        obtain rfl := hp
        refine KJ.eqs (st' := .int (fl (13 * 0 + i)) :: []) rfl ?_
        refine KJ.topi (y := (nI (A.getD i 0))) (r2 i hi2) ?_
        refine k_goto hC 35 43 dX4_ghost_35 (by decide) ?_
        exact k_iret hC hE 43 (fj, fs, fl, fn) dX4_ghost_43 rfl (⟨_, rfl, Or.inl ⟨hK, by rw [rowV, if_pos (h0.trans nI_0), hpi, kn_nI (by omega)], hM0⟩⟩) (congrArg (fun z => ([((o 0), .inr (4, [.int (nI z), .ref (o 1), .ref (o 2), .ref (o 3), .ref (o 4)])), ((o 1), .inl (D.1 5, 160, .inl fj)), ((o 2), .inl (D.1 5, 24, .inl fs)), ((o 3), .inl (D.1 5, 26, .inl fl)), ((o 4), .inl (D.1 5, 10, .inl fn))] : va_W)) hK) ⟨Nat.zero_le _, Nat.zero_le _⟩
    · skip
      have h0 : p0 = nI 1 := by rw [← hp0, e0]
      rw [h0]
      refine k_iload_n hC 14 dX4_ghost_14 rfl ?_
      refine k_iconst hC 15 dX4_ghost_15 (nI 0) (by decide) ?_
      refine k_aload_n hC 16 dX4_ghost_16 rfl ?_
      refine k_iload_n hC 17 dX4_ghost_17 rfl ?_
      refine k_callVr hC 18 0 [0, 1, 2, 3, 4] (m_listed l D o (nI 0) fj fs fl fn 1 (by decide)) cw_RX4_44 dX4_ghost_18 ⟨Nat.le_of_ble_eq_true rfl, Nat.le_of_ble_eq_true rfl, Nat.le_of_ble_eq_true rfl, Nat.le_of_ble_eq_true rfl⟩ rfl (Nat.le_of_ble_eq_true rfl) rfl rfl rfl (by decide) rfl (fun _ => Nat.le_of_ble_eq_true rfl) (fun _ => rfl) _ rfl (fun v u hp => ?_)
      obtain rfl := hp
      refine KJ.eqs (st' := .int (fn (8 + 1)) :: .int (nI 0) :: .int p1 :: []) rfl ?_
      refine KJ.topi (y := (nI B.length)) n9 ?_
      refine k_iconst hC 21 dX4_ghost_21 (nI 1) (by decide) ?_
      refine k_isub hC 22 dX4_ghost_22 (KJ.topi (y := (nI B.length - nI 1)) rfl ?_)
      refine k_callSr hC 23 [] (m_isIn l D p1 (nI 0) (nI B.length - nI 1)) cw_RX4_26 dX4_ghost_23 ⟨Nat.le_of_ble_eq_true rfl, Nat.le_of_ble_eq_true rfl, Nat.le_of_ble_eq_true rfl, Nat.le_of_ble_eq_true rfl⟩ rfl (Nat.le_of_ble_eq_true rfl) (by decide) rfl (fun _ => Nat.le_of_ble_eq_true rfl) (fun _ => rfl) _ rfl (fun v u hp => ?_)
      obtain ⟨d, rfl, hd1, hd⟩ := hp
      refine KJ.eqs (st' := .int (nI d) :: []) rfl ?_
      refine n_if_eq hC 26 38 dX4_ghost_26 (by decide) (by omega) (fun h26 => ?_) (fun h26 => ?_)
      · skip
        have hK : rowK A B p0 p1 = 1 := kK_1 (Or.inr (by rw [if_neg (fun z => absurd (h0.symm.trans z) (by decide))]; exact fun i hi2 e => (hd.mpr (by rw [e]; exact in_row (by omega) hi2)) h26))
        refine k_aload_n hC 38 dX4_ghost_38 rfl ?_
        refine k_iconst hC 39 dX4_ghost_39 (nI 1) (by decide) ?_
        refine k_callV hC 40 0 [0, 1, 2, 3, 4] (fun (_ : Unit) => [((o 0), .inr (4, [.int (nI 1), .ref (o 1), .ref (o 2), .ref (o 3), .ref (o 4)])), ((o 1), .inl (D.1 5, 160, .inl fj)), ((o 2), .inl (D.1 5, 24, .inl fs)), ((o 3), .inl (D.1 5, 26, .inl fl)), ((o 4), .inl (D.1 5, 10, .inl fn))]) (m_fail l D o (nI 0) fj fs fl fn 1) cw_RX4_104 dX4_ghost_40 ⟨Nat.le_of_ble_eq_true rfl, Nat.le_of_ble_eq_true rfl, Nat.le_of_ble_eq_true rfl, Nat.le_of_ble_eq_true rfl⟩ rfl (Nat.le_of_ble_eq_true rfl) rfl rfl rfl (by decide) rfl (fun _ => Nat.le_of_ble_eq_true rfl) (fun _ => rfl) _ rfl (fun v (_ : Unit) hp => ?_)
        obtain rfl := hp
        refine KJ.eqs (st' := .int 0 :: []) rfl ?_
        exact k_iret hC hE 43 (fj, fs, fl, fn) dX4_ghost_43 rfl (⟨_, rfl, Or.inr ⟨by rw [hK]; decide, hM0⟩⟩) (congrArg (fun z => ([((o 0), .inr (4, [.int (nI z), .ref (o 1), .ref (o 2), .ref (o 3), .ref (o 4)])), ((o 1), .inl (D.1 5, 160, .inl fj)), ((o 2), .inl (D.1 5, 24, .inl fs)), ((o 3), .inl (D.1 5, 26, .inl fl)), ((o 4), .inl (D.1 5, 10, .inl fn))] : va_W)) hK) ⟨Nat.zero_le _, Nat.zero_le _⟩
      · skip
        obtain ⟨u1, u2⟩ := hd.mp h26
        obtain ⟨i, hi2, hpi⟩ := row_in (by omega) u1 u2
        rw [hpi]
        have hK : rowK A B p0 p1 = 0 := kK_0 (fun z => z.elim (fun y => y (show Sk p0 from Or.inr h0)) (fun y => by rw [if_neg (fun z => absurd (h0.symm.trans z) (by decide))] at y; exact y i hi2 hpi)) id
        refine k_aload_n hC 29 dX4_ghost_29 rfl ?_
        refine k_iload_n hC 30 dX4_ghost_30 rfl ?_
        refine k_iload_n hC 31 dX4_ghost_31 rfl ?_
        refine k_callVr hC 32 0 [0, 1, 2, 3, 4] (m_listedAt l D o (nI 0) fj fs fl fn 1 i (by omega)) cw_RX4_55 dX4_ghost_32 ⟨Nat.le_of_ble_eq_true rfl, Nat.le_of_ble_eq_true rfl, Nat.le_of_ble_eq_true rfl, Nat.le_of_ble_eq_true rfl⟩ rfl (Nat.le_of_ble_eq_true rfl) rfl rfl rfl (by decide) rfl (fun _ => Nat.le_of_ble_eq_true rfl) (fun _ => rfl) _ rfl (fun v u hp => ?_)
        obtain rfl := hp
        refine KJ.eqs (st' := .int (fl (13 * 1 + i)) :: []) rfl ?_
        refine KJ.topi (y := (nI (B.getD i 0))) (r3 i hi2) ?_
        refine k_goto hC 35 43 dX4_ghost_35 (by decide) ?_
        exact k_iret hC hE 43 (fj, fs, fl, fn) dX4_ghost_43 rfl (⟨_, rfl, Or.inl ⟨hK, by rw [rowV, if_neg (fun z => absurd (h0.symm.trans z) (by decide)), hpi, kn_nI (by omega)], hM0⟩⟩) (congrArg (fun z => ([((o 0), .inr (4, [.int (nI z), .ref (o 1), .ref (o 2), .ref (o 3), .ref (o 4)])), ((o 1), .inl (D.1 5, 160, .inl fj)), ((o 2), .inl (D.1 5, 24, .inl fs)), ((o 3), .inl (D.1 5, 26, .inl fl)), ((o 4), .inl (D.1 5, 10, .inl fn))] : va_W)) hK) ⟨Nat.zero_le _, Nat.zero_le _⟩
set_option maxHeartbeats 4000000 in
set_option maxRecDepth 100000 in
/-- m_mean -/
theorem m_mean (l : Launch) (D : va_G) (o : Nat → Nat) (th : Int32) (fj fs fl fn : Nat → Int32) (N T A B : List Nat) (to pi : Nat → Nat) (fe : Nat → Int32) (pl go : Nat) (hi mi re lo : Int32) (hM : MR (N, T, A, B, to, pi, fe, pl, go, hi, mi, re, lo) (fj, fs, fl, fn)) (hW : WF (N, T, A, B, to, pi, fe, pl, go, hi, mi, re, lo)) (hN : ∀ (x : Int32) (j : Nat), 1 ≤ j → j ≤ 12 → vf_n64 (FP.ddiv (FP.i2d x) (FP.i2d (nI j)))) : MU l yX4_mean cX4_mean 3 (some .double) 2 43 D [.ref (o 0)] [((o 0), .inr (4, [.int th, .ref (o 1), .ref (o 2), .ref (o 3), .ref (o 4)])), ((o 1), .inl (D.1 5, 160, .inl fj)), ((o 2), .inl (D.1 5, 24, .inl fs)), ((o 3), .inl (D.1 5, 26, .inl fl)), ((o 4), .inl (D.1 5, 10, .inl fn))] (fun v (_ : Unit) => v = some (.double (meanV (N, T, A, B, to, pi, fe, pl, go, hi, mi, re, lo)))) (fun _ => [((o 0), .inr (4, [.int (nI 0), .ref (o 1), .ref (o 2), .ref (o 3), .ref (o 4)])), ((o 1), .inl (D.1 5, 160, .inl fj)), ((o 2), .inl (D.1 5, 24, .inl fs)), ((o 3), .inl (D.1 5, 26, .inl fl)), ((o 4), .inl (D.1 5, 10, .inl fn))]) 0 0 := by
  refine MU.enter (by decide) [(0, .ref (o 0))] rfl (Nat.le_of_ble_eq_true rfl) (fun G hC hE => ?_)
  have hC : CX G D cX4_mean RX4 3 := hC
  have hM0 := hM
  have hW0 := hW
  obtain ⟨⟨r0, r1, r2, r3⟩, hj, ⟨n0, n1, n2, n3, n4, n5⟩, n6, n7, n8, n9⟩ := hM
  obtain ⟨kN, kT, kA, kB, nd, len, lA, lB, pp2, pp12, g12, t1, p9⟩ := hW
  have q0 := pc_le pi N
  have q1 := pc_le pi T
  refine k_aload_n hC 0 dX4_mean_0 rfl ?_
  refine k_iconst hC 1 dX4_mean_1 (nI 0) (by decide) ?_
  refine k_putf hC 2 (ty0 := tyX4) 0 0 [((o 0), .inr (4, [.int (nI 0), .ref (o 1), .ref (o 2), .ref (o 3), .ref (o 4)])), ((o 1), .inl (D.1 5, 160, .inl fj)), ((o 2), .inl (D.1 5, 24, .inl fs)), ((o 3), .inl (D.1 5, 26, .inl fl)), ((o 4), .inl (D.1 5, 10, .inl fn))] dX4_mean_2 rfl rfl inlX4 tyX4_ok nmX4 (by decide) wq_8_7 rfl rfl rfl (Nat.le_of_ble_eq_true rfl) rfl ?_
  refine k_iconst hC 5 dX4_mean_5 (nI 0) (by decide) ?_
  refine KJ.topi (y := fsm N T fe 0) rfl ?_
  refine k_istore_n hC 6 1 [(1, .int (fsm N T fe 0)), (0, .ref (o 0))] dX4_mean_6 rfl (by decide) rfl ?_
  refine k_iconst hC 7 dX4_mean_7 (nI 0) (by decide) ?_
  refine k_istore_n hC 8 2 [(2, .int (nI 0)), (1, .int (fsm N T fe 0)), (0, .ref (o 0))] dX4_mean_8 rfl (by decide) rfl ?_
  have loop9 : ∀ (n9 : Nat) (i : Nat), 40 - i < n9 → i ≤ 40 → KJ l G D ({ frames := 2, cells := 0, slots := 0, locals := 43 } : Room) 3 0 0 [((o 0), .inr (4, [.int (nI 0), .ref (o 1), .ref (o 2), .ref (o 3), .ref (o 4)])), ((o 1), .inl (D.1 5, 160, .inl fj)), ((o 2), .inl (D.1 5, 24, .inl fs)), ((o 3), .inl (D.1 5, 26, .inl fl)), ((o 4), .inl (D.1 5, 10, .inl fn))] [(2, .int (nI i)), (1, .int (fsm N T fe i)), (0, .ref (o 0))] 9 [] := by
    intro n9
    induction n9 with
    | zero => intro i h; exact absurd h (Nat.not_lt_zero _)
    | succ n9 ih9 =>
      intro i hn9 hi2
      refine k_iload_n hC 9 dX4_mean_9 rfl ?_
      refine k_bipush hC 10 dX4_mean_10 (nI 40) (by decide) ?_
      refine n_icmp_ge hC 12 42 dX4_mean_12 (by decide) (by omega) (by omega) (fun h12 => ?_) (fun h12 => ?_)
      · skip
        refine k_aload_n hC 42 dX4_mean_42 rfl ?_
        obtain rfl : i = 40 := by omega
        refine k_callVr hC 43 0 [0, 1, 2, 3, 4] (m_all l D o (nI 0) fj fs fl fn N.length T.length n6 n7) cw_RX4_82 dX4_mean_43 ⟨Nat.le_of_ble_eq_true rfl, Nat.le_of_ble_eq_true rfl, Nat.le_of_ble_eq_true rfl, Nat.le_of_ble_eq_true rfl⟩ rfl (Nat.le_of_ble_eq_true rfl) rfl rfl rfl (by decide) rfl (fun _ => Nat.le_of_ble_eq_true rfl) (fun _ => rfl) _ rfl (fun v u hp => ?_)
        obtain rfl := hp
        refine KJ.eqs (st' := .int (nI (N.length + T.length)) :: []) rfl ?_
        refine n_if_ne hC 46 53 dX4_mean_46 (by decide) (by omega) (fun h46 => ?_) (fun h46 => ?_)
        · skip
          refine k_iload_n hC 53 dX4_mean_53 rfl ?_
          refine k_i2d hC 54 dX4_mean_54 ?_
          refine k_aload_n hC 55 dX4_mean_55 rfl ?_
          refine k_callVr hC 56 0 [0, 1, 2, 3, 4] (m_all l D o (nI 0) fj fs fl fn N.length T.length n6 n7) cw_RX4_82 dX4_mean_56 ⟨Nat.le_of_ble_eq_true rfl, Nat.le_of_ble_eq_true rfl, Nat.le_of_ble_eq_true rfl, Nat.le_of_ble_eq_true rfl⟩ rfl (Nat.le_of_ble_eq_true rfl) rfl rfl rfl (by decide) rfl (fun _ => Nat.le_of_ble_eq_true rfl) (fun _ => rfl) _ rfl (fun v u hp => ?_)
          obtain rfl := hp
          refine KJ.eqs (st' := .int (nI (N.length + T.length)) :: .double (FP.i2d (fsm N T fe 40)) :: []) rfl ?_
          refine k_i2d hC 59 dX4_mean_59 ?_
          refine k_ddiv hC 60 dX4_mean_60 (hN _ _ (by omega) (by omega)) ?_
          exact k_dret hC hE 61 () dX4_mean_61 (by rw [show meanV (N, T, A, B, to, pi, fe, pl, go, hi, mi, re, lo) = if N.length + T.length < 1 then FP.dconst0 else FP.ddiv (FP.i2d (fsm N T fe 40)) (FP.i2d (nI (N.length + T.length))) from rfl, if_neg (by omega)]) rfl ⟨Nat.zero_le _, Nat.zero_le _⟩
        · skip
          refine k_dconst0 hC 49 dX4_mean_49 ?_
          refine k_goto hC 50 61 dX4_mean_50 (by decide) ?_
          exact k_dret hC hE 61 () dX4_mean_61 (by rw [show meanV (N, T, A, B, to, pi, fe, pl, go, hi, mi, re, lo) = if N.length + T.length < 1 then FP.dconst0 else FP.ddiv (FP.i2d (fsm N T fe 40)) (FP.i2d (nI (N.length + T.length))) from rfl, if_pos (by omega)]) rfl ⟨Nat.zero_le _, Nat.zero_le _⟩
      · skip
        refine k_iload_n hC 15 dX4_mean_15 rfl ?_
        refine k_aload_n hC 16 dX4_mean_16 rfl ?_
        refine k_iload_n hC 17 dX4_mean_17 rfl ?_
        refine k_callVr hC 18 0 [0, 1, 2, 3, 4] (m_isThere l D o (nI 0) fj fs fl fn N T i h12 (hj i h12).1) cw_RX4_61 dX4_mean_18 ⟨Nat.le_of_ble_eq_true rfl, Nat.le_of_ble_eq_true rfl, Nat.le_of_ble_eq_true rfl, Nat.le_of_ble_eq_true rfl⟩ rfl (Nat.le_of_ble_eq_true rfl) rfl rfl rfl (by decide) rfl (fun _ => Nat.le_of_ble_eq_true rfl) (fun _ => rfl) _ rfl (fun v u hp => ?_)
        obtain rfl := hp
        refine KJ.eqs (st' := .int (nI (yn (i ∈ N ∨ i ∈ T))) :: .int (fsm N T fe i) :: []) rfl ?_
        refine n_if_eq hC 21 33 dX4_mean_21 (by decide) (Nat.lt_of_le_of_lt yn_le (by decide)) (fun h21 => ?_) (fun h21 => ?_)
        · skip
          refine k_iconst hC 33 dX4_mean_33 (nI 0) (by decide) ?_
          refine k_iadd hC 34 dX4_mean_34 (KJ.topi (y := (fsm N T fe (i + 1))) (show fsm N T fe i + nI 0 = fsm N T fe (i + 1) from by rw [nI_0, Int32.add_zero]; exact (if_neg (yn_0.mp h21)).symm) ?_)
          refine k_istore_n hC 35 1 [(1, .int (fsm N T fe (i + 1))), (2, .int (nI i)), (0, .ref (o 0))] dX4_mean_35 rfl (by decide) rfl ?_
          refine k_iinc hC 36 1 (nI (i + 1)) [(2, .int (nI (i + 1))), (1, .int (fsm N T fe (i + 1))), (0, .ref (o 0))] dX4_mean_36 rfl (nI_1 _) (by decide) rfl ?_
          refine k_goto hC 39 9 dX4_mean_39 (by decide) ?_
          exact ih9 (i + 1) (by omega) (by omega)
        · skip
          refine k_aload_n hC 24 dX4_mean_24 rfl ?_
          refine k_iload_n hC 25 dX4_mean_25 rfl ?_
          refine k_iconst hC 26 dX4_mean_26 (nI 3) (by decide) ?_
          refine k_callVr hC 27 0 [0, 1, 2, 3, 4] (m_ja l D o (nI 0) fj fs fl fn i 3 h12 (by decide)) cw_RX4_30 dX4_mean_27 ⟨Nat.le_of_ble_eq_true rfl, Nat.le_of_ble_eq_true rfl, Nat.le_of_ble_eq_true rfl, Nat.le_of_ble_eq_true rfl⟩ rfl (Nat.le_of_ble_eq_true rfl) rfl rfl rfl (by decide) rfl (fun _ => Nat.le_of_ble_eq_true rfl) (fun _ => rfl) _ rfl (fun v u hp => ?_)
          obtain rfl := hp
          refine KJ.eqs (st' := .int (fj (4 * i + 3)) :: .int (fsm N T fe i) :: []) rfl ?_
          refine KJ.topi (y := (fe i)) (hj i h12).2.2.2 ?_
          refine k_goto hC 30 34 dX4_mean_30 (by decide) ?_
          refine k_iadd hC 34 dX4_mean_34 (KJ.topi (y := (fsm N T fe (i + 1))) (if_pos (Classical.byContradiction (fun z => h21 (yn_f z)))).symm ?_)
          refine k_istore_n hC 35 1 [(1, .int (fsm N T fe (i + 1))), (2, .int (nI i)), (0, .ref (o 0))] dX4_mean_35 rfl (by decide) rfl ?_
          refine k_iinc hC 36 1 (nI (i + 1)) [(2, .int (nI (i + 1))), (1, .int (fsm N T fe (i + 1))), (0, .ref (o 0))] dX4_mean_36 rfl (nI_1 _) (by decide) rfl ?_
          refine k_goto hC 39 9 dX4_mean_39 (by decide) ?_
          exact ih9 (i + 1) (by omega) (by omega)
  exact loop9 41 0 (by omega) (by omega)
