/-! THE MODEL'S CALLS: what they want -/
theorem kK_le (c1 c2 : Prop) : kK c1 c2 ≤ 2 := by
  by_cases h1 : c1
  · rw [kK_1 h1]; decide
  · by_cases h2 : c2
    · rw [kK_2 h1 h2]; exact Nat.le_refl _
    · rw [kK_0 h1 h2]; decide
theorem serK_ok {p0 p1 p2 : Int32} (h : serK p0 p1 p2 = 0) : Ck p0 ∧ Ck p1 ∧ Mk p2 := by
  by_cases h1 : ¬ Ck p0
  · rw [serK, kK_1 h1] at h; exact absurd h (by decide)
  · by_cases h2 : ¬ (Ck p1 ∧ Mk p2)
    · rw [serK, kK_2 h1 h2] at h; exact absurd h (by decide)
    · exact ⟨Classical.not_not.mp h1, Classical.not_not.mp h2⟩
theorem in_no {p a b : Int32} {c : Nat} (hc : c ≠ 0 ↔ ¬ p < a ∧ p ≤ b) (h : c = 0) : p < a ∨ ¬ p ≤ b := Classical.byContradiction (fun z => (hc.mpr ⟨fun y => z (Or.inl y), Classical.byContradiction (fun y => z (Or.inr y))⟩) h)
theorem mem_cut : ∀ {L : List Nat} {k y : Nat}, y ≠ k → (y ∈ L ↔ y ∈ L.eraseIdx (L.idxOf k))
  | [], _, _, _ => by simp
  | a :: t, k, y, h => by
    by_cases e : a = k
    · subst e
      rw [List.idxOf_cons_self]
      show y ∈ a :: t ↔ y ∈ t
      simp [h]
    · rw [List.idxOf_cons, show (a == k) = false from beq_false_of_ne e]
      show y ∈ a :: t ↔ y ∈ a :: t.eraseIdx (t.idxOf k)
      rw [List.mem_cons, List.mem_cons, mem_cut (L := t) h]
theorem not_cut : ∀ {L : List Nat} {k : Nat}, L.Nodup → k ∉ L.eraseIdx (L.idxOf k)
  | [], _, _ => by simp
  | a :: t, k, h => by
    have h2 := List.nodup_cons.mp h
    by_cases e : a = k
    · subst e
      rw [List.idxOf_cons_self]
      exact h2.1
    · rw [List.idxOf_cons, show (a == k) = false from beq_false_of_ne e]
      show k ∉ a :: t.eraseIdx (t.idxOf k)
      intro z
      rcases List.mem_cons.mp z with z | z
      · exact e z.symm
      · exact not_cut h2.2 z
set_option maxHeartbeats 4000000 in
set_option maxRecDepth 100000 in
/-- m_fetch -/
theorem m_fetch (l : Launch) (D : va_G) (o : Nat → Nat) (th : Int32) (fj fs fl fn : Nat → Int32) (N T A B : List Nat) (to pi : Nat → Nat) (fe : Nat → Int32) (pl go : Nat) (hi mi re lo : Int32) (p : Int32) (hM : MR (N, T, A, B, to, pi, fe, pl, go, hi, mi, re, lo) (fj, fs, fl, fn)) (hW : WF (N, T, A, B, to, pi, fe, pl, go, hi, mi, re, lo)) (hjp : N.length + T.length ≤ pl) : MU l yX4_fetch cX4_fetch 2 (some .int) 6 151 D [.ref (o 0), .int p] [((o 0), .inr (4, [.int th, .ref (o 1), .ref (o 2), .ref (o 3), .ref (o 4)])), ((o 1), .inl (D.1 5, 160, .inl fj)), ((o 2), .inl (D.1 5, 24, .inl fs)), ((o 3), .inl (D.1 5, 26, .inl fl)), ((o 4), .inl (D.1 5, 10, .inl fn))] (fun v (u : MG) => ∃ x : Int32, v = some (.int x) ∧ ((fetchK (N, T, A, B, to, pi, fe, pl, go, hi, mi, re, lo) p = 0 ∧ x = nI (oc (N, T, A, B, to, pi, fe, pl, go, hi, mi, re, lo) (kn p)) ∧ MR (br (N, T, A, B, to, pi, fe, pl, go, hi, mi, re, lo) (kn p)) u) ∨ (fetchK (N, T, A, B, to, pi, fe, pl, go, hi, mi, re, lo) p ≠ 0 ∧ MR (N, T, A, B, to, pi, fe, pl, go, hi, mi, re, lo) u))) (fun u => [((o 0), .inr (4, [.int (nI (fetchK (N, T, A, B, to, pi, fe, pl, go, hi, mi, re, lo) p)), .ref (o 1), .ref (o 2), .ref (o 3), .ref (o 4)])), ((o 1), .inl (D.1 5, 160, .inl u.1)), ((o 2), .inl (D.1 5, 24, .inl u.2.1)), ((o 3), .inl (D.1 5, 26, .inl u.2.2.1)), ((o 4), .inl (D.1 5, 10, .inl u.2.2.2))]) 1 4 := by
  refine MU.enter (by decide) [(0, .ref (o 0)), (1, .int p)] rfl (Nat.le_of_ble_eq_true rfl) (fun G hC hE => ?_)
  have hC : CX G D cX4_fetch RX4 2 := hC
  have hM0 := hM
  have hW0 := hW
  obtain ⟨⟨r0, r1, r2, r3⟩, hj, ⟨n0, n1, n2, n3, n4, n5⟩, n6, n7, n8, n9⟩ := hM
  obtain ⟨kN, kT, kA, kB, nd, len, lA, lB, pp2, pp12, g12, t1, p9⟩ := hW
  have q0 := pc_le pi N
  have q1 := pc_le pi T
  refine k_aload_n hC 0 dX4_fetch_0 rfl ?_
  refine k_iconst hC 1 dX4_fetch_1 (nI 0) (by decide) ?_
  refine k_putf hC 2 (ty0 := tyX4) 0 0 [((o 0), .inr (4, [.int (nI 0), .ref (o 1), .ref (o 2), .ref (o 3), .ref (o 4)])), ((o 1), .inl (D.1 5, 160, .inl fj)), ((o 2), .inl (D.1 5, 24, .inl fs)), ((o 3), .inl (D.1 5, 26, .inl fl)), ((o 4), .inl (D.1 5, 10, .inl fn))] dX4_fetch_2 rfl rfl inlX4 tyX4_ok nmX4 (by decide) wq_8_7 rfl rfl rfl (Nat.le_of_ble_eq_true rfl) rfl ?_
  refine k_iload_n hC 5 dX4_fetch_5 rfl ?_
  refine k_callSr hC 6 [] (m_isKind l D p) cw_RX4_101 dX4_fetch_6 ⟨Nat.le_of_ble_eq_true rfl, Nat.le_of_ble_eq_true rfl, Nat.le_of_ble_eq_true rfl, Nat.le_of_ble_eq_true rfl⟩ rfl (Nat.le_of_ble_eq_true rfl) (by decide) rfl (fun _ => Nat.le_of_ble_eq_true rfl) (fun _ => rfl) _ rfl (fun v u hp => ?_)
  obtain ⟨c, rfl, hc1, hc⟩ := hp
  refine KJ.eqs (st' := .int (nI c) :: []) rfl ?_
  refine n_if_ne hC 9 18 dX4_fetch_9 (by decide) (by omega) (fun h9 => ?_) (fun h9 => ?_)
  · skip
    have hk := hc.mp h9
    obtain ⟨hk40, hp⟩ := hk.k
    rw [← hp]
    refine k_aload_n hC 18 dX4_fetch_18 rfl ?_
    refine k_iload_n hC 19 dX4_fetch_19 rfl ?_
    refine k_callVr hC 20 0 [0, 1, 2, 3, 4] (m_canFetch l D o (nI 0) fj fs fl fn N T A B to pi fe pl go hi mi re lo (kn p) hM0 hW0 hk40) cw_RX4_107 dX4_fetch_20 ⟨Nat.le_of_ble_eq_true rfl, Nat.le_of_ble_eq_true rfl, Nat.le_of_ble_eq_true rfl, Nat.le_of_ble_eq_true rfl⟩ rfl (Nat.le_of_ble_eq_true rfl) rfl rfl rfl (by decide) rfl (fun _ => Nat.le_of_ble_eq_true rfl) (fun _ => rfl) _ rfl (fun v u hp => ?_)
    obtain rfl := hp
    refine KJ.eqs (st' := .int (nI (yn (oc (N, T, A, B, to, pi, fe, pl, go, hi, mi, re, lo) (kn p) ≠ 4))) :: []) rfl ?_
    refine n_if_eq hC 23 34 dX4_fetch_23 (by decide) (Nat.lt_of_le_of_lt yn_le (by decide)) (fun h23 => ?_) (fun h23 => ?_)
    · skip
      have h4 : oc (N, T, A, B, to, pi, fe, pl, go, hi, mi, re, lo) (kn p) = 4 := Classical.byContradiction (fun z => yn_0.mp h23 z)
      have hK : fetchK (N, T, A, B, to, pi, fe, pl, go, hi, mi, re, lo) p = 2 := kK_2 (not_not_intro hk) h4
      refine k_aload_n hC 34 dX4_fetch_34 rfl ?_
      refine k_iconst hC 35 dX4_fetch_35 (nI 2) (by decide) ?_
      refine k_callV hC 36 0 [0, 1, 2, 3, 4] (fun (_ : Unit) => [((o 0), .inr (4, [.int (nI 2), .ref (o 1), .ref (o 2), .ref (o 3), .ref (o 4)])), ((o 1), .inl (D.1 5, 160, .inl fj)), ((o 2), .inl (D.1 5, 24, .inl fs)), ((o 3), .inl (D.1 5, 26, .inl fl)), ((o 4), .inl (D.1 5, 10, .inl fn))]) (m_fail l D o (nI 0) fj fs fl fn 2) cw_RX4_104 dX4_fetch_36 ⟨Nat.le_of_ble_eq_true rfl, Nat.le_of_ble_eq_true rfl, Nat.le_of_ble_eq_true rfl, Nat.le_of_ble_eq_true rfl⟩ rfl (Nat.le_of_ble_eq_true rfl) rfl rfl rfl (by decide) rfl (fun _ => Nat.le_of_ble_eq_true rfl) (fun _ => rfl) _ rfl (fun v (_ : Unit) hp => ?_)
      obtain rfl := hp
      refine KJ.eqs (st' := .int 0 :: []) rfl ?_
      exact k_iret hC hE 39 (fj, fs, fl, fn) dX4_fetch_39 rfl (⟨_, rfl, Or.inr ⟨by rw [hK]; decide, hM0⟩⟩) (congrArg (fun z => ([((o 0), .inr (4, [.int (nI z), .ref (o 1), .ref (o 2), .ref (o 3), .ref (o 4)])), ((o 1), .inl (D.1 5, 160, .inl fj)), ((o 2), .inl (D.1 5, 24, .inl fs)), ((o 3), .inl (D.1 5, 26, .inl fl)), ((o 4), .inl (D.1 5, 10, .inl fn))] : va_W)) hK) ⟨Nat.zero_le _, Nat.zero_le _⟩
    · skip
      have h4 : oc (N, T, A, B, to, pi, fe, pl, go, hi, mi, re, lo) (kn p) ≠ 4 := Classical.byContradiction (fun z => h23 (yn_f z))
      have hK : fetchK (N, T, A, B, to, pi, fe, pl, go, hi, mi, re, lo) p = 0 := kK_0 (not_not_intro hk) h4
      refine k_aload_n hC 26 dX4_fetch_26 rfl ?_
      refine k_iload_n hC 27 dX4_fetch_27 rfl ?_
      refine k_callV hC 28 0 [0, 1, 2, 3, 4] (fun (y0 : MG) => [((o 0), .inr (4, [.int (nI 0), .ref (o 1), .ref (o 2), .ref (o 3), .ref (o 4)])), ((o 1), .inl (D.1 5, 160, .inl y0.1)), ((o 2), .inl (D.1 5, 24, .inl y0.2.1)), ((o 3), .inl (D.1 5, 26, .inl y0.2.2.1)), ((o 4), .inl (D.1 5, 10, .inl y0.2.2.2))]) (m_fetched l D o (nI 0) fj fs fl fn N T A B to pi fe pl go hi mi re lo (kn p) hM0 hW0 hk40 h4 hjp) cw_RX4_110 dX4_fetch_28 ⟨Nat.le_of_ble_eq_true rfl, Nat.le_of_ble_eq_true rfl, Nat.le_of_ble_eq_true rfl, Nat.le_of_ble_eq_true rfl⟩ rfl (Nat.le_of_ble_eq_true rfl) rfl rfl rfl (by decide) rfl (fun _ => Nat.le_of_ble_eq_true rfl) (fun _ => rfl) _ rfl (fun v (y0 : MG) hp => ?_)
      obtain ⟨rfl, hM2⟩ := hp
      refine KJ.eqs (st' := .int (nI (oc (N, T, A, B, to, pi, fe, pl, go, hi, mi, re, lo) (kn p))) :: []) rfl ?_
      refine k_goto hC 31 39 dX4_fetch_31 (by decide) ?_
      exact k_iret hC hE 39 (y0.1, y0.2.1, y0.2.2.1, y0.2.2.2) dX4_fetch_39 rfl (⟨_, rfl, Or.inl ⟨hK, rfl, hM2⟩⟩) (congrArg (fun z => ([((o 0), .inr (4, [.int (nI z), .ref (o 1), .ref (o 2), .ref (o 3), .ref (o 4)])), ((o 1), .inl (D.1 5, 160, .inl y0.1)), ((o 2), .inl (D.1 5, 24, .inl y0.2.1)), ((o 3), .inl (D.1 5, 26, .inl y0.2.2.1)), ((o 4), .inl (D.1 5, 10, .inl y0.2.2.2))] : va_W)) hK) ⟨Nat.le_of_ble_eq_true rfl, Nat.le_of_ble_eq_true rfl⟩
  · skip
    have hK : fetchK (N, T, A, B, to, pi, fe, pl, go, hi, mi, re, lo) p = 1 := kK_1 (fun z => (hc.mpr z) h9)
    refine k_aload_n hC 12 dX4_fetch_12 rfl ?_
    refine k_iconst hC 13 dX4_fetch_13 (nI 1) (by decide) ?_
    refine k_callV hC 14 0 [0, 1, 2, 3, 4] (fun (_ : Unit) => [((o 0), .inr (4, [.int (nI 1), .ref (o 1), .ref (o 2), .ref (o 3), .ref (o 4)])), ((o 1), .inl (D.1 5, 160, .inl fj)), ((o 2), .inl (D.1 5, 24, .inl fs)), ((o 3), .inl (D.1 5, 26, .inl fl)), ((o 4), .inl (D.1 5, 10, .inl fn))]) (m_fail l D o (nI 0) fj fs fl fn 1) cw_RX4_104 dX4_fetch_14 ⟨Nat.le_of_ble_eq_true rfl, Nat.le_of_ble_eq_true rfl, Nat.le_of_ble_eq_true rfl, Nat.le_of_ble_eq_true rfl⟩ rfl (Nat.le_of_ble_eq_true rfl) rfl rfl rfl (by decide) rfl (fun _ => Nat.le_of_ble_eq_true rfl) (fun _ => rfl) _ rfl (fun v (_ : Unit) hp => ?_)
    obtain rfl := hp
    refine KJ.eqs (st' := .int 0 :: []) rfl ?_
    exact k_iret hC hE 17 (fj, fs, fl, fn) dX4_fetch_17 rfl (⟨_, rfl, Or.inr ⟨by rw [hK]; decide, hM0⟩⟩) (congrArg (fun z => ([((o 0), .inr (4, [.int (nI z), .ref (o 1), .ref (o 2), .ref (o 3), .ref (o 4)])), ((o 1), .inl (D.1 5, 160, .inl fj)), ((o 2), .inl (D.1 5, 24, .inl fs)), ((o 3), .inl (D.1 5, 26, .inl fl)), ((o 4), .inl (D.1 5, 10, .inl fn))] : va_W)) hK) ⟨Nat.zero_le _, Nat.zero_le _⟩
set_option maxHeartbeats 4000000 in
set_option maxRecDepth 100000 in
/-- m_fetchAll -/
theorem m_fetchAll (l : Launch) (D : va_G) (o : Nat → Nat) (th : Int32) (fj fs fl fn : Nat → Int32) (N T A B : List Nat) (to pi : Nat → Nat) (fe : Nat → Int32) (pl go : Nat) (hi mi re lo : Int32) (p0 p1 p2 : Int32) (hM : MR (N, T, A, B, to, pi, fe, pl, go, hi, mi, re, lo) (fj, fs, fl, fn)) (hW : WF (N, T, A, B, to, pi, fe, pl, go, hi, mi, re, lo)) (hjp : N.length + T.length ≤ pl) : MU l yX4_fetchAll cX4_fetchAll 4 (some .int) 7 176 D [.ref (o 0), .int p0, .int p1, .int p2] [((o 0), .inr (4, [.int th, .ref (o 1), .ref (o 2), .ref (o 3), .ref (o 4)])), ((o 1), .inl (D.1 5, 160, .inl fj)), ((o 2), .inl (D.1 5, 24, .inl fs)), ((o 3), .inl (D.1 5, 26, .inl fl)), ((o 4), .inl (D.1 5, 10, .inl fn))] (fun v (u : MG) => ∃ x : Int32, v = some (.int x) ∧ ((serK p0 p1 p2 = 0 ∧ x = serV (N, T, A, B, to, pi, fe, pl, go, hi, mi, re, lo) p0 p1 p2 ∧ MR (serS (N, T, A, B, to, pi, fe, pl, go, hi, mi, re, lo) p0 p1 p2) u) ∨ (serK p0 p1 p2 ≠ 0 ∧ MR (N, T, A, B, to, pi, fe, pl, go, hi, mi, re, lo) u))) (fun u => [((o 0), .inr (4, [.int (nI (serK p0 p1 p2)), .ref (o 1), .ref (o 2), .ref (o 3), .ref (o 4)])), ((o 1), .inl (D.1 5, 160, .inl u.1)), ((o 2), .inl (D.1 5, 24, .inl u.2.1)), ((o 3), .inl (D.1 5, 26, .inl u.2.2.1)), ((o 4), .inl (D.1 5, 10, .inl u.2.2.2))]) 30 120 := by
  refine MU.enter (by decide) [(0, .ref (o 0)), (1, .int p0), (2, .int p1), (3, .int p2)] rfl (Nat.le_of_ble_eq_true rfl) (fun G hC hE => ?_)
  have hC : CX G D cX4_fetchAll RX4 4 := hC
  have hM0 := hM
  have hW0 := hW
  obtain ⟨⟨r0, r1, r2, r3⟩, hj, ⟨n0, n1, n2, n3, n4, n5⟩, n6, n7, n8, n9⟩ := hM
  obtain ⟨kN, kT, kA, kB, nd, len, lA, lB, pp2, pp12, g12, t1, p9⟩ := hW
  have q0 := pc_le pi N
  have q1 := pc_le pi T
  refine k_aload_n hC 0 dX4_fetchAll_0 rfl ?_
  refine k_aload_n hC 1 dX4_fetchAll_1 rfl ?_
  refine k_iload_n hC 2 dX4_fetchAll_2 rfl ?_
  refine k_iload_n hC 3 dX4_fetchAll_3 rfl ?_
  refine k_iload_n hC 4 dX4_fetchAll_4 rfl ?_
  refine k_callVr hC 5 0 [0, 1, 2, 3, 4] (m_wrong l D o th fj fs fl fn p0 p1 p2) cw_RX4_113 dX4_fetchAll_5 ⟨Nat.le_of_ble_eq_true rfl, Nat.le_of_ble_eq_true rfl, Nat.le_of_ble_eq_true rfl, Nat.le_of_ble_eq_true rfl⟩ rfl (Nat.le_of_ble_eq_true rfl) rfl rfl rfl (by decide) rfl (fun _ => Nat.le_of_ble_eq_true rfl) (fun _ => rfl) _ rfl (fun v u hp => ?_)
  obtain rfl := hp
  refine KJ.eqs (st' := .int (nI (serK p0 p1 p2)) :: .ref (o 0) :: []) rfl ?_
  refine k_putf hC 8 (ty0 := tyX4) 0 0 [((o 0), .inr (4, [.int (nI (serK p0 p1 p2)), .ref (o 1), .ref (o 2), .ref (o 3), .ref (o 4)])), ((o 1), .inl (D.1 5, 160, .inl fj)), ((o 2), .inl (D.1 5, 24, .inl fs)), ((o 3), .inl (D.1 5, 26, .inl fl)), ((o 4), .inl (D.1 5, 10, .inl fn))] dX4_fetchAll_8 rfl rfl inlX4 tyX4_ok nmX4 (by decide) wq_8_7 rfl rfl rfl (Nat.le_of_ble_eq_true rfl) rfl ?_
  refine k_aload_n hC 11 dX4_fetchAll_11 rfl ?_
  refine k_getf hC 12 0 0 dX4_fetchAll_12 rfl rfl inlX4 (by decide) wq_8_7 rfl ?_
  refine n_if_ne hC 15 28 dX4_fetchAll_15 (by decide) (Nat.lt_of_le_of_lt (kK_le _ _) (by decide)) (fun hK => ?_) (fun hK => ?_)
  · skip
    refine k_iconst hC 28 dX4_fetchAll_28 (nI 0) (by decide) ?_
    exact k_iret hC hE 29 (fj, fs, fl, fn) dX4_fetchAll_29 rfl (⟨_, rfl, Or.inr ⟨hK, hM0⟩⟩) rfl ⟨Nat.zero_le _, Nat.zero_le _⟩
  · skip
    obtain ⟨hk, hs, hm⟩ := serK_ok hK
    obtain ⟨k40, hp0⟩ := hk.k
    obtain ⟨s40, hp1⟩ := hs.k
    obtain ⟨m30, hp2⟩ := hm.k
    rw [← hp0, ← hp1, ← hp2]
    refine k_aload_n hC 18 dX4_fetchAll_18 rfl ?_
    refine k_iload_n hC 19 dX4_fetchAll_19 rfl ?_
    refine k_iload_n hC 20 dX4_fetchAll_20 rfl ?_
    refine k_iload_n hC 21 dX4_fetchAll_21 rfl ?_
    refine k_callV hC 22 0 [0, 1, 2, 3, 4] (fun (y0 : MG) => [((o 0), .inr (4, [.int (nI (serK (nI (kn p0)) (nI (kn p1)) (nI (kn p2)))), .ref (o 1), .ref (o 2), .ref (o 3), .ref (o 4)])), ((o 1), .inl (D.1 5, 160, .inl y0.1)), ((o 2), .inl (D.1 5, 24, .inl y0.2.1)), ((o 3), .inl (D.1 5, 26, .inl y0.2.2.1)), ((o 4), .inl (D.1 5, 10, .inl y0.2.2.2))]) (m_hits l D o (nI (serK (nI (kn p0)) (nI (kn p1)) (nI (kn p2)))) fj fs fl fn N T A B to pi fe pl go hi mi re lo (kn p0) (kn p1) (kn p2) hi (serS (N, T, A, B, to, pi, fe, pl, go, hi, mi, re, lo) p0 p1 p2) hM0 hW0 k40 s40 m30 rfl rfl hjp) cw_RX4_117 dX4_fetchAll_22 ⟨Nat.le_of_ble_eq_true rfl, Nat.le_of_ble_eq_true rfl, Nat.le_of_ble_eq_true rfl, Nat.le_of_ble_eq_true rfl⟩ rfl (Nat.le_of_ble_eq_true rfl) rfl rfl rfl (by decide) rfl (fun _ => Nat.le_of_ble_eq_true rfl) (fun _ => rfl) _ rfl (fun v (y0 : MG) hp => ?_)
    obtain ⟨rfl, hM2⟩ := hp
    refine KJ.eqs (st' := .int (serV (N, T, A, B, to, pi, fe, pl, go, hi, mi, re, lo) p0 p1 p2) :: []) rfl ?_
    refine k_goto hC 25 29 dX4_fetchAll_25 (by decide) ?_
    exact k_iret hC hE 29 (y0.1, y0.2.1, y0.2.2.1, y0.2.2.2) dX4_fetchAll_29 rfl (⟨_, rfl, Or.inl ⟨hK, rfl, hM2⟩⟩) (by rw [hp0, hp1, hp2]) ⟨Nat.le_of_ble_eq_true rfl, Nat.le_of_ble_eq_true rfl⟩
set_option maxHeartbeats 4000000 in
set_option maxRecDepth 100000 in
/-- m_pin -/
theorem m_pin (l : Launch) (D : va_G) (o : Nat → Nat) (th : Int32) (fj fs fl fn : Nat → Int32) (N T A B : List Nat) (to pi : Nat → Nat) (fe : Nat → Int32) (pl go : Nat) (hi mi re lo : Int32) (p : Int32) (hM : MR (N, T, A, B, to, pi, fe, pl, go, hi, mi, re, lo) (fj, fs, fl, fn)) (hW : WF (N, T, A, B, to, pi, fe, pl, go, hi, mi, re, lo)) (hjp : N.length + T.length ≤ pl) : MU l yX4_pin cX4_pin 2 (some .int) 2 43 D [.ref (o 0), .int p] [((o 0), .inr (4, [.int th, .ref (o 1), .ref (o 2), .ref (o 3), .ref (o 4)])), ((o 1), .inl (D.1 5, 160, .inl fj)), ((o 2), .inl (D.1 5, 24, .inl fs)), ((o 3), .inl (D.1 5, 26, .inl fl)), ((o 4), .inl (D.1 5, 10, .inl fn))] (fun v (u : MG) => ∃ x : Int32, v = some (.int x) ∧ ((pinK (N, T, A, B, to, pi, fe, pl, go, hi, mi, re, lo) p = 0 ∧ x = nI (piS (N, T, A, B, to, pi, fe, pl, go, hi, mi, re, lo) (kn p) + 1) ∧ MR (upPi (N, T, A, B, to, pi, fe, pl, go, hi, mi, re, lo) (kn p) (piS (N, T, A, B, to, pi, fe, pl, go, hi, mi, re, lo) (kn p) + 1)) u) ∨ (pinK (N, T, A, B, to, pi, fe, pl, go, hi, mi, re, lo) p ≠ 0 ∧ MR (N, T, A, B, to, pi, fe, pl, go, hi, mi, re, lo) u))) (fun u => [((o 0), .inr (4, [.int (nI (pinK (N, T, A, B, to, pi, fe, pl, go, hi, mi, re, lo) p)), .ref (o 1), .ref (o 2), .ref (o 3), .ref (o 4)])), ((o 1), .inl (D.1 5, 160, .inl u.1)), ((o 2), .inl (D.1 5, 24, .inl u.2.1)), ((o 3), .inl (D.1 5, 26, .inl u.2.2.1)), ((o 4), .inl (D.1 5, 10, .inl u.2.2.2))]) 0 0 := by
  refine MU.enter (by decide) [(0, .ref (o 0)), (1, .int p)] rfl (Nat.le_of_ble_eq_true rfl) (fun G hC hE => ?_)
  have hC : CX G D cX4_pin RX4 2 := hC
  have hM0 := hM
  have hW0 := hW
  obtain ⟨⟨r0, r1, r2, r3⟩, hj, ⟨n0, n1, n2, n3, n4, n5⟩, n6, n7, n8, n9⟩ := hM
  obtain ⟨kN, kT, kA, kB, nd, len, lA, lB, pp2, pp12, g12, t1, p9⟩ := hW
  have q0 := pc_le pi N
  have q1 := pc_le pi T
  have p9k := p9 (kn p)
  refine k_aload_n hC 0 dX4_pin_0 rfl ?_
  refine k_iconst hC 1 dX4_pin_1 (nI 0) (by decide) ?_
  refine k_putf hC 2 (ty0 := tyX4) 0 0 [((o 0), .inr (4, [.int (nI 0), .ref (o 1), .ref (o 2), .ref (o 3), .ref (o 4)])), ((o 1), .inl (D.1 5, 160, .inl fj)), ((o 2), .inl (D.1 5, 24, .inl fs)), ((o 3), .inl (D.1 5, 26, .inl fl)), ((o 4), .inl (D.1 5, 10, .inl fn))] dX4_pin_2 rfl rfl inlX4 tyX4_ok nmX4 (by decide) wq_8_7 rfl rfl rfl (Nat.le_of_ble_eq_true rfl) rfl ?_
  refine k_iload_n hC 5 dX4_pin_5 rfl ?_
  refine k_callSr hC 6 [] (m_isKind l D p) cw_RX4_101 dX4_pin_6 ⟨Nat.le_of_ble_eq_true rfl, Nat.le_of_ble_eq_true rfl, Nat.le_of_ble_eq_true rfl, Nat.le_of_ble_eq_true rfl⟩ rfl (Nat.le_of_ble_eq_true rfl) (by decide) rfl (fun _ => Nat.le_of_ble_eq_true rfl) (fun _ => rfl) _ rfl (fun v u hp => ?_)
  obtain ⟨c, rfl, hc1, hc⟩ := hp
  refine KJ.eqs (st' := .int (nI c) :: []) rfl ?_
  refine n_if_ne hC 9 18 dX4_pin_9 (by decide) (by omega) (fun h9 => ?_) (fun h9 => ?_)
  · skip
    have hk := hc.mp h9
    obtain ⟨hk40, hp⟩ := hk.k
    rw [← hp]
    refine k_aload_n hC 18 dX4_pin_18 rfl ?_
    refine k_iload_n hC 19 dX4_pin_19 rfl ?_
    refine k_callVr hC 20 0 [0, 1, 2, 3, 4] (m_isThere l D o (nI 0) fj fs fl fn N T (kn p) hk40 (hj (kn p) hk40).1) cw_RX4_61 dX4_pin_20 ⟨Nat.le_of_ble_eq_true rfl, Nat.le_of_ble_eq_true rfl, Nat.le_of_ble_eq_true rfl, Nat.le_of_ble_eq_true rfl⟩ rfl (Nat.le_of_ble_eq_true rfl) rfl rfl rfl (by decide) rfl (fun _ => Nat.le_of_ble_eq_true rfl) (fun _ => rfl) _ rfl (fun v u hp => ?_)
    obtain rfl := hp
    refine KJ.eqs (st' := .int (nI (yn (kn p ∈ N ∨ kn p ∈ T))) :: []) rfl ?_
    refine n_if_eq hC 23 37 dX4_pin_23 (by decide) (Nat.lt_of_le_of_lt yn_le (by decide)) (fun h23 => ?_) (fun h23 => ?_)
    · skip
      have hK : pinK (N, T, A, B, to, pi, fe, pl, go, hi, mi, re, lo) p = 2 := kK_2 (not_not_intro hk) (Or.inl (show ¬ (kn p ∈ N ∨ kn p ∈ T) from yn_0.mp h23))
      refine k_aload_n hC 37 dX4_pin_37 rfl ?_
      refine k_iconst hC 38 dX4_pin_38 (nI 2) (by decide) ?_
      refine k_callV hC 39 0 [0, 1, 2, 3, 4] (fun (_ : Unit) => [((o 0), .inr (4, [.int (nI 2), .ref (o 1), .ref (o 2), .ref (o 3), .ref (o 4)])), ((o 1), .inl (D.1 5, 160, .inl fj)), ((o 2), .inl (D.1 5, 24, .inl fs)), ((o 3), .inl (D.1 5, 26, .inl fl)), ((o 4), .inl (D.1 5, 10, .inl fn))]) (m_fail l D o (nI 0) fj fs fl fn 2) cw_RX4_104 dX4_pin_39 ⟨Nat.le_of_ble_eq_true rfl, Nat.le_of_ble_eq_true rfl, Nat.le_of_ble_eq_true rfl, Nat.le_of_ble_eq_true rfl⟩ rfl (Nat.le_of_ble_eq_true rfl) rfl rfl rfl (by decide) rfl (fun _ => Nat.le_of_ble_eq_true rfl) (fun _ => rfl) _ rfl (fun v (_ : Unit) hp => ?_)
      obtain rfl := hp
      refine KJ.eqs (st' := .int 0 :: []) rfl ?_
      exact k_iret hC hE 42 (fj, fs, fl, fn) dX4_pin_42 rfl (⟨_, rfl, Or.inr ⟨by rw [hK]; decide, hM0⟩⟩) (congrArg (fun z => ([((o 0), .inr (4, [.int (nI z), .ref (o 1), .ref (o 2), .ref (o 3), .ref (o 4)])), ((o 1), .inl (D.1 5, 160, .inl fj)), ((o 2), .inl (D.1 5, 24, .inl fs)), ((o 3), .inl (D.1 5, 26, .inl fl)), ((o 4), .inl (D.1 5, 10, .inl fn))] : va_W)) hK) ⟨Nat.zero_le _, Nat.zero_le _⟩
    · skip
      have hin : kn p ∈ N ∨ kn p ∈ T := Classical.byContradiction (fun z => h23 (yn_f z))
      refine k_aload_n hC 26 dX4_pin_26 rfl ?_
      refine k_iload_n hC 27 dX4_pin_27 rfl ?_
      refine k_iconst hC 28 dX4_pin_28 (nI 2) (by decide) ?_
      refine k_callVr hC 29 0 [0, 1, 2, 3, 4] (m_ja l D o (nI 0) fj fs fl fn (kn p) 2 hk40 (by decide)) cw_RX4_30 dX4_pin_29 ⟨Nat.le_of_ble_eq_true rfl, Nat.le_of_ble_eq_true rfl, Nat.le_of_ble_eq_true rfl, Nat.le_of_ble_eq_true rfl⟩ rfl (Nat.le_of_ble_eq_true rfl) rfl rfl rfl (by decide) rfl (fun _ => Nat.le_of_ble_eq_true rfl) (fun _ => rfl) _ rfl (fun v u hp => ?_)
      obtain rfl := hp
      refine KJ.eqs (st' := .int (fj (4 * (kn p) + 2)) :: []) rfl ?_
      refine KJ.topi (y := (nI (pi (kn p)))) (hj _ hk40).2.2.1 ?_
      refine k_bipush hC 32 dX4_pin_32 (nI 9) (by decide) ?_
      refine n_icmp_ne hC 34 43 dX4_pin_34 (by decide) (by omega) (by omega) (fun h34 => ?_) (fun h34 => ?_)
      · skip
        have hK : pinK (N, T, A, B, to, pi, fe, pl, go, hi, mi, re, lo) p = 0 := kK_0 (not_not_intro hk) (fun z => z.elim (fun y => y hin) (fun y => by have y2 : 9 ≤ pi (kn p) := y; omega))
        refine k_aload_n hC 43 dX4_pin_43 rfl ?_
        refine k_getf hC 44 0 1 dX4_pin_44 rfl rfl inlX4 (by decide) wq_3_4 rfl ?_
        refine k_iconst hC 47 dX4_pin_47 (nI 4) (by decide) ?_
        refine k_iload_n hC 48 dX4_pin_48 rfl ?_
        refine n_imul hC 49 (4 * (kn p)) dX4_pin_49 rfl ?_
        refine k_iconst hC 50 dX4_pin_50 (nI 2) (by decide) ?_
        refine n_iadd hC 51 ((4 * (kn p)) + 2) dX4_pin_51 rfl ?_
        refine k_dup2 hC 52 dX4_pin_52 rfl rfl ?_
        refine n_iald hC 53 1 (nI (pi (kn p))) dX4_pin_53 rfl (by omega) (by decide) (hj _ hk40).2.2.1 ?_
        refine k_iconst hC 54 dX4_pin_54 (nI 1) (by decide) ?_
        refine n_iadd hC 55 ((pi (kn p)) + 1) dX4_pin_55 rfl ?_
        refine n_iast hC 56 1 [((o 0), .inr (4, [.int (nI 0), .ref (o 1), .ref (o 2), .ref (o 3), .ref (o 4)])), ((o 1), .inl (D.1 5, 160, .inl (upd fj ((4 * (kn p)) + 2) (nI ((pi (kn p)) + 1))))), ((o 2), .inl (D.1 5, 24, .inl fs)), ((o 3), .inl (D.1 5, 26, .inl fl)), ((o 4), .inl (D.1 5, 10, .inl fn))] dX4_pin_56 rfl (by omega) (by decide) rfl ?_
        refine k_aload_n hC 57 dX4_pin_57 rfl ?_
        refine k_iload_n hC 58 dX4_pin_58 rfl ?_
        refine k_iconst hC 59 dX4_pin_59 (nI 2) (by decide) ?_
        refine k_callVr hC 60 0 [0, 1, 2, 3, 4] (m_ja l D o (nI 0) (upd fj ((4 * (kn p)) + 2) (nI ((pi (kn p)) + 1))) fs fl fn (kn p) 2 hk40 (by decide)) cw_RX4_30 dX4_pin_60 ⟨Nat.le_of_ble_eq_true rfl, Nat.le_of_ble_eq_true rfl, Nat.le_of_ble_eq_true rfl, Nat.le_of_ble_eq_true rfl⟩ rfl (Nat.le_of_ble_eq_true rfl) rfl rfl rfl (by decide) rfl (fun _ => Nat.le_of_ble_eq_true rfl) (fun _ => rfl) _ rfl (fun v u hp => ?_)
        obtain rfl := hp
        refine KJ.eqs (st' := .int (upd fj ((4 * (kn p)) + 2) (nI ((pi (kn p)) + 1)) (4 * (kn p) + 2)) :: []) rfl ?_
        refine KJ.topi (y := (nI (pi (kn p) + 1))) (upd_s _ _ _) ?_
        exact k_iret hC hE 63 (upd fj ((4 * (kn p)) + 2) (nI ((pi (kn p)) + 1)), fs, fl, fn) dX4_pin_63 rfl (⟨_, rfl, Or.inl ⟨hK, rfl, ⟨⟨r0, r1, r2, r3⟩, hj.upi (kn p) (pi (kn p) + 1), ⟨n0, n1, n2, n3, n4, n5⟩, n6, n7, n8, n9⟩⟩⟩) (congrArg (fun z => ([((o 0), .inr (4, [.int (nI z), .ref (o 1), .ref (o 2), .ref (o 3), .ref (o 4)])), ((o 1), .inl (D.1 5, 160, .inl (upd fj ((4 * (kn p)) + 2) (nI ((pi (kn p)) + 1))))), ((o 2), .inl (D.1 5, 24, .inl fs)), ((o 3), .inl (D.1 5, 26, .inl fl)), ((o 4), .inl (D.1 5, 10, .inl fn))] : va_W)) hK) ⟨Nat.zero_le _, Nat.zero_le _⟩
      · skip
        have hK : pinK (N, T, A, B, to, pi, fe, pl, go, hi, mi, re, lo) p = 2 := kK_2 (not_not_intro hk) (Or.inr (show 9 ≤ pi (kn p) by omega))
        refine k_aload_n hC 37 dX4_pin_37 rfl ?_
        refine k_iconst hC 38 dX4_pin_38 (nI 2) (by decide) ?_
        refine k_callV hC 39 0 [0, 1, 2, 3, 4] (fun (_ : Unit) => [((o 0), .inr (4, [.int (nI 2), .ref (o 1), .ref (o 2), .ref (o 3), .ref (o 4)])), ((o 1), .inl (D.1 5, 160, .inl fj)), ((o 2), .inl (D.1 5, 24, .inl fs)), ((o 3), .inl (D.1 5, 26, .inl fl)), ((o 4), .inl (D.1 5, 10, .inl fn))]) (m_fail l D o (nI 0) fj fs fl fn 2) cw_RX4_104 dX4_pin_39 ⟨Nat.le_of_ble_eq_true rfl, Nat.le_of_ble_eq_true rfl, Nat.le_of_ble_eq_true rfl, Nat.le_of_ble_eq_true rfl⟩ rfl (Nat.le_of_ble_eq_true rfl) rfl rfl rfl (by decide) rfl (fun _ => Nat.le_of_ble_eq_true rfl) (fun _ => rfl) _ rfl (fun v (_ : Unit) hp => ?_)
        obtain rfl := hp
        refine KJ.eqs (st' := .int 0 :: []) rfl ?_
        exact k_iret hC hE 42 (fj, fs, fl, fn) dX4_pin_42 rfl (⟨_, rfl, Or.inr ⟨by rw [hK]; decide, hM0⟩⟩) (congrArg (fun z => ([((o 0), .inr (4, [.int (nI z), .ref (o 1), .ref (o 2), .ref (o 3), .ref (o 4)])), ((o 1), .inl (D.1 5, 160, .inl fj)), ((o 2), .inl (D.1 5, 24, .inl fs)), ((o 3), .inl (D.1 5, 26, .inl fl)), ((o 4), .inl (D.1 5, 10, .inl fn))] : va_W)) hK) ⟨Nat.zero_le _, Nat.zero_le _⟩
  · skip
    have hK : pinK (N, T, A, B, to, pi, fe, pl, go, hi, mi, re, lo) p = 1 := kK_1 (fun z => (hc.mpr z) h9)
    refine k_aload_n hC 12 dX4_pin_12 rfl ?_
    refine k_iconst hC 13 dX4_pin_13 (nI 1) (by decide) ?_
    refine k_callV hC 14 0 [0, 1, 2, 3, 4] (fun (_ : Unit) => [((o 0), .inr (4, [.int (nI 1), .ref (o 1), .ref (o 2), .ref (o 3), .ref (o 4)])), ((o 1), .inl (D.1 5, 160, .inl fj)), ((o 2), .inl (D.1 5, 24, .inl fs)), ((o 3), .inl (D.1 5, 26, .inl fl)), ((o 4), .inl (D.1 5, 10, .inl fn))]) (m_fail l D o (nI 0) fj fs fl fn 1) cw_RX4_104 dX4_pin_14 ⟨Nat.le_of_ble_eq_true rfl, Nat.le_of_ble_eq_true rfl, Nat.le_of_ble_eq_true rfl, Nat.le_of_ble_eq_true rfl⟩ rfl (Nat.le_of_ble_eq_true rfl) rfl rfl rfl (by decide) rfl (fun _ => Nat.le_of_ble_eq_true rfl) (fun _ => rfl) _ rfl (fun v (_ : Unit) hp => ?_)
    obtain rfl := hp
    refine KJ.eqs (st' := .int 0 :: []) rfl ?_
    exact k_iret hC hE 17 (fj, fs, fl, fn) dX4_pin_17 rfl (⟨_, rfl, Or.inr ⟨by rw [hK]; decide, hM0⟩⟩) (congrArg (fun z => ([((o 0), .inr (4, [.int (nI z), .ref (o 1), .ref (o 2), .ref (o 3), .ref (o 4)])), ((o 1), .inl (D.1 5, 160, .inl fj)), ((o 2), .inl (D.1 5, 24, .inl fs)), ((o 3), .inl (D.1 5, 26, .inl fl)), ((o 4), .inl (D.1 5, 10, .inl fn))] : va_W)) hK) ⟨Nat.zero_le _, Nat.zero_le _⟩
set_option maxHeartbeats 4000000 in
set_option maxRecDepth 100000 in
/-- m_unpin -/
theorem m_unpin (l : Launch) (D : va_G) (o : Nat → Nat) (th : Int32) (fj fs fl fn : Nat → Int32) (N T A B : List Nat) (to pi : Nat → Nat) (fe : Nat → Int32) (pl go : Nat) (hi mi re lo : Int32) (p : Int32) (hM : MR (N, T, A, B, to, pi, fe, pl, go, hi, mi, re, lo) (fj, fs, fl, fn)) (hW : WF (N, T, A, B, to, pi, fe, pl, go, hi, mi, re, lo)) (hjp : N.length + T.length ≤ pl) : MU l yX4_unpin cX4_unpin 2 (some .int) 2 43 D [.ref (o 0), .int p] [((o 0), .inr (4, [.int th, .ref (o 1), .ref (o 2), .ref (o 3), .ref (o 4)])), ((o 1), .inl (D.1 5, 160, .inl fj)), ((o 2), .inl (D.1 5, 24, .inl fs)), ((o 3), .inl (D.1 5, 26, .inl fl)), ((o 4), .inl (D.1 5, 10, .inl fn))] (fun v (u : MG) => ∃ x : Int32, v = some (.int x) ∧ ((unpinK (N, T, A, B, to, pi, fe, pl, go, hi, mi, re, lo) p = 0 ∧ x = nI (piS (N, T, A, B, to, pi, fe, pl, go, hi, mi, re, lo) (kn p) - 1) ∧ MR (upPi (N, T, A, B, to, pi, fe, pl, go, hi, mi, re, lo) (kn p) (piS (N, T, A, B, to, pi, fe, pl, go, hi, mi, re, lo) (kn p) - 1)) u) ∨ (unpinK (N, T, A, B, to, pi, fe, pl, go, hi, mi, re, lo) p ≠ 0 ∧ MR (N, T, A, B, to, pi, fe, pl, go, hi, mi, re, lo) u))) (fun u => [((o 0), .inr (4, [.int (nI (unpinK (N, T, A, B, to, pi, fe, pl, go, hi, mi, re, lo) p)), .ref (o 1), .ref (o 2), .ref (o 3), .ref (o 4)])), ((o 1), .inl (D.1 5, 160, .inl u.1)), ((o 2), .inl (D.1 5, 24, .inl u.2.1)), ((o 3), .inl (D.1 5, 26, .inl u.2.2.1)), ((o 4), .inl (D.1 5, 10, .inl u.2.2.2))]) 0 0 := by
  refine MU.enter (by decide) [(0, .ref (o 0)), (1, .int p)] rfl (Nat.le_of_ble_eq_true rfl) (fun G hC hE => ?_)
  have hC : CX G D cX4_unpin RX4 2 := hC
  have hM0 := hM
  have hW0 := hW
  obtain ⟨⟨r0, r1, r2, r3⟩, hj, ⟨n0, n1, n2, n3, n4, n5⟩, n6, n7, n8, n9⟩ := hM
  obtain ⟨kN, kT, kA, kB, nd, len, lA, lB, pp2, pp12, g12, t1, p9⟩ := hW
  have q0 := pc_le pi N
  have q1 := pc_le pi T
  have p9k := p9 (kn p)
  refine k_aload_n hC 0 dX4_unpin_0 rfl ?_
  refine k_iconst hC 1 dX4_unpin_1 (nI 0) (by decide) ?_
  refine k_putf hC 2 (ty0 := tyX4) 0 0 [((o 0), .inr (4, [.int (nI 0), .ref (o 1), .ref (o 2), .ref (o 3), .ref (o 4)])), ((o 1), .inl (D.1 5, 160, .inl fj)), ((o 2), .inl (D.1 5, 24, .inl fs)), ((o 3), .inl (D.1 5, 26, .inl fl)), ((o 4), .inl (D.1 5, 10, .inl fn))] dX4_unpin_2 rfl rfl inlX4 tyX4_ok nmX4 (by decide) wq_8_7 rfl rfl rfl (Nat.le_of_ble_eq_true rfl) rfl ?_
  refine k_iload_n hC 5 dX4_unpin_5 rfl ?_
  refine k_callSr hC 6 [] (m_isKind l D p) cw_RX4_101 dX4_unpin_6 ⟨Nat.le_of_ble_eq_true rfl, Nat.le_of_ble_eq_true rfl, Nat.le_of_ble_eq_true rfl, Nat.le_of_ble_eq_true rfl⟩ rfl (Nat.le_of_ble_eq_true rfl) (by decide) rfl (fun _ => Nat.le_of_ble_eq_true rfl) (fun _ => rfl) _ rfl (fun v u hp => ?_)
  obtain ⟨c, rfl, hc1, hc⟩ := hp
  refine KJ.eqs (st' := .int (nI c) :: []) rfl ?_
  refine n_if_ne hC 9 18 dX4_unpin_9 (by decide) (by omega) (fun h9 => ?_) (fun h9 => ?_)
  · skip
    have hk := hc.mp h9
    obtain ⟨hk40, hp⟩ := hk.k
    rw [← hp]
    refine k_aload_n hC 18 dX4_unpin_18 rfl ?_
    refine k_iload_n hC 19 dX4_unpin_19 rfl ?_
    refine k_callVr hC 20 0 [0, 1, 2, 3, 4] (m_isThere l D o (nI 0) fj fs fl fn N T (kn p) hk40 (hj (kn p) hk40).1) cw_RX4_61 dX4_unpin_20 ⟨Nat.le_of_ble_eq_true rfl, Nat.le_of_ble_eq_true rfl, Nat.le_of_ble_eq_true rfl, Nat.le_of_ble_eq_true rfl⟩ rfl (Nat.le_of_ble_eq_true rfl) rfl rfl rfl (by decide) rfl (fun _ => Nat.le_of_ble_eq_true rfl) (fun _ => rfl) _ rfl (fun v u hp => ?_)
    obtain rfl := hp
    refine KJ.eqs (st' := .int (nI (yn (kn p ∈ N ∨ kn p ∈ T))) :: []) rfl ?_
    refine n_if_eq hC 23 35 dX4_unpin_23 (by decide) (Nat.lt_of_le_of_lt yn_le (by decide)) (fun h23 => ?_) (fun h23 => ?_)
    · skip
      have hK : unpinK (N, T, A, B, to, pi, fe, pl, go, hi, mi, re, lo) p = 2 := kK_2 (not_not_intro hk) (Or.inl (show ¬ (kn p ∈ N ∨ kn p ∈ T) from yn_0.mp h23))
      refine k_aload_n hC 35 dX4_unpin_35 rfl ?_
      refine k_iconst hC 36 dX4_unpin_36 (nI 2) (by decide) ?_
      refine k_callV hC 37 0 [0, 1, 2, 3, 4] (fun (_ : Unit) => [((o 0), .inr (4, [.int (nI 2), .ref (o 1), .ref (o 2), .ref (o 3), .ref (o 4)])), ((o 1), .inl (D.1 5, 160, .inl fj)), ((o 2), .inl (D.1 5, 24, .inl fs)), ((o 3), .inl (D.1 5, 26, .inl fl)), ((o 4), .inl (D.1 5, 10, .inl fn))]) (m_fail l D o (nI 0) fj fs fl fn 2) cw_RX4_104 dX4_unpin_37 ⟨Nat.le_of_ble_eq_true rfl, Nat.le_of_ble_eq_true rfl, Nat.le_of_ble_eq_true rfl, Nat.le_of_ble_eq_true rfl⟩ rfl (Nat.le_of_ble_eq_true rfl) rfl rfl rfl (by decide) rfl (fun _ => Nat.le_of_ble_eq_true rfl) (fun _ => rfl) _ rfl (fun v (_ : Unit) hp => ?_)
      obtain rfl := hp
      refine KJ.eqs (st' := .int 0 :: []) rfl ?_
      exact k_iret hC hE 40 (fj, fs, fl, fn) dX4_unpin_40 rfl (⟨_, rfl, Or.inr ⟨by rw [hK]; decide, hM0⟩⟩) (congrArg (fun z => ([((o 0), .inr (4, [.int (nI z), .ref (o 1), .ref (o 2), .ref (o 3), .ref (o 4)])), ((o 1), .inl (D.1 5, 160, .inl fj)), ((o 2), .inl (D.1 5, 24, .inl fs)), ((o 3), .inl (D.1 5, 26, .inl fl)), ((o 4), .inl (D.1 5, 10, .inl fn))] : va_W)) hK) ⟨Nat.zero_le _, Nat.zero_le _⟩
    · skip
      have hin : kn p ∈ N ∨ kn p ∈ T := Classical.byContradiction (fun z => h23 (yn_f z))
      refine k_aload_n hC 26 dX4_unpin_26 rfl ?_
      refine k_iload_n hC 27 dX4_unpin_27 rfl ?_
      refine k_iconst hC 28 dX4_unpin_28 (nI 2) (by decide) ?_
      refine k_callVr hC 29 0 [0, 1, 2, 3, 4] (m_ja l D o (nI 0) fj fs fl fn (kn p) 2 hk40 (by decide)) cw_RX4_30 dX4_unpin_29 ⟨Nat.le_of_ble_eq_true rfl, Nat.le_of_ble_eq_true rfl, Nat.le_of_ble_eq_true rfl, Nat.le_of_ble_eq_true rfl⟩ rfl (Nat.le_of_ble_eq_true rfl) rfl rfl rfl (by decide) rfl (fun _ => Nat.le_of_ble_eq_true rfl) (fun _ => rfl) _ rfl (fun v u hp => ?_)
      obtain rfl := hp
      refine KJ.eqs (st' := .int (fj (4 * (kn p) + 2)) :: []) rfl ?_
      refine KJ.topi (y := (nI (pi (kn p)))) (hj _ hk40).2.2.1 ?_
      refine n_if_ne hC 32 41 dX4_unpin_32 (by decide) (by omega) (fun h32 => ?_) (fun h32 => ?_)
      · skip
        have hK : unpinK (N, T, A, B, to, pi, fe, pl, go, hi, mi, re, lo) p = 0 := kK_0 (not_not_intro hk) (fun z => z.elim (fun y => y hin) (fun y => by have y2 : pi (kn p) = 0 := y; omega))
        refine k_aload_n hC 41 dX4_unpin_41 rfl ?_
        refine k_getf hC 42 0 1 dX4_unpin_42 rfl rfl inlX4 (by decide) wq_3_4 rfl ?_
        refine k_iconst hC 45 dX4_unpin_45 (nI 4) (by decide) ?_
        refine k_iload_n hC 46 dX4_unpin_46 rfl ?_
        refine n_imul hC 47 (4 * (kn p)) dX4_unpin_47 rfl ?_
        refine k_iconst hC 48 dX4_unpin_48 (nI 2) (by decide) ?_
        refine n_iadd hC 49 ((4 * (kn p)) + 2) dX4_unpin_49 rfl ?_
        refine k_dup2 hC 50 dX4_unpin_50 rfl rfl ?_
        refine n_iald hC 51 1 (nI (pi (kn p))) dX4_unpin_51 rfl (by omega) (by decide) (hj _ hk40).2.2.1 ?_
        refine k_iconst hC 52 dX4_unpin_52 (nI 1) (by decide) ?_
        refine n_isub hC 53 ((pi (kn p)) - 1) dX4_unpin_53 (by omega) rfl ?_
        refine n_iast hC 54 1 [((o 0), .inr (4, [.int (nI 0), .ref (o 1), .ref (o 2), .ref (o 3), .ref (o 4)])), ((o 1), .inl (D.1 5, 160, .inl (upd fj ((4 * (kn p)) + 2) (nI ((pi (kn p)) - 1))))), ((o 2), .inl (D.1 5, 24, .inl fs)), ((o 3), .inl (D.1 5, 26, .inl fl)), ((o 4), .inl (D.1 5, 10, .inl fn))] dX4_unpin_54 rfl (by omega) (by decide) rfl ?_
        refine k_aload_n hC 55 dX4_unpin_55 rfl ?_
        refine k_iload_n hC 56 dX4_unpin_56 rfl ?_
        refine k_iconst hC 57 dX4_unpin_57 (nI 2) (by decide) ?_
        refine k_callVr hC 58 0 [0, 1, 2, 3, 4] (m_ja l D o (nI 0) (upd fj ((4 * (kn p)) + 2) (nI ((pi (kn p)) - 1))) fs fl fn (kn p) 2 hk40 (by decide)) cw_RX4_30 dX4_unpin_58 ⟨Nat.le_of_ble_eq_true rfl, Nat.le_of_ble_eq_true rfl, Nat.le_of_ble_eq_true rfl, Nat.le_of_ble_eq_true rfl⟩ rfl (Nat.le_of_ble_eq_true rfl) rfl rfl rfl (by decide) rfl (fun _ => Nat.le_of_ble_eq_true rfl) (fun _ => rfl) _ rfl (fun v u hp => ?_)
        obtain rfl := hp
        refine KJ.eqs (st' := .int (upd fj ((4 * (kn p)) + 2) (nI ((pi (kn p)) - 1)) (4 * (kn p) + 2)) :: []) rfl ?_
        refine KJ.topi (y := (nI (pi (kn p) - 1))) (upd_s _ _ _) ?_
        exact k_iret hC hE 61 (upd fj ((4 * (kn p)) + 2) (nI ((pi (kn p)) - 1)), fs, fl, fn) dX4_unpin_61 rfl (⟨_, rfl, Or.inl ⟨hK, rfl, ⟨⟨r0, r1, r2, r3⟩, hj.upi (kn p) (pi (kn p) - 1), ⟨n0, n1, n2, n3, n4, n5⟩, n6, n7, n8, n9⟩⟩⟩) (congrArg (fun z => ([((o 0), .inr (4, [.int (nI z), .ref (o 1), .ref (o 2), .ref (o 3), .ref (o 4)])), ((o 1), .inl (D.1 5, 160, .inl (upd fj ((4 * (kn p)) + 2) (nI ((pi (kn p)) - 1))))), ((o 2), .inl (D.1 5, 24, .inl fs)), ((o 3), .inl (D.1 5, 26, .inl fl)), ((o 4), .inl (D.1 5, 10, .inl fn))] : va_W)) hK) ⟨Nat.zero_le _, Nat.zero_le _⟩
      · skip
        have hK : unpinK (N, T, A, B, to, pi, fe, pl, go, hi, mi, re, lo) p = 2 := kK_2 (not_not_intro hk) (Or.inr h32)
        refine k_aload_n hC 35 dX4_unpin_35 rfl ?_
        refine k_iconst hC 36 dX4_unpin_36 (nI 2) (by decide) ?_
        refine k_callV hC 37 0 [0, 1, 2, 3, 4] (fun (_ : Unit) => [((o 0), .inr (4, [.int (nI 2), .ref (o 1), .ref (o 2), .ref (o 3), .ref (o 4)])), ((o 1), .inl (D.1 5, 160, .inl fj)), ((o 2), .inl (D.1 5, 24, .inl fs)), ((o 3), .inl (D.1 5, 26, .inl fl)), ((o 4), .inl (D.1 5, 10, .inl fn))]) (m_fail l D o (nI 0) fj fs fl fn 2) cw_RX4_104 dX4_unpin_37 ⟨Nat.le_of_ble_eq_true rfl, Nat.le_of_ble_eq_true rfl, Nat.le_of_ble_eq_true rfl, Nat.le_of_ble_eq_true rfl⟩ rfl (Nat.le_of_ble_eq_true rfl) rfl rfl rfl (by decide) rfl (fun _ => Nat.le_of_ble_eq_true rfl) (fun _ => rfl) _ rfl (fun v (_ : Unit) hp => ?_)
        obtain rfl := hp
        refine KJ.eqs (st' := .int 0 :: []) rfl ?_
        exact k_iret hC hE 40 (fj, fs, fl, fn) dX4_unpin_40 rfl (⟨_, rfl, Or.inr ⟨by rw [hK]; decide, hM0⟩⟩) (congrArg (fun z => ([((o 0), .inr (4, [.int (nI z), .ref (o 1), .ref (o 2), .ref (o 3), .ref (o 4)])), ((o 1), .inl (D.1 5, 160, .inl fj)), ((o 2), .inl (D.1 5, 24, .inl fs)), ((o 3), .inl (D.1 5, 26, .inl fl)), ((o 4), .inl (D.1 5, 10, .inl fn))] : va_W)) hK) ⟨Nat.zero_le _, Nat.zero_le _⟩
  · skip
    have hK : unpinK (N, T, A, B, to, pi, fe, pl, go, hi, mi, re, lo) p = 1 := kK_1 (fun z => (hc.mpr z) h9)
    refine k_aload_n hC 12 dX4_unpin_12 rfl ?_
    refine k_iconst hC 13 dX4_unpin_13 (nI 1) (by decide) ?_
    refine k_callV hC 14 0 [0, 1, 2, 3, 4] (fun (_ : Unit) => [((o 0), .inr (4, [.int (nI 1), .ref (o 1), .ref (o 2), .ref (o 3), .ref (o 4)])), ((o 1), .inl (D.1 5, 160, .inl fj)), ((o 2), .inl (D.1 5, 24, .inl fs)), ((o 3), .inl (D.1 5, 26, .inl fl)), ((o 4), .inl (D.1 5, 10, .inl fn))]) (m_fail l D o (nI 0) fj fs fl fn 1) cw_RX4_104 dX4_unpin_14 ⟨Nat.le_of_ble_eq_true rfl, Nat.le_of_ble_eq_true rfl, Nat.le_of_ble_eq_true rfl, Nat.le_of_ble_eq_true rfl⟩ rfl (Nat.le_of_ble_eq_true rfl) rfl rfl rfl (by decide) rfl (fun _ => Nat.le_of_ble_eq_true rfl) (fun _ => rfl) _ rfl (fun v (_ : Unit) hp => ?_)
    obtain rfl := hp
    refine KJ.eqs (st' := .int 0 :: []) rfl ?_
    exact k_iret hC hE 17 (fj, fs, fl, fn) dX4_unpin_17 rfl (⟨_, rfl, Or.inr ⟨by rw [hK]; decide, hM0⟩⟩) (congrArg (fun z => ([((o 0), .inr (4, [.int (nI z), .ref (o 1), .ref (o 2), .ref (o 3), .ref (o 4)])), ((o 1), .inl (D.1 5, 160, .inl fj)), ((o 2), .inl (D.1 5, 24, .inl fs)), ((o 3), .inl (D.1 5, 26, .inl fl)), ((o 4), .inl (D.1 5, 10, .inl fn))] : va_W)) hK) ⟨Nat.zero_le _, Nat.zero_le _⟩
set_option maxHeartbeats 4000000 in
set_option maxRecDepth 100000 in
/-- m_eat -/
theorem m_eat (l : Launch) (D : va_G) (o : Nat → Nat) (th : Int32) (fj fs fl fn : Nat → Int32) (N T A B : List Nat) (to pi : Nat → Nat) (fe : Nat → Int32) (pl go : Nat) (hi mi re lo : Int32) (p : Int32) (hM : MR (N, T, A, B, to, pi, fe, pl, go, hi, mi, re, lo) (fj, fs, fl, fn)) (hW : WF (N, T, A, B, to, pi, fe, pl, go, hi, mi, re, lo)) (hjp : N.length + T.length ≤ pl) : MU l yX4_eat cX4_eat 2 (some .int) 2 62 D [.ref (o 0), .int p] [((o 0), .inr (4, [.int th, .ref (o 1), .ref (o 2), .ref (o 3), .ref (o 4)])), ((o 1), .inl (D.1 5, 160, .inl fj)), ((o 2), .inl (D.1 5, 24, .inl fs)), ((o 3), .inl (D.1 5, 26, .inl fl)), ((o 4), .inl (D.1 5, 10, .inl fn))] (fun v (u : MG) => ∃ x : Int32, v = some (.int x) ∧ ((eatK (N, T, A, B, to, pi, fe, pl, go, hi, mi, re, lo) p = 0 ∧ x = feS (N, T, A, B, to, pi, fe, pl, go, hi, mi, re, lo) (kn p) ∧ MR (eatS (N, T, A, B, to, pi, fe, pl, go, hi, mi, re, lo) (kn p)) u) ∨ (eatK (N, T, A, B, to, pi, fe, pl, go, hi, mi, re, lo) p ≠ 0 ∧ MR (N, T, A, B, to, pi, fe, pl, go, hi, mi, re, lo) u))) (fun u => [((o 0), .inr (4, [.int (nI (eatK (N, T, A, B, to, pi, fe, pl, go, hi, mi, re, lo) p)), .ref (o 1), .ref (o 2), .ref (o 3), .ref (o 4)])), ((o 1), .inl (D.1 5, 160, .inl u.1)), ((o 2), .inl (D.1 5, 24, .inl u.2.1)), ((o 3), .inl (D.1 5, 26, .inl u.2.2.1)), ((o 4), .inl (D.1 5, 10, .inl u.2.2.2))]) 0 0 := by
  refine MU.enter (by decide) [(0, .ref (o 0)), (1, .int p)] rfl (Nat.le_of_ble_eq_true rfl) (fun G hC hE => ?_)
  have hC : CX G D cX4_eat RX4 2 := hC
  have hM0 := hM
  have hW0 := hW
  obtain ⟨⟨r0, r1, r2, r3⟩, hj, ⟨n0, n1, n2, n3, n4, n5⟩, n6, n7, n8, n9⟩ := hM
  obtain ⟨kN, kT, kA, kB, nd, len, lA, lB, pp2, pp12, g12, t1, p9⟩ := hW
  have q0 := pc_le pi N
  have q1 := pc_le pi T
  have p9k := p9 (kn p)
  refine k_aload_n hC 0 dX4_eat_0 rfl ?_
  refine k_iconst hC 1 dX4_eat_1 (nI 0) (by decide) ?_
  refine k_putf hC 2 (ty0 := tyX4) 0 0 [((o 0), .inr (4, [.int (nI 0), .ref (o 1), .ref (o 2), .ref (o 3), .ref (o 4)])), ((o 1), .inl (D.1 5, 160, .inl fj)), ((o 2), .inl (D.1 5, 24, .inl fs)), ((o 3), .inl (D.1 5, 26, .inl fl)), ((o 4), .inl (D.1 5, 10, .inl fn))] dX4_eat_2 rfl rfl inlX4 tyX4_ok nmX4 (by decide) wq_8_7 rfl rfl rfl (Nat.le_of_ble_eq_true rfl) rfl ?_
  refine k_iload_n hC 5 dX4_eat_5 rfl ?_
  refine k_callSr hC 6 [] (m_isKind l D p) cw_RX4_101 dX4_eat_6 ⟨Nat.le_of_ble_eq_true rfl, Nat.le_of_ble_eq_true rfl, Nat.le_of_ble_eq_true rfl, Nat.le_of_ble_eq_true rfl⟩ rfl (Nat.le_of_ble_eq_true rfl) (by decide) rfl (fun _ => Nat.le_of_ble_eq_true rfl) (fun _ => rfl) _ rfl (fun v u hp => ?_)
  obtain ⟨c, rfl, hc1, hc⟩ := hp
  refine KJ.eqs (st' := .int (nI c) :: []) rfl ?_
  refine n_if_ne hC 9 18 dX4_eat_9 (by decide) (by omega) (fun h9 => ?_) (fun h9 => ?_)
  · skip
    have hk := hc.mp h9
    obtain ⟨hk40, hp⟩ := hk.k
    rw [← hp]
    refine k_aload_n hC 18 dX4_eat_18 rfl ?_
    refine k_iload_n hC 19 dX4_eat_19 rfl ?_
    refine k_callVr hC 20 0 [0, 1, 2, 3, 4] (m_isThere l D o (nI 0) fj fs fl fn N T (kn p) hk40 (hj (kn p) hk40).1) cw_RX4_61 dX4_eat_20 ⟨Nat.le_of_ble_eq_true rfl, Nat.le_of_ble_eq_true rfl, Nat.le_of_ble_eq_true rfl, Nat.le_of_ble_eq_true rfl⟩ rfl (Nat.le_of_ble_eq_true rfl) rfl rfl rfl (by decide) rfl (fun _ => Nat.le_of_ble_eq_true rfl) (fun _ => rfl) _ rfl (fun v u hp => ?_)
    obtain rfl := hp
    refine KJ.eqs (st' := .int (nI (yn (kn p ∈ N ∨ kn p ∈ T))) :: []) rfl ?_
    refine n_if_eq hC 23 35 dX4_eat_23 (by decide) (Nat.lt_of_le_of_lt yn_le (by decide)) (fun h23 => ?_) (fun h23 => ?_)
    · skip
      have hK : eatK (N, T, A, B, to, pi, fe, pl, go, hi, mi, re, lo) p = 2 := kK_2 (not_not_intro hk) (Or.inl (show ¬ (kn p ∈ N ∨ kn p ∈ T) from yn_0.mp h23))
      refine k_aload_n hC 35 dX4_eat_35 rfl ?_
      refine k_iconst hC 36 dX4_eat_36 (nI 2) (by decide) ?_
      refine k_callV hC 37 0 [0, 1, 2, 3, 4] (fun (_ : Unit) => [((o 0), .inr (4, [.int (nI 2), .ref (o 1), .ref (o 2), .ref (o 3), .ref (o 4)])), ((o 1), .inl (D.1 5, 160, .inl fj)), ((o 2), .inl (D.1 5, 24, .inl fs)), ((o 3), .inl (D.1 5, 26, .inl fl)), ((o 4), .inl (D.1 5, 10, .inl fn))]) (m_fail l D o (nI 0) fj fs fl fn 2) cw_RX4_104 dX4_eat_37 ⟨Nat.le_of_ble_eq_true rfl, Nat.le_of_ble_eq_true rfl, Nat.le_of_ble_eq_true rfl, Nat.le_of_ble_eq_true rfl⟩ rfl (Nat.le_of_ble_eq_true rfl) rfl rfl rfl (by decide) rfl (fun _ => Nat.le_of_ble_eq_true rfl) (fun _ => rfl) _ rfl (fun v (_ : Unit) hp => ?_)
      obtain rfl := hp
      refine KJ.eqs (st' := .int 0 :: []) rfl ?_
      exact k_iret hC hE 40 (fj, fs, fl, fn) dX4_eat_40 rfl (⟨_, rfl, Or.inr ⟨by rw [hK]; decide, hM0⟩⟩) (congrArg (fun z => ([((o 0), .inr (4, [.int (nI z), .ref (o 1), .ref (o 2), .ref (o 3), .ref (o 4)])), ((o 1), .inl (D.1 5, 160, .inl fj)), ((o 2), .inl (D.1 5, 24, .inl fs)), ((o 3), .inl (D.1 5, 26, .inl fl)), ((o 4), .inl (D.1 5, 10, .inl fn))] : va_W)) hK) ⟨Nat.zero_le _, Nat.zero_le _⟩
    · skip
      have hin : kn p ∈ N ∨ kn p ∈ T := Classical.byContradiction (fun z => h23 (yn_f z))
      refine k_aload_n hC 26 dX4_eat_26 rfl ?_
      refine k_iload_n hC 27 dX4_eat_27 rfl ?_
      refine k_iconst hC 28 dX4_eat_28 (nI 2) (by decide) ?_
      refine k_callVr hC 29 0 [0, 1, 2, 3, 4] (m_ja l D o (nI 0) fj fs fl fn (kn p) 2 hk40 (by decide)) cw_RX4_30 dX4_eat_29 ⟨Nat.le_of_ble_eq_true rfl, Nat.le_of_ble_eq_true rfl, Nat.le_of_ble_eq_true rfl, Nat.le_of_ble_eq_true rfl⟩ rfl (Nat.le_of_ble_eq_true rfl) rfl rfl rfl (by decide) rfl (fun _ => Nat.le_of_ble_eq_true rfl) (fun _ => rfl) _ rfl (fun v u hp => ?_)
      obtain rfl := hp
      refine KJ.eqs (st' := .int (fj (4 * (kn p) + 2)) :: []) rfl ?_
      refine KJ.topi (y := (nI (pi (kn p)))) (hj _ hk40).2.2.1 ?_
      refine n_if_le hC 32 41 dX4_eat_32 (by decide) (by omega) (fun h32 => ?_) (fun h32 => ?_)
      · skip
        have hK : eatK (N, T, A, B, to, pi, fe, pl, go, hi, mi, re, lo) p = 0 := kK_0 (not_not_intro hk) (fun z => z.elim (fun y => y hin) (fun y => by have y2 : 0 < pi (kn p) := y; omega))
        have ndN : N.Nodup := (List.nodup_append.mp nd).1
        have ndT : T.Nodup := (List.nodup_append.mp nd).2.1
        rcases (show (kn p ∈ N ∧ kn p ∉ T) ∨ (kn p ∉ N ∧ kn p ∈ T) from by
          have dj := (List.nodup_append.mp nd).2.2
          by_cases hm : kn p ∈ N
          · exact Or.inl ⟨hm, fun z => dj _ hm _ z rfl⟩
          · exact Or.inr ⟨hm, hin.resolve_left hm⟩) with ⟨hN, hT⟩ | ⟨hN, hT⟩
        · skip
          refine k_aload_n hC 41 dX4_eat_41 rfl ?_
          refine k_aload_n hC 42 dX4_eat_42 rfl ?_
          refine k_iload_n hC 43 dX4_eat_43 rfl ?_
          refine k_iconst hC 44 dX4_eat_44 (nI 0) (by decide) ?_
          refine k_callVr hC 45 0 [0, 1, 2, 3, 4] (m_ja l D o (nI 0) fj fs fl fn (kn p) 0 hk40 (by decide)) cw_RX4_30 dX4_eat_45 ⟨Nat.le_of_ble_eq_true rfl, Nat.le_of_ble_eq_true rfl, Nat.le_of_ble_eq_true rfl, Nat.le_of_ble_eq_true rfl⟩ rfl (Nat.le_of_ble_eq_true rfl) rfl rfl rfl (by decide) rfl (fun _ => Nat.le_of_ble_eq_true rfl) (fun _ => rfl) _ rfl (fun v u hp => ?_)
          obtain rfl := hp
          refine KJ.eqs (st' := .int (fj (4 * (kn p) + 0)) :: .ref (o 0) :: []) rfl ?_
          refine KJ.topi (y := (nI 0)) ((hj _ hk40).1.trans (sf_0 hN)) ?_
          refine k_aload_n hC 48 dX4_eat_48 rfl ?_
          refine k_iload_n hC 49 dX4_eat_49 rfl ?_
          refine k_callVr hC 50 0 [0, 1, 2, 3, 4] (m_placeOf l D o (nI 0) fj fs fl fn 0 N (kn p) (by decide) (by omega) kN r0 hk40 hN ((hj _ hk40).1.trans (sf_0 hN))) cw_RX4_120 dX4_eat_50 ⟨Nat.le_of_ble_eq_true rfl, Nat.le_of_ble_eq_true rfl, Nat.le_of_ble_eq_true rfl, Nat.le_of_ble_eq_true rfl⟩ rfl (Nat.le_of_ble_eq_true rfl) rfl rfl rfl (by decide) rfl (fun _ => Nat.le_of_ble_eq_true rfl) (fun _ => rfl) _ rfl (fun v u hp => ?_)
          obtain rfl := hp
          refine KJ.eqs (st' := .int (nI (N.idxOf (kn p))) :: .int (nI 0) :: .ref (o 0) :: []) rfl ?_
          refine k_callV hC 53 0 [0, 1, 2, 3, 4] (fun (x0 : (Nat → Int32) × (Nat → Int32)) => [((o 0), .inr (4, [.int (nI 0), .ref (o 1), .ref (o 2), .ref (o 3), .ref (o 4)])), ((o 1), .inl (D.1 5, 160, .inl fj)), ((o 2), .inl (D.1 5, 24, .inl x0.1)), ((o 3), .inl (D.1 5, 26, .inl fl)), ((o 4), .inl (D.1 5, 10, .inl x0.2))]) (m_takeOutR l D o (nI 0) fj fs fl fn 0 (N.idxOf (kn p)) N (by decide) n6 (List.idxOf_lt_length_of_mem hN) (by omega) r0) cw_RX4_73 dX4_eat_53 ⟨Nat.le_of_ble_eq_true rfl, Nat.le_of_ble_eq_true rfl, Nat.le_of_ble_eq_true rfl, Nat.le_of_ble_eq_true rfl⟩ rfl (Nat.le_of_ble_eq_true rfl) rfl rfl rfl (by decide) rfl (fun _ => Nat.le_of_ble_eq_true rfl) (fun _ => rfl) _ rfl (fun v (x0 : (Nat → Int32) × (Nat → Int32)) hp => ?_)
          obtain ⟨rfl, x1, x2, x3, x4⟩ := hp
          refine KJ.eqs (st' := []) rfl ?_
          refine k_aload_n hC 56 dX4_eat_56 rfl ?_
          refine k_getf hC 57 0 1 dX4_eat_57 rfl rfl inlX4 (by decide) wq_3_4 rfl ?_
          refine k_iconst hC 60 dX4_eat_60 (nI 4) (by decide) ?_
          refine k_iload_n hC 61 dX4_eat_61 rfl ?_
          refine n_imul hC 62 (4 * (kn p)) dX4_eat_62 rfl ?_
          refine k_iconst hC 63 dX4_eat_63 (nI 0) (by decide) ?_
          refine n_iadd hC 64 (4 * (kn p)) dX4_eat_64 (by omega) ?_
          refine k_iconst hC 65 dX4_eat_65 (-1) (by decide) ?_
          refine n_iast hC 66 1 [((o 0), .inr (4, [.int (nI 0), .ref (o 1), .ref (o 2), .ref (o 3), .ref (o 4)])), ((o 1), .inl (D.1 5, 160, .inl (upd fj (4 * (kn p)) (-1)))), ((o 2), .inl (D.1 5, 24, .inl x0.1)), ((o 3), .inl (D.1 5, 26, .inl fl)), ((o 4), .inl (D.1 5, 10, .inl x0.2))] dX4_eat_66 rfl (by omega) (by decide) rfl ?_
          refine k_aload_n hC 67 dX4_eat_67 rfl ?_
          refine k_iload_n hC 68 dX4_eat_68 rfl ?_
          refine k_iconst hC 69 dX4_eat_69 (nI 3) (by decide) ?_
          refine k_callVr hC 70 0 [0, 1, 2, 3, 4] (m_ja l D o (nI 0) (upd fj (4 * (kn p)) (-1)) x0.1 fl x0.2 (kn p) 3 hk40 (by decide)) cw_RX4_30 dX4_eat_70 ⟨Nat.le_of_ble_eq_true rfl, Nat.le_of_ble_eq_true rfl, Nat.le_of_ble_eq_true rfl, Nat.le_of_ble_eq_true rfl⟩ rfl (Nat.le_of_ble_eq_true rfl) rfl rfl rfl (by decide) rfl (fun _ => Nat.le_of_ble_eq_true rfl) (fun _ => rfl) _ rfl (fun v u hp => ?_)
          obtain rfl := hp
          refine KJ.eqs (st' := .int (upd fj (4 * (kn p)) (-1) (4 * (kn p) + 3)) :: []) rfl ?_
          refine KJ.topi (y := (fe (kn p))) ((upd_n (by omega)).trans (hj _ hk40).2.2.2) ?_
          have e : eatS (N, T, A, B, to, pi, fe, pl, go, hi, mi, re, lo) (kn p) = ((N.eraseIdx (N.idxOf (kn p))), T, A, B, to, pi, fe, pl, go, hi, mi, re, lo) := by
            show (ea N _, ea T _, _) = _
            rw [ea, if_pos hN, ea, if_neg hT]
          exact k_iret hC hE 73 (upd fj (4 * (kn p)) (-1), x0.1, fl, x0.2) dX4_eat_73 rfl (⟨_, rfl, Or.inl ⟨hK, rfl, e ▸ (show MR _ _ from ⟨⟨x1, (RowL_keep r1 (fun i hi => x3 _ (by omega))), r2, r3⟩, (hj.sh (kn p) (-1)).as (sf_put (sf_m (not_cut ndN) hT) (fun y hy => mem_cut hy) (fun y hy => Iff.rfl)), ⟨(x4 0 (by decide)).trans n0, (x4 1 (by decide)).trans n1, (x4 2 (by decide)).trans n2, (x4 3 (by decide)).trans n3, (x4 4 (by decide)).trans n4, (x4 5 (by decide)).trans n5⟩, x2, (x4 7 (by decide)).trans n7, (x4 8 (by decide)).trans n8, (x4 9 (by decide)).trans n9⟩)⟩⟩) (congrArg (fun z => ([((o 0), .inr (4, [.int (nI z), .ref (o 1), .ref (o 2), .ref (o 3), .ref (o 4)])), ((o 1), .inl (D.1 5, 160, .inl (upd fj (4 * (kn p)) (-1)))), ((o 2), .inl (D.1 5, 24, .inl x0.1)), ((o 3), .inl (D.1 5, 26, .inl fl)), ((o 4), .inl (D.1 5, 10, .inl x0.2))] : va_W)) hK) ⟨Nat.zero_le _, Nat.zero_le _⟩
        · skip
          refine k_aload_n hC 41 dX4_eat_41 rfl ?_
          refine k_aload_n hC 42 dX4_eat_42 rfl ?_
          refine k_iload_n hC 43 dX4_eat_43 rfl ?_
          refine k_iconst hC 44 dX4_eat_44 (nI 0) (by decide) ?_
          refine k_callVr hC 45 0 [0, 1, 2, 3, 4] (m_ja l D o (nI 0) fj fs fl fn (kn p) 0 hk40 (by decide)) cw_RX4_30 dX4_eat_45 ⟨Nat.le_of_ble_eq_true rfl, Nat.le_of_ble_eq_true rfl, Nat.le_of_ble_eq_true rfl, Nat.le_of_ble_eq_true rfl⟩ rfl (Nat.le_of_ble_eq_true rfl) rfl rfl rfl (by decide) rfl (fun _ => Nat.le_of_ble_eq_true rfl) (fun _ => rfl) _ rfl (fun v u hp => ?_)
          obtain rfl := hp
          refine KJ.eqs (st' := .int (fj (4 * (kn p) + 0)) :: .ref (o 0) :: []) rfl ?_
          refine KJ.topi (y := (nI 1)) ((hj _ hk40).1.trans (sf_1 hN hT)) ?_
          refine k_aload_n hC 48 dX4_eat_48 rfl ?_
          refine k_iload_n hC 49 dX4_eat_49 rfl ?_
          refine k_callVr hC 50 0 [0, 1, 2, 3, 4] (m_placeOf l D o (nI 0) fj fs fl fn 1 T (kn p) (by decide) (by omega) kT r1 hk40 hT ((hj _ hk40).1.trans (sf_1 hN hT))) cw_RX4_120 dX4_eat_50 ⟨Nat.le_of_ble_eq_true rfl, Nat.le_of_ble_eq_true rfl, Nat.le_of_ble_eq_true rfl, Nat.le_of_ble_eq_true rfl⟩ rfl (Nat.le_of_ble_eq_true rfl) rfl rfl rfl (by decide) rfl (fun _ => Nat.le_of_ble_eq_true rfl) (fun _ => rfl) _ rfl (fun v u hp => ?_)
          obtain rfl := hp
          refine KJ.eqs (st' := .int (nI (T.idxOf (kn p))) :: .int (nI 1) :: .ref (o 0) :: []) rfl ?_
          refine k_callV hC 53 0 [0, 1, 2, 3, 4] (fun (x0 : (Nat → Int32) × (Nat → Int32)) => [((o 0), .inr (4, [.int (nI 0), .ref (o 1), .ref (o 2), .ref (o 3), .ref (o 4)])), ((o 1), .inl (D.1 5, 160, .inl fj)), ((o 2), .inl (D.1 5, 24, .inl x0.1)), ((o 3), .inl (D.1 5, 26, .inl fl)), ((o 4), .inl (D.1 5, 10, .inl x0.2))]) (m_takeOutR l D o (nI 0) fj fs fl fn 1 (T.idxOf (kn p)) T (by decide) n7 (List.idxOf_lt_length_of_mem hT) (by omega) r1) cw_RX4_73 dX4_eat_53 ⟨Nat.le_of_ble_eq_true rfl, Nat.le_of_ble_eq_true rfl, Nat.le_of_ble_eq_true rfl, Nat.le_of_ble_eq_true rfl⟩ rfl (Nat.le_of_ble_eq_true rfl) rfl rfl rfl (by decide) rfl (fun _ => Nat.le_of_ble_eq_true rfl) (fun _ => rfl) _ rfl (fun v (x0 : (Nat → Int32) × (Nat → Int32)) hp => ?_)
          obtain ⟨rfl, x1, x2, x3, x4⟩ := hp
          refine KJ.eqs (st' := []) rfl ?_
          refine k_aload_n hC 56 dX4_eat_56 rfl ?_
          refine k_getf hC 57 0 1 dX4_eat_57 rfl rfl inlX4 (by decide) wq_3_4 rfl ?_
          refine k_iconst hC 60 dX4_eat_60 (nI 4) (by decide) ?_
          refine k_iload_n hC 61 dX4_eat_61 rfl ?_
          refine n_imul hC 62 (4 * (kn p)) dX4_eat_62 rfl ?_
          refine k_iconst hC 63 dX4_eat_63 (nI 0) (by decide) ?_
          refine n_iadd hC 64 (4 * (kn p)) dX4_eat_64 (by omega) ?_
          refine k_iconst hC 65 dX4_eat_65 (-1) (by decide) ?_
          refine n_iast hC 66 1 [((o 0), .inr (4, [.int (nI 0), .ref (o 1), .ref (o 2), .ref (o 3), .ref (o 4)])), ((o 1), .inl (D.1 5, 160, .inl (upd fj (4 * (kn p)) (-1)))), ((o 2), .inl (D.1 5, 24, .inl x0.1)), ((o 3), .inl (D.1 5, 26, .inl fl)), ((o 4), .inl (D.1 5, 10, .inl x0.2))] dX4_eat_66 rfl (by omega) (by decide) rfl ?_
          refine k_aload_n hC 67 dX4_eat_67 rfl ?_
          refine k_iload_n hC 68 dX4_eat_68 rfl ?_
          refine k_iconst hC 69 dX4_eat_69 (nI 3) (by decide) ?_
          refine k_callVr hC 70 0 [0, 1, 2, 3, 4] (m_ja l D o (nI 0) (upd fj (4 * (kn p)) (-1)) x0.1 fl x0.2 (kn p) 3 hk40 (by decide)) cw_RX4_30 dX4_eat_70 ⟨Nat.le_of_ble_eq_true rfl, Nat.le_of_ble_eq_true rfl, Nat.le_of_ble_eq_true rfl, Nat.le_of_ble_eq_true rfl⟩ rfl (Nat.le_of_ble_eq_true rfl) rfl rfl rfl (by decide) rfl (fun _ => Nat.le_of_ble_eq_true rfl) (fun _ => rfl) _ rfl (fun v u hp => ?_)
          obtain rfl := hp
          refine KJ.eqs (st' := .int (upd fj (4 * (kn p)) (-1) (4 * (kn p) + 3)) :: []) rfl ?_
          refine KJ.topi (y := (fe (kn p))) ((upd_n (by omega)).trans (hj _ hk40).2.2.2) ?_
          have e : eatS (N, T, A, B, to, pi, fe, pl, go, hi, mi, re, lo) (kn p) = (N, (T.eraseIdx (T.idxOf (kn p))), A, B, to, pi, fe, pl, go, hi, mi, re, lo) := by
            show (ea N _, ea T _, _) = _
            rw [ea, if_neg hN, ea, if_pos hT]
          exact k_iret hC hE 73 (upd fj (4 * (kn p)) (-1), x0.1, fl, x0.2) dX4_eat_73 rfl (⟨_, rfl, Or.inl ⟨hK, rfl, e ▸ (show MR _ _ from ⟨⟨(RowL_keep r0 (fun i hi => x3 _ (by omega))), x1, r2, r3⟩, (hj.sh (kn p) (-1)).as (sf_put (sf_m hN (not_cut ndT)) (fun y hy => Iff.rfl) (fun y hy => mem_cut hy)), ⟨(x4 0 (by decide)).trans n0, (x4 1 (by decide)).trans n1, (x4 2 (by decide)).trans n2, (x4 3 (by decide)).trans n3, (x4 4 (by decide)).trans n4, (x4 5 (by decide)).trans n5⟩, (x4 6 (by decide)).trans n6, x2, (x4 8 (by decide)).trans n8, (x4 9 (by decide)).trans n9⟩)⟩⟩) (congrArg (fun z => ([((o 0), .inr (4, [.int (nI z), .ref (o 1), .ref (o 2), .ref (o 3), .ref (o 4)])), ((o 1), .inl (D.1 5, 160, .inl (upd fj (4 * (kn p)) (-1)))), ((o 2), .inl (D.1 5, 24, .inl x0.1)), ((o 3), .inl (D.1 5, 26, .inl fl)), ((o 4), .inl (D.1 5, 10, .inl x0.2))] : va_W)) hK) ⟨Nat.zero_le _, Nat.zero_le _⟩
      · skip
        have hK : eatK (N, T, A, B, to, pi, fe, pl, go, hi, mi, re, lo) p = 2 := kK_2 (not_not_intro hk) (Or.inr h32)
        refine k_aload_n hC 35 dX4_eat_35 rfl ?_
        refine k_iconst hC 36 dX4_eat_36 (nI 2) (by decide) ?_
        refine k_callV hC 37 0 [0, 1, 2, 3, 4] (fun (_ : Unit) => [((o 0), .inr (4, [.int (nI 2), .ref (o 1), .ref (o 2), .ref (o 3), .ref (o 4)])), ((o 1), .inl (D.1 5, 160, .inl fj)), ((o 2), .inl (D.1 5, 24, .inl fs)), ((o 3), .inl (D.1 5, 26, .inl fl)), ((o 4), .inl (D.1 5, 10, .inl fn))]) (m_fail l D o (nI 0) fj fs fl fn 2) cw_RX4_104 dX4_eat_37 ⟨Nat.le_of_ble_eq_true rfl, Nat.le_of_ble_eq_true rfl, Nat.le_of_ble_eq_true rfl, Nat.le_of_ble_eq_true rfl⟩ rfl (Nat.le_of_ble_eq_true rfl) rfl rfl rfl (by decide) rfl (fun _ => Nat.le_of_ble_eq_true rfl) (fun _ => rfl) _ rfl (fun v (_ : Unit) hp => ?_)
        obtain rfl := hp
        refine KJ.eqs (st' := .int 0 :: []) rfl ?_
        exact k_iret hC hE 40 (fj, fs, fl, fn) dX4_eat_40 rfl (⟨_, rfl, Or.inr ⟨by rw [hK]; decide, hM0⟩⟩) (congrArg (fun z => ([((o 0), .inr (4, [.int (nI z), .ref (o 1), .ref (o 2), .ref (o 3), .ref (o 4)])), ((o 1), .inl (D.1 5, 160, .inl fj)), ((o 2), .inl (D.1 5, 24, .inl fs)), ((o 3), .inl (D.1 5, 26, .inl fl)), ((o 4), .inl (D.1 5, 10, .inl fn))] : va_W)) hK) ⟨Nat.zero_le _, Nat.zero_le _⟩
  · skip
    have hK : eatK (N, T, A, B, to, pi, fe, pl, go, hi, mi, re, lo) p = 1 := kK_1 (fun z => (hc.mpr z) h9)
    refine k_aload_n hC 12 dX4_eat_12 rfl ?_
    refine k_iconst hC 13 dX4_eat_13 (nI 1) (by decide) ?_
    refine k_callV hC 14 0 [0, 1, 2, 3, 4] (fun (_ : Unit) => [((o 0), .inr (4, [.int (nI 1), .ref (o 1), .ref (o 2), .ref (o 3), .ref (o 4)])), ((o 1), .inl (D.1 5, 160, .inl fj)), ((o 2), .inl (D.1 5, 24, .inl fs)), ((o 3), .inl (D.1 5, 26, .inl fl)), ((o 4), .inl (D.1 5, 10, .inl fn))]) (m_fail l D o (nI 0) fj fs fl fn 1) cw_RX4_104 dX4_eat_14 ⟨Nat.le_of_ble_eq_true rfl, Nat.le_of_ble_eq_true rfl, Nat.le_of_ble_eq_true rfl, Nat.le_of_ble_eq_true rfl⟩ rfl (Nat.le_of_ble_eq_true rfl) rfl rfl rfl (by decide) rfl (fun _ => Nat.le_of_ble_eq_true rfl) (fun _ => rfl) _ rfl (fun v (_ : Unit) hp => ?_)
    obtain rfl := hp
    refine KJ.eqs (st' := .int 0 :: []) rfl ?_
    exact k_iret hC hE 17 (fj, fs, fl, fn) dX4_eat_17 rfl (⟨_, rfl, Or.inr ⟨by rw [hK]; decide, hM0⟩⟩) (congrArg (fun z => ([((o 0), .inr (4, [.int (nI z), .ref (o 1), .ref (o 2), .ref (o 3), .ref (o 4)])), ((o 1), .inl (D.1 5, 160, .inl fj)), ((o 2), .inl (D.1 5, 24, .inl fs)), ((o 3), .inl (D.1 5, 26, .inl fl)), ((o 4), .inl (D.1 5, 10, .inl fn))] : va_W)) hK) ⟨Nat.zero_le _, Nat.zero_le _⟩
set_option maxHeartbeats 4000000 in
set_option maxRecDepth 100000 in
/-- m_setPlaces -/
theorem m_setPlaces (l : Launch) (D : va_G) (o : Nat → Nat) (th : Int32) (fj fs fl fn : Nat → Int32) (N T A B : List Nat) (to pi : Nat → Nat) (fe : Nat → Int32) (pl go : Nat) (hi mi re lo : Int32) (p : Int32) (hM : MR (N, T, A, B, to, pi, fe, pl, go, hi, mi, re, lo) (fj, fs, fl, fn)) (hW : WF (N, T, A, B, to, pi, fe, pl, go, hi, mi, re, lo)) (hjp : N.length + T.length ≤ pl) : MU l yX4_setPlaces cX4_setPlaces 3 (some .int) 6 149 D [.ref (o 0), .int p] [((o 0), .inr (4, [.int th, .ref (o 1), .ref (o 2), .ref (o 3), .ref (o 4)])), ((o 1), .inl (D.1 5, 160, .inl fj)), ((o 2), .inl (D.1 5, 24, .inl fs)), ((o 3), .inl (D.1 5, 26, .inl fl)), ((o 4), .inl (D.1 5, 10, .inl fn))] (fun v (u : MG) => ∃ x : Int32, v = some (.int x) ∧ ((setPlacesK (N, T, A, B, to, pi, fe, pl, go, hi, mi, re, lo) p = 0 ∧ x = nI (plS (N, T, A, B, to, pi, fe, pl, go, hi, mi, re, lo)) ∧ MR (rsz (kn p) (N, T, A, B, to, pi, fe, pl, go, hi, mi, re, lo)) u) ∨ (setPlacesK (N, T, A, B, to, pi, fe, pl, go, hi, mi, re, lo) p ≠ 0 ∧ MR (N, T, A, B, to, pi, fe, pl, go, hi, mi, re, lo) u))) (fun u => [((o 0), .inr (4, [.int (nI (setPlacesK (N, T, A, B, to, pi, fe, pl, go, hi, mi, re, lo) p)), .ref (o 1), .ref (o 2), .ref (o 3), .ref (o 4)])), ((o 1), .inl (D.1 5, 160, .inl u.1)), ((o 2), .inl (D.1 5, 24, .inl u.2.1)), ((o 3), .inl (D.1 5, 26, .inl u.2.2.1)), ((o 4), .inl (D.1 5, 10, .inl u.2.2.2))]) 0 0 := by
  refine MU.enter (by decide) [(0, .ref (o 0)), (1, .int p)] rfl (Nat.le_of_ble_eq_true rfl) (fun G hC hE => ?_)
  have hC : CX G D cX4_setPlaces RX4 3 := hC
  have hM0 := hM
  have hW0 := hW
  obtain ⟨⟨r0, r1, r2, r3⟩, hj, ⟨n0, n1, n2, n3, n4, n5⟩, n6, n7, n8, n9⟩ := hM
  obtain ⟨kN, kT, kA, kB, nd, len, lA, lB, pp2, pp12, g12, t1, p9⟩ := hW
  have q0 := pc_le pi N
  have q1 := pc_le pi T
  refine k_aload_n hC 0 dX4_setPlaces_0 rfl ?_
  refine k_iconst hC 1 dX4_setPlaces_1 (nI 0) (by decide) ?_
  refine k_putf hC 2 (ty0 := tyX4) 0 0 [((o 0), .inr (4, [.int (nI 0), .ref (o 1), .ref (o 2), .ref (o 3), .ref (o 4)])), ((o 1), .inl (D.1 5, 160, .inl fj)), ((o 2), .inl (D.1 5, 24, .inl fs)), ((o 3), .inl (D.1 5, 26, .inl fl)), ((o 4), .inl (D.1 5, 10, .inl fn))] dX4_setPlaces_2 rfl rfl inlX4 tyX4_ok nmX4 (by decide) wq_8_7 rfl rfl rfl (Nat.le_of_ble_eq_true rfl) rfl ?_
  refine k_iload_n hC 5 dX4_setPlaces_5 rfl ?_
  refine k_iconst hC 6 dX4_setPlaces_6 (nI 2) (by decide) ?_
  refine k_bipush hC 7 dX4_setPlaces_7 (nI 12) (by decide) ?_
  refine k_callSr hC 9 [] (m_isIn l D p (nI 2) (nI 12)) cw_RX4_26 dX4_setPlaces_9 ⟨Nat.le_of_ble_eq_true rfl, Nat.le_of_ble_eq_true rfl, Nat.le_of_ble_eq_true rfl, Nat.le_of_ble_eq_true rfl⟩ rfl (Nat.le_of_ble_eq_true rfl) (by decide) rfl (fun _ => Nat.le_of_ble_eq_true rfl) (fun _ => rfl) _ rfl (fun v u hp => ?_)
  obtain ⟨c, rfl, hc1, hc⟩ := hp
  refine KJ.eqs (st' := .int (nI c) :: []) rfl ?_
  refine n_if_ne hC 12 21 dX4_setPlaces_12 (by decide) (by omega) (fun h12 => ?_) (fun h12 => ?_)
  · skip
    obtain ⟨q1, q2⟩ := hc.mp h12
    obtain ⟨b1, b2, hp⟩ := nn_of (by decide) (by decide) q1 q2
    rw [← hp]
    refine k_aload_n hC 21 dX4_setPlaces_21 rfl ?_
    refine k_callVr hC 22 0 [0, 1, 2, 3, 4] (m_pinned l D o (nI 0) fj fs fl fn N T to pi fe hj nd kN kT p9) cw_RX4_86 dX4_setPlaces_22 ⟨Nat.le_of_ble_eq_true rfl, Nat.le_of_ble_eq_true rfl, Nat.le_of_ble_eq_true rfl, Nat.le_of_ble_eq_true rfl⟩ rfl (Nat.le_of_ble_eq_true rfl) rfl rfl rfl (by decide) rfl (fun _ => Nat.le_of_ble_eq_true rfl) (fun _ => rfl) _ rfl (fun v u hp => ?_)
    obtain rfl := hp
    refine KJ.eqs (st' := .int (nI (pc pi N + pc pi T)) :: []) rfl ?_
    refine k_iload_n hC 25 dX4_setPlaces_25 rfl ?_
    refine n_icmp_le hC 26 35 dX4_setPlaces_26 (by decide) (by omega) (by omega) (fun h26 => ?_) (fun h26 => ?_)
    · skip
      have hK : setPlacesK (N, T, A, B, to, pi, fe, pl, go, hi, mi, re, lo) p = 0 := kK_0 (fun z => z.elim q1 (fun y => y q2)) (Nat.not_lt.mpr h26)
      refine k_aload_n hC 35 dX4_setPlaces_35 rfl ?_
      refine k_getf hC 36 0 4 dX4_setPlaces_36 rfl rfl inlX4 (by decide) wq_3_7 rfl ?_
      refine k_iconst hC 39 dX4_setPlaces_39 (nI 0) (by decide) ?_
      refine n_iald hC 40 4 (nI pl) dX4_setPlaces_40 rfl (by omega) (by decide) n0 ?_
      refine k_istore_n hC 41 2 [(2, .int (nI pl)), (0, .ref (o 0)), (1, .int (nI (kn p)))] dX4_setPlaces_41 rfl (by decide) rfl ?_
      refine k_aload_n hC 42 dX4_setPlaces_42 rfl ?_
      refine k_iload_n hC 43 dX4_setPlaces_43 rfl ?_
      refine k_callV hC 44 0 [0, 1, 2, 3, 4] (fun (y0 : MG) => [((o 0), .inr (4, [.int (nI 0), .ref (o 1), .ref (o 2), .ref (o 3), .ref (o 4)])), ((o 1), .inl (D.1 5, 160, .inl y0.1)), ((o 2), .inl (D.1 5, 24, .inl y0.2.1)), ((o 3), .inl (D.1 5, 26, .inl y0.2.2.1)), ((o 4), .inl (D.1 5, 10, .inl y0.2.2.2))]) (m_place l D o (nI 0) fj fs fl fn N T A B to pi fe pl go hi mi re lo (kn p) _ hM0 hW0 b1 b2 h26 rfl) cw_RX4_123 dX4_setPlaces_44 ⟨Nat.le_of_ble_eq_true rfl, Nat.le_of_ble_eq_true rfl, Nat.le_of_ble_eq_true rfl, Nat.le_of_ble_eq_true rfl⟩ rfl (Nat.le_of_ble_eq_true rfl) rfl rfl rfl (by decide) rfl (fun _ => Nat.le_of_ble_eq_true rfl) (fun _ => rfl) _ rfl (fun v (y0 : MG) hp => ?_)
      obtain ⟨rfl, hM2⟩ := hp
      refine KJ.eqs (st' := []) rfl ?_
      refine k_iload_n hC 47 dX4_setPlaces_47 rfl ?_
      exact k_iret hC hE 48 (y0.1, y0.2.1, y0.2.2.1, y0.2.2.2) dX4_setPlaces_48 rfl (⟨_, rfl, Or.inl ⟨hK, rfl, hM2⟩⟩) (congrArg (fun z => ([((o 0), .inr (4, [.int (nI z), .ref (o 1), .ref (o 2), .ref (o 3), .ref (o 4)])), ((o 1), .inl (D.1 5, 160, .inl y0.1)), ((o 2), .inl (D.1 5, 24, .inl y0.2.1)), ((o 3), .inl (D.1 5, 26, .inl y0.2.2.1)), ((o 4), .inl (D.1 5, 10, .inl y0.2.2.2))] : va_W)) hK) ⟨Nat.zero_le _, Nat.zero_le _⟩
    · skip
      have hK : setPlacesK (N, T, A, B, to, pi, fe, pl, go, hi, mi, re, lo) p = 2 := kK_2 (fun z => z.elim q1 (fun y => y q2)) h26
      refine k_aload_n hC 29 dX4_setPlaces_29 rfl ?_
      refine k_iconst hC 30 dX4_setPlaces_30 (nI 2) (by decide) ?_
      refine k_callV hC 31 0 [0, 1, 2, 3, 4] (fun (_ : Unit) => [((o 0), .inr (4, [.int (nI 2), .ref (o 1), .ref (o 2), .ref (o 3), .ref (o 4)])), ((o 1), .inl (D.1 5, 160, .inl fj)), ((o 2), .inl (D.1 5, 24, .inl fs)), ((o 3), .inl (D.1 5, 26, .inl fl)), ((o 4), .inl (D.1 5, 10, .inl fn))]) (m_fail l D o (nI 0) fj fs fl fn 2) cw_RX4_104 dX4_setPlaces_31 ⟨Nat.le_of_ble_eq_true rfl, Nat.le_of_ble_eq_true rfl, Nat.le_of_ble_eq_true rfl, Nat.le_of_ble_eq_true rfl⟩ rfl (Nat.le_of_ble_eq_true rfl) rfl rfl rfl (by decide) rfl (fun _ => Nat.le_of_ble_eq_true rfl) (fun _ => rfl) _ rfl (fun v (_ : Unit) hp => ?_)
      obtain rfl := hp
      refine KJ.eqs (st' := .int 0 :: []) rfl ?_
      exact k_iret hC hE 34 (fj, fs, fl, fn) dX4_setPlaces_34 rfl (⟨_, rfl, Or.inr ⟨by rw [hK]; decide, hM0⟩⟩) (congrArg (fun z => ([((o 0), .inr (4, [.int (nI z), .ref (o 1), .ref (o 2), .ref (o 3), .ref (o 4)])), ((o 1), .inl (D.1 5, 160, .inl fj)), ((o 2), .inl (D.1 5, 24, .inl fs)), ((o 3), .inl (D.1 5, 26, .inl fl)), ((o 4), .inl (D.1 5, 10, .inl fn))] : va_W)) hK) ⟨Nat.zero_le _, Nat.zero_le _⟩
  · skip
    have hK : setPlacesK (N, T, A, B, to, pi, fe, pl, go, hi, mi, re, lo) p = 1 := kK_1 (in_no hc h12)
    refine k_aload_n hC 15 dX4_setPlaces_15 rfl ?_
    refine k_iconst hC 16 dX4_setPlaces_16 (nI 1) (by decide) ?_
    refine k_callV hC 17 0 [0, 1, 2, 3, 4] (fun (_ : Unit) => [((o 0), .inr (4, [.int (nI 1), .ref (o 1), .ref (o 2), .ref (o 3), .ref (o 4)])), ((o 1), .inl (D.1 5, 160, .inl fj)), ((o 2), .inl (D.1 5, 24, .inl fs)), ((o 3), .inl (D.1 5, 26, .inl fl)), ((o 4), .inl (D.1 5, 10, .inl fn))]) (m_fail l D o (nI 0) fj fs fl fn 1) cw_RX4_104 dX4_setPlaces_17 ⟨Nat.le_of_ble_eq_true rfl, Nat.le_of_ble_eq_true rfl, Nat.le_of_ble_eq_true rfl, Nat.le_of_ble_eq_true rfl⟩ rfl (Nat.le_of_ble_eq_true rfl) rfl rfl rfl (by decide) rfl (fun _ => Nat.le_of_ble_eq_true rfl) (fun _ => rfl) _ rfl (fun v (_ : Unit) hp => ?_)
    obtain rfl := hp
    refine KJ.eqs (st' := .int 0 :: []) rfl ?_
    exact k_iret hC hE 20 (fj, fs, fl, fn) dX4_setPlaces_20 rfl (⟨_, rfl, Or.inr ⟨by rw [hK]; decide, hM0⟩⟩) (congrArg (fun z => ([((o 0), .inr (4, [.int (nI z), .ref (o 1), .ref (o 2), .ref (o 3), .ref (o 4)])), ((o 1), .inl (D.1 5, 160, .inl fj)), ((o 2), .inl (D.1 5, 24, .inl fs)), ((o 3), .inl (D.1 5, 26, .inl fl)), ((o 4), .inl (D.1 5, 10, .inl fn))] : va_W)) hK) ⟨Nat.zero_le _, Nat.zero_le _⟩
set_option maxHeartbeats 4000000 in
set_option maxRecDepth 100000 in
/-- m_setGoal -/
theorem m_setGoal (l : Launch) (D : va_G) (o : Nat → Nat) (th : Int32) (fj fs fl fn : Nat → Int32) (N T A B : List Nat) (to pi : Nat → Nat) (fe : Nat → Int32) (pl go : Nat) (hi mi re lo : Int32) (p : Int32) (hM : MR (N, T, A, B, to, pi, fe, pl, go, hi, mi, re, lo) (fj, fs, fl, fn)) (hW : WF (N, T, A, B, to, pi, fe, pl, go, hi, mi, re, lo)) (hjp : N.length + T.length ≤ pl) : MU l yX4_setGoal cX4_setGoal 3 (some .int) 1 22 D [.ref (o 0), .int p] [((o 0), .inr (4, [.int th, .ref (o 1), .ref (o 2), .ref (o 3), .ref (o 4)])), ((o 1), .inl (D.1 5, 160, .inl fj)), ((o 2), .inl (D.1 5, 24, .inl fs)), ((o 3), .inl (D.1 5, 26, .inl fl)), ((o 4), .inl (D.1 5, 10, .inl fn))] (fun v (u : MG) => ∃ x : Int32, v = some (.int x) ∧ ((setGoalK (N, T, A, B, to, pi, fe, pl, go, hi, mi, re, lo) p = 0 ∧ x = nI (goS (N, T, A, B, to, pi, fe, pl, go, hi, mi, re, lo)) ∧ MR (goTo (N, T, A, B, to, pi, fe, pl, go, hi, mi, re, lo) (kn p)) u) ∨ (setGoalK (N, T, A, B, to, pi, fe, pl, go, hi, mi, re, lo) p ≠ 0 ∧ MR (N, T, A, B, to, pi, fe, pl, go, hi, mi, re, lo) u))) (fun u => [((o 0), .inr (4, [.int (nI (setGoalK (N, T, A, B, to, pi, fe, pl, go, hi, mi, re, lo) p)), .ref (o 1), .ref (o 2), .ref (o 3), .ref (o 4)])), ((o 1), .inl (D.1 5, 160, .inl u.1)), ((o 2), .inl (D.1 5, 24, .inl u.2.1)), ((o 3), .inl (D.1 5, 26, .inl u.2.2.1)), ((o 4), .inl (D.1 5, 10, .inl u.2.2.2))]) 0 0 := by
  refine MU.enter (by decide) [(0, .ref (o 0)), (1, .int p)] rfl (Nat.le_of_ble_eq_true rfl) (fun G hC hE => ?_)
  have hC : CX G D cX4_setGoal RX4 3 := hC
  have hM0 := hM
  have hW0 := hW
  obtain ⟨⟨r0, r1, r2, r3⟩, hj, ⟨n0, n1, n2, n3, n4, n5⟩, n6, n7, n8, n9⟩ := hM
  obtain ⟨kN, kT, kA, kB, nd, len, lA, lB, pp2, pp12, g12, t1, p9⟩ := hW
  have q0 := pc_le pi N
  have q1 := pc_le pi T
  refine k_aload_n hC 0 dX4_setGoal_0 rfl ?_
  refine k_iconst hC 1 dX4_setGoal_1 (nI 0) (by decide) ?_
  refine k_putf hC 2 (ty0 := tyX4) 0 0 [((o 0), .inr (4, [.int (nI 0), .ref (o 1), .ref (o 2), .ref (o 3), .ref (o 4)])), ((o 1), .inl (D.1 5, 160, .inl fj)), ((o 2), .inl (D.1 5, 24, .inl fs)), ((o 3), .inl (D.1 5, 26, .inl fl)), ((o 4), .inl (D.1 5, 10, .inl fn))] dX4_setGoal_2 rfl rfl inlX4 tyX4_ok nmX4 (by decide) wq_8_7 rfl rfl rfl (Nat.le_of_ble_eq_true rfl) rfl ?_
  refine k_iload_n hC 5 dX4_setGoal_5 rfl ?_
  refine k_iconst hC 6 dX4_setGoal_6 (nI 0) (by decide) ?_
  refine k_aload_n hC 7 dX4_setGoal_7 rfl ?_
  refine k_getf hC 8 0 4 dX4_setGoal_8 rfl rfl inlX4 (by decide) wq_3_7 rfl ?_
  refine k_iconst hC 11 dX4_setGoal_11 (nI 0) (by decide) ?_
  refine n_iald hC 12 4 (nI pl) dX4_setGoal_12 rfl (by omega) (by decide) n0 ?_
  refine k_callSr hC 13 [] (m_isIn l D p (nI 0) (nI pl)) cw_RX4_26 dX4_setGoal_13 ⟨Nat.le_of_ble_eq_true rfl, Nat.le_of_ble_eq_true rfl, Nat.le_of_ble_eq_true rfl, Nat.le_of_ble_eq_true rfl⟩ rfl (Nat.le_of_ble_eq_true rfl) (by decide) rfl (fun _ => Nat.le_of_ble_eq_true rfl) (fun _ => rfl) _ rfl (fun v u hp => ?_)
  obtain ⟨c, rfl, hc1, hc⟩ := hp
  refine KJ.eqs (st' := .int (nI c) :: []) rfl ?_
  refine n_if_ne hC 16 25 dX4_setGoal_16 (by decide) (by omega) (fun h16 => ?_) (fun h16 => ?_)
  · skip
    obtain ⟨q1, q2⟩ := hc.mp h16
    obtain ⟨b1, b2, hp⟩ := nn_of (m := 0) (by decide) (by omega) q1 q2
    rw [← hp]
    have q1 : ¬ p < 0 := fun z => q1 (by rw [nI_0]; exact z)
    have hK : setGoalK (N, T, A, B, to, pi, fe, pl, go, hi, mi, re, lo) p = 0 := kK_0 (fun z => z.elim q1 (fun y => y q2)) id
    refine k_aload_n hC 25 dX4_setGoal_25 rfl ?_
    refine k_getf hC 26 0 4 dX4_setGoal_26 rfl rfl inlX4 (by decide) wq_3_7 rfl ?_
    refine k_iconst hC 29 dX4_setGoal_29 (nI 1) (by decide) ?_
    refine n_iald hC 30 4 (nI go) dX4_setGoal_30 rfl (by omega) (by decide) n1 ?_
    refine k_istore_n hC 31 2 [(2, .int (nI go)), (0, .ref (o 0)), (1, .int (nI (kn p)))] dX4_setGoal_31 rfl (by decide) rfl ?_
    refine k_aload_n hC 32 dX4_setGoal_32 rfl ?_
    refine k_getf hC 33 0 4 dX4_setGoal_33 rfl rfl inlX4 (by decide) wq_3_7 rfl ?_
    refine k_iconst hC 36 dX4_setGoal_36 (nI 1) (by decide) ?_
    refine k_iload_n hC 37 dX4_setGoal_37 rfl ?_
    refine n_iast hC 38 4 [((o 0), .inr (4, [.int (nI 0), .ref (o 1), .ref (o 2), .ref (o 3), .ref (o 4)])), ((o 1), .inl (D.1 5, 160, .inl fj)), ((o 2), .inl (D.1 5, 24, .inl fs)), ((o 3), .inl (D.1 5, 26, .inl fl)), ((o 4), .inl (D.1 5, 10, .inl (upd fn 1 (nI (kn p)))))] dX4_setGoal_38 rfl (by omega) (by decide) rfl ?_
    refine k_iload_n hC 39 dX4_setGoal_39 rfl ?_
    exact k_iret hC hE 40 (fj, fs, fl, upd fn 1 (nI (kn p))) dX4_setGoal_40 rfl (⟨_, rfl, Or.inl ⟨hK, rfl, ⟨⟨r0, r1, r2, r3⟩, hj, ⟨(upd_n (by decide)).trans n0, upd_s _ _ _, (upd_n (by decide)).trans n2, (upd_n (by decide)).trans n3, (upd_n (by decide)).trans n4, (upd_n (by decide)).trans n5⟩, (upd_n (by decide)).trans n6, (upd_n (by decide)).trans n7, (upd_n (by decide)).trans n8, (upd_n (by decide)).trans n9⟩⟩⟩) (congrArg (fun z => ([((o 0), .inr (4, [.int (nI z), .ref (o 1), .ref (o 2), .ref (o 3), .ref (o 4)])), ((o 1), .inl (D.1 5, 160, .inl fj)), ((o 2), .inl (D.1 5, 24, .inl fs)), ((o 3), .inl (D.1 5, 26, .inl fl)), ((o 4), .inl (D.1 5, 10, .inl (upd fn 1 (nI (kn p)))))] : va_W)) hK) ⟨Nat.zero_le _, Nat.zero_le _⟩
  · skip
    have hK : setGoalK (N, T, A, B, to, pi, fe, pl, go, hi, mi, re, lo) p = 1 := kK_1 ((in_no hc h16).imp (fun z => by rw [← nI_0]; exact z) id)
    refine k_aload_n hC 19 dX4_setGoal_19 rfl ?_
    refine k_iconst hC 20 dX4_setGoal_20 (nI 1) (by decide) ?_
    refine k_callV hC 21 0 [0, 1, 2, 3, 4] (fun (_ : Unit) => [((o 0), .inr (4, [.int (nI 1), .ref (o 1), .ref (o 2), .ref (o 3), .ref (o 4)])), ((o 1), .inl (D.1 5, 160, .inl fj)), ((o 2), .inl (D.1 5, 24, .inl fs)), ((o 3), .inl (D.1 5, 26, .inl fl)), ((o 4), .inl (D.1 5, 10, .inl fn))]) (m_fail l D o (nI 0) fj fs fl fn 1) cw_RX4_104 dX4_setGoal_21 ⟨Nat.le_of_ble_eq_true rfl, Nat.le_of_ble_eq_true rfl, Nat.le_of_ble_eq_true rfl, Nat.le_of_ble_eq_true rfl⟩ rfl (Nat.le_of_ble_eq_true rfl) rfl rfl rfl (by decide) rfl (fun _ => Nat.le_of_ble_eq_true rfl) (fun _ => rfl) _ rfl (fun v (_ : Unit) hp => ?_)
    obtain rfl := hp
    refine KJ.eqs (st' := .int 0 :: []) rfl ?_
    exact k_iret hC hE 24 (fj, fs, fl, fn) dX4_setGoal_24 rfl (⟨_, rfl, Or.inr ⟨by rw [hK]; decide, hM0⟩⟩) (congrArg (fun z => ([((o 0), .inr (4, [.int (nI z), .ref (o 1), .ref (o 2), .ref (o 3), .ref (o 4)])), ((o 1), .inl (D.1 5, 160, .inl fj)), ((o 2), .inl (D.1 5, 24, .inl fs)), ((o 3), .inl (D.1 5, 26, .inl fl)), ((o 4), .inl (D.1 5, 10, .inl fn))] : va_W)) hK) ⟨Nat.zero_le _, Nat.zero_le _⟩
set_option maxHeartbeats 4000000 in
set_option maxRecDepth 100000 in
/-- m_would -/
theorem m_would (l : Launch) (D : va_G) (o : Nat → Nat) (th : Int32) (fj fs fl fn : Nat → Int32) (N T A B : List Nat) (to pi : Nat → Nat) (fe : Nat → Int32) (pl go : Nat) (hi mi re lo : Int32) (p : Int32) (hM : MR (N, T, A, B, to, pi, fe, pl, go, hi, mi, re, lo) (fj, fs, fl, fn)) (hW : WF (N, T, A, B, to, pi, fe, pl, go, hi, mi, re, lo)) (hjp : N.length + T.length ≤ pl) : MU l yX4_would cX4_would 2 (some .int) 4 87 D [.ref (o 0), .int p] [((o 0), .inr (4, [.int th, .ref (o 1), .ref (o 2), .ref (o 3), .ref (o 4)])), ((o 1), .inl (D.1 5, 160, .inl fj)), ((o 2), .inl (D.1 5, 24, .inl fs)), ((o 3), .inl (D.1 5, 26, .inl fl)), ((o 4), .inl (D.1 5, 10, .inl fn))] (fun v (u : MG) => ∃ x : Int32, v = some (.int x) ∧ ((wouldK p = 0 ∧ x = ocI (oc (N, T, A, B, to, pi, fe, pl, go, hi, mi, re, lo) (kn p)) ∧ MR ((N, T, A, B, to, pi, fe, pl, go, hi, mi, re, lo)) u) ∨ (wouldK p ≠ 0 ∧ MR (N, T, A, B, to, pi, fe, pl, go, hi, mi, re, lo) u))) (fun u => [((o 0), .inr (4, [.int (nI (wouldK p)), .ref (o 1), .ref (o 2), .ref (o 3), .ref (o 4)])), ((o 1), .inl (D.1 5, 160, .inl u.1)), ((o 2), .inl (D.1 5, 24, .inl u.2.1)), ((o 3), .inl (D.1 5, 26, .inl u.2.2.1)), ((o 4), .inl (D.1 5, 10, .inl u.2.2.2))]) 0 0 := by
  refine MU.enter (by decide) [(0, .ref (o 0)), (1, .int p)] rfl (Nat.le_of_ble_eq_true rfl) (fun G hC hE => ?_)
  have hC : CX G D cX4_would RX4 2 := hC
  have hM0 := hM
  have hW0 := hW
  obtain ⟨⟨r0, r1, r2, r3⟩, hj, ⟨n0, n1, n2, n3, n4, n5⟩, n6, n7, n8, n9⟩ := hM
  obtain ⟨kN, kT, kA, kB, nd, len, lA, lB, pp2, pp12, g12, t1, p9⟩ := hW
  have q0 := pc_le pi N
  have q1 := pc_le pi T
  refine k_aload_n hC 0 dX4_would_0 rfl ?_
  refine k_iconst hC 1 dX4_would_1 (nI 0) (by decide) ?_
  refine k_putf hC 2 (ty0 := tyX4) 0 0 [((o 0), .inr (4, [.int (nI 0), .ref (o 1), .ref (o 2), .ref (o 3), .ref (o 4)])), ((o 1), .inl (D.1 5, 160, .inl fj)), ((o 2), .inl (D.1 5, 24, .inl fs)), ((o 3), .inl (D.1 5, 26, .inl fl)), ((o 4), .inl (D.1 5, 10, .inl fn))] dX4_would_2 rfl rfl inlX4 tyX4_ok nmX4 (by decide) wq_8_7 rfl rfl rfl (Nat.le_of_ble_eq_true rfl) rfl ?_
  refine k_iload_n hC 5 dX4_would_5 rfl ?_
  refine k_callSr hC 6 [] (m_isKind l D p) cw_RX4_101 dX4_would_6 ⟨Nat.le_of_ble_eq_true rfl, Nat.le_of_ble_eq_true rfl, Nat.le_of_ble_eq_true rfl, Nat.le_of_ble_eq_true rfl⟩ rfl (Nat.le_of_ble_eq_true rfl) (by decide) rfl (fun _ => Nat.le_of_ble_eq_true rfl) (fun _ => rfl) _ rfl (fun v u hp => ?_)
  obtain ⟨c, rfl, hc1, hc⟩ := hp
  refine KJ.eqs (st' := .int (nI c) :: []) rfl ?_
  refine n_if_ne hC 9 18 dX4_would_9 (by decide) (by omega) (fun h9 => ?_) (fun h9 => ?_)
  · skip
    have hk := hc.mp h9
    obtain ⟨hk40, hp⟩ := hk.k
    rw [← hp]
    refine k_aload_n hC 18 dX4_would_18 rfl ?_
    refine k_iload_n hC 19 dX4_would_19 rfl ?_
    refine k_callVr hC 20 0 [0, 1, 2, 3, 4] (m_canFetch l D o (nI 0) fj fs fl fn N T A B to pi fe pl go hi mi re lo (kn p) hM0 hW0 hk40) cw_RX4_107 dX4_would_20 ⟨Nat.le_of_ble_eq_true rfl, Nat.le_of_ble_eq_true rfl, Nat.le_of_ble_eq_true rfl, Nat.le_of_ble_eq_true rfl⟩ rfl (Nat.le_of_ble_eq_true rfl) rfl rfl rfl (by decide) rfl (fun _ => Nat.le_of_ble_eq_true rfl) (fun _ => rfl) _ rfl (fun v u hp => ?_)
    obtain rfl := hp
    refine KJ.eqs (st' := .int (nI (yn (oc (N, T, A, B, to, pi, fe, pl, go, hi, mi, re, lo) (kn p) ≠ 4))) :: []) rfl ?_
    refine n_if_eq hC 23 34 dX4_would_23 (by decide) (Nat.lt_of_le_of_lt yn_le (by decide)) (fun h23 => ?_) (fun h23 => ?_)
    · skip
      have h4 : oc (N, T, A, B, to, pi, fe, pl, go, hi, mi, re, lo) (kn p) = 4 := Classical.byContradiction (fun z => yn_0.mp h23 z)
      have hK : wouldK p = 0 := kK_0 (not_not_intro hk) id
      refine k_bipush hC 34 dX4_would_34 (-9) (by decide) ?_
      exact k_iret hC hE 36 (fj, fs, fl, fn) dX4_would_36 rfl (⟨_, rfl, Or.inl ⟨hK, by rw [h4, ocI_4], hM0⟩⟩) (congrArg (fun z => ([((o 0), .inr (4, [.int (nI z), .ref (o 1), .ref (o 2), .ref (o 3), .ref (o 4)])), ((o 1), .inl (D.1 5, 160, .inl fj)), ((o 2), .inl (D.1 5, 24, .inl fs)), ((o 3), .inl (D.1 5, 26, .inl fl)), ((o 4), .inl (D.1 5, 10, .inl fn))] : va_W)) hK) ⟨Nat.zero_le _, Nat.zero_le _⟩
    · skip
      have h4 : oc (N, T, A, B, to, pi, fe, pl, go, hi, mi, re, lo) (kn p) ≠ 4 := Classical.byContradiction (fun z => h23 (yn_f z))
      have hK : wouldK p = 0 := kK_0 (not_not_intro hk) id
      refine k_aload_n hC 26 dX4_would_26 rfl ?_
      refine k_iload_n hC 27 dX4_would_27 rfl ?_
      refine k_callVr hC 28 0 [0, 1, 2, 3, 4] (m_told l D o (nI 0) fj fs fl fn N T A B to pi fe pl go hi mi re lo (kn p) hM0 hW0 hk40 h4) cw_RX4_142 dX4_would_28 ⟨Nat.le_of_ble_eq_true rfl, Nat.le_of_ble_eq_true rfl, Nat.le_of_ble_eq_true rfl, Nat.le_of_ble_eq_true rfl⟩ rfl (Nat.le_of_ble_eq_true rfl) rfl rfl rfl (by decide) rfl (fun _ => Nat.le_of_ble_eq_true rfl) (fun _ => rfl) _ rfl (fun v u hp => ?_)
      obtain rfl := hp
      refine KJ.eqs (st' := .int (nI (oc (N, T, A, B, to, pi, fe, pl, go, hi, mi, re, lo) (kn p))) :: []) rfl ?_
      refine k_goto hC 31 36 dX4_would_31 (by decide) ?_
      exact k_iret hC hE 36 (fj, fs, fl, fn) dX4_would_36 rfl (⟨_, rfl, Or.inl ⟨hK, (ocI_n h4).symm, hM0⟩⟩) (congrArg (fun z => ([((o 0), .inr (4, [.int (nI z), .ref (o 1), .ref (o 2), .ref (o 3), .ref (o 4)])), ((o 1), .inl (D.1 5, 160, .inl fj)), ((o 2), .inl (D.1 5, 24, .inl fs)), ((o 3), .inl (D.1 5, 26, .inl fl)), ((o 4), .inl (D.1 5, 10, .inl fn))] : va_W)) hK) ⟨Nat.zero_le _, Nat.zero_le _⟩
  · skip
    have hK : wouldK p = 1 := kK_1 (fun z => (hc.mpr z) h9)
    refine k_aload_n hC 12 dX4_would_12 rfl ?_
    refine k_iconst hC 13 dX4_would_13 (nI 1) (by decide) ?_
    refine k_callV hC 14 0 [0, 1, 2, 3, 4] (fun (_ : Unit) => [((o 0), .inr (4, [.int (nI 1), .ref (o 1), .ref (o 2), .ref (o 3), .ref (o 4)])), ((o 1), .inl (D.1 5, 160, .inl fj)), ((o 2), .inl (D.1 5, 24, .inl fs)), ((o 3), .inl (D.1 5, 26, .inl fl)), ((o 4), .inl (D.1 5, 10, .inl fn))]) (m_fail l D o (nI 0) fj fs fl fn 1) cw_RX4_104 dX4_would_14 ⟨Nat.le_of_ble_eq_true rfl, Nat.le_of_ble_eq_true rfl, Nat.le_of_ble_eq_true rfl, Nat.le_of_ble_eq_true rfl⟩ rfl (Nat.le_of_ble_eq_true rfl) rfl rfl rfl (by decide) rfl (fun _ => Nat.le_of_ble_eq_true rfl) (fun _ => rfl) _ rfl (fun v (_ : Unit) hp => ?_)
    obtain rfl := hp
    refine KJ.eqs (st' := .int 0 :: []) rfl ?_
    exact k_iret hC hE 17 (fj, fs, fl, fn) dX4_would_17 rfl (⟨_, rfl, Or.inr ⟨by rw [hK]; decide, hM0⟩⟩) (congrArg (fun z => ([((o 0), .inr (4, [.int (nI z), .ref (o 1), .ref (o 2), .ref (o 3), .ref (o 4)])), ((o 1), .inl (D.1 5, 160, .inl fj)), ((o 2), .inl (D.1 5, 24, .inl fs)), ((o 3), .inl (D.1 5, 26, .inl fl)), ((o 4), .inl (D.1 5, 10, .inl fn))] : va_W)) hK) ⟨Nat.zero_le _, Nat.zero_le _⟩
