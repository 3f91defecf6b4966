/-! WHAT FETCHING WOULD TELL, FOR THE MODEL -/
section OC
variable {N T A B : List Nat} {to pi : Nat → Nat} {fe : Nat → Int32} {pl go : Nat} {hi mi re lo : Int32} {k : Nat}
theorem oc_in (h : k ∈ N ∨ k ∈ T) : oc (N, T, A, B, to, pi, fe, pl, go, hi, mi, re, lo) k = 0 := if_pos h
theorem oc_no (h : ¬ (k ∈ N ∨ k ∈ T)) (h2 : pl ≤ N.length + T.length ∧ N.length + T.length ≤ pc pi N + pc pi T) : oc (N, T, A, B, to, pi, fe, pl, go, hi, mi, re, lo) k = 4 := by
  show (if _ then _ else if _ then _ else _) = 4
  rw [if_neg h, if_pos h2]
theorem oc_room (h2 : ¬ (pl ≤ N.length + T.length ∧ N.length + T.length ≤ pc pi N + pc pi T)) : oc (N, T, A, B, to, pi, fe, pl, go, hi, mi, re, lo) k ≠ 4 := by
  show (if _ then _ else if _ then _ else if _ then _ else if _ then _ else _) ≠ 4
  split
  · decide
  · try rw [if_neg h2]
    split
    · decide
    · split <;> decide
theorem oc_3s (h : ¬ (k ∈ N ∨ k ∈ T)) (h4 : oc (N, T, A, B, to, pi, fe, pl, go, hi, mi, re, lo) k ≠ 4) : (oc (N, T, A, B, to, pi, fe, pl, go, hi, mi, re, lo) k = 2 ∧ k ∈ A ∧ sfI A B k = nI 0) ∨ (oc (N, T, A, B, to, pi, fe, pl, go, hi, mi, re, lo) k = 3 ∧ k ∈ B ∧ sfI A B k = nI 1) ∨ (oc (N, T, A, B, to, pi, fe, pl, go, hi, mi, re, lo) k = 1 ∧ sfI A B k = -1) := by
  have h2 : ¬ (pl ≤ N.length + T.length ∧ N.length + T.length ≤ pc pi N + pc pi T) := fun z => h4 (oc_no h z)
  have e : oc (N, T, A, B, to, pi, fe, pl, go, hi, mi, re, lo) k = if k ∈ A then 2 else if k ∈ B then 3 else 1 := by
    show (if _ then _ else if _ then _ else _) = _
    rw [if_neg h, if_neg h2]
  by_cases a : k ∈ A
  · exact Or.inl ⟨e.trans (if_pos a), a, sf_0 a⟩
  · by_cases b : k ∈ B
    · exact Or.inr (Or.inl ⟨e.trans ((if_neg a).trans (if_pos b)), b, sf_1 a b⟩)
    · exact Or.inr (Or.inr ⟨e.trans ((if_neg a).trans (if_neg b)), sf_m a b⟩)
theorem oc_sf (h : ¬ (k ∈ N ∨ k ∈ T)) (h4 : oc (N, T, A, B, to, pi, fe, pl, go, hi, mi, re, lo) k ≠ 4) : nI 2 + sfI A B k = nI (oc (N, T, A, B, to, pi, fe, pl, go, hi, mi, re, lo) k) := by
  rcases oc_3s h h4 with ⟨e, -, s⟩ | ⟨e, -, s⟩ | ⟨e, s⟩ <;> rw [e, s] <;> rfl
end OC
theorem sf_put2 {N T N' T' : List Nat} {k : Nat} {x : Int32} (hk : sfI N' T' k = x) (h0 : ∀ y, y ≠ k → (y ∈ N ↔ y ∈ N')) (h1 : ∀ y, y ≠ k → (y ∈ T ↔ y ∈ T')) (y : Nat) : (if y = k then x else if y = k then -1 else sfI N T y) = sfI N' T' y := by
  by_cases e : y = k
  · subst e; rw [if_pos rfl, hk]
  · rw [if_neg e, if_neg e]; exact sf_e (h0 y e) (h1 y e)
set_option maxHeartbeats 4000000 in
set_option maxRecDepth 100000 in
/-- m_canFetch -/
theorem m_canFetch (l : Launch) (D : va_G) (o : Nat → Nat) (th : Int32) (fj fs fl fn : Nat → Int32) (N T A B : List Nat) (to pi : Nat → Nat) (fe : Nat → Int32) (pl go : Nat) (hi mi re lo : Int32) (k : Nat) (hM : MR (N, T, A, B, to, pi, fe, pl, go, hi, mi, re, lo) (fj, fs, fl, fn)) (hW : WF (N, T, A, B, to, pi, fe, pl, go, hi, mi, re, lo)) (hk : k < 40) : MU l yX4_canFetch cX4_canFetch 2 (some .boolean) 3 65 D [.ref (o 0), .int (nI k)] [((o 0), .inr (4, [.int th, .ref (o 1), .ref (o 2), .ref (o 3), .ref (o 4)])), ((o 1), .inl (D.1 5, 160, .inl fj)), ((o 2), .inl (D.1 5, 24, .inl fs)), ((o 3), .inl (D.1 5, 26, .inl fl)), ((o 4), .inl (D.1 5, 10, .inl fn))] (fun v (_ : Unit) => v = some (.int (nI (yn (oc (N, T, A, B, to, pi, fe, pl, go, hi, mi, re, lo) k ≠ 4))))) (fun _ => [((o 0), .inr (4, [.int th, .ref (o 1), .ref (o 2), .ref (o 3), .ref (o 4)])), ((o 1), .inl (D.1 5, 160, .inl fj)), ((o 2), .inl (D.1 5, 24, .inl fs)), ((o 3), .inl (D.1 5, 26, .inl fl)), ((o 4), .inl (D.1 5, 10, .inl fn))]) 0 0 := by
  refine MU.enter (by decide) [(0, .ref (o 0)), (1, .int (nI k))] rfl (Nat.le_of_ble_eq_true rfl) (fun G hC hE => ?_)
  have hC : CX G D cX4_canFetch RX4 2 := hC
  have hM0 := hM
  have hW0 := hW
  obtain ⟨⟨r0, r1, r2, r3⟩, hj, ⟨n0, n1, n2, n3, n4, n5⟩, n6, n7, n8, n9⟩ := hM
  obtain ⟨kN, kT, kA, kB, nd, len, lA, lB, p2, p12, g12, t1, p9⟩ := hW
  have q0 := pc_le pi N
  have q1 := pc_le pi T
  refine k_aload_n hC 0 dX4_canFetch_0 rfl ?_
  refine k_iload_n hC 1 dX4_canFetch_1 rfl ?_
  refine k_callVr hC 2 0 [0, 1, 2, 3, 4] (m_isThere l D o th fj fs fl fn N T k hk (hj k hk).1) cw_RX4_61 dX4_canFetch_2 ⟨Nat.le_of_ble_eq_true rfl, Nat.le_of_ble_eq_true rfl, Nat.le_of_ble_eq_true rfl, Nat.le_of_ble_eq_true rfl⟩ rfl (Nat.le_of_ble_eq_true rfl) rfl rfl rfl (by decide) rfl (fun _ => Nat.le_of_ble_eq_true rfl) (fun _ => rfl) _ rfl (fun v u hp => ?_)
  obtain rfl := hp
  refine KJ.eqs (st' := .int (nI (yn (k ∈ N ∨ k ∈ T))) :: []) rfl ?_
  refine n_if_ne hC 5 32 dX4_canFetch_5 (by decide) (Nat.lt_of_le_of_lt yn_le (by decide)) (fun h5 => ?_) (fun h5 => ?_)
  · skip
    refine k_iconst hC 32 dX4_canFetch_32 (nI 1) (by decide) ?_
    refine k_goto hC 33 37 dX4_canFetch_33 (by decide) ?_
    exact k_iret hC hE 37 () dX4_canFetch_37 rfl (by first | rw [yn_t (show oc _ _ ≠ 4 from by rw [oc_in (Classical.byContradiction (fun z => h5 (yn_f z)))]; decide)] | rw [yn_t (oc_room (by omega))]) rfl ⟨Nat.zero_le _, Nat.zero_le _⟩
  · skip
    refine k_aload_n hC 8 dX4_canFetch_8 rfl ?_
    refine k_callVr hC 9 0 [0, 1, 2, 3, 4] (m_all l D o th fj fs fl fn N.length T.length n6 n7) cw_RX4_82 dX4_canFetch_9 ⟨Nat.le_of_ble_eq_true rfl, Nat.le_of_ble_eq_true rfl, Nat.le_of_ble_eq_true rfl, Nat.le_of_ble_eq_true rfl⟩ rfl (Nat.le_of_ble_eq_true rfl) rfl rfl rfl (by decide) rfl (fun _ => Nat.le_of_ble_eq_true rfl) (fun _ => rfl) _ rfl (fun v u hp => ?_)
    obtain rfl := hp
    refine KJ.eqs (st' := .int (nI (N.length + T.length)) :: []) rfl ?_
    refine k_aload_n hC 12 dX4_canFetch_12 rfl ?_
    refine k_getf hC 13 0 4 dX4_canFetch_13 rfl rfl inlX4 (by decide) wq_3_7 rfl ?_
    refine k_iconst hC 16 dX4_canFetch_16 (nI 0) (by decide) ?_
    refine n_iald hC 17 4 (nI pl) dX4_canFetch_17 rfl (by omega) (by decide) n0 ?_
    refine n_icmp_lt hC 18 32 dX4_canFetch_18 (by decide) (by omega) (by omega) (fun h18 => ?_) (fun h18 => ?_)
    · skip
      refine k_iconst hC 32 dX4_canFetch_32 (nI 1) (by decide) ?_
      refine k_goto hC 33 37 dX4_canFetch_33 (by decide) ?_
      exact k_iret hC hE 37 () dX4_canFetch_37 rfl (by first | rw [yn_t (show oc _ _ ≠ 4 from by rw [oc_in (Classical.byContradiction (fun z => h5 (yn_f z)))]; decide)] | rw [yn_t (oc_room (by omega))]) rfl ⟨Nat.zero_le _, Nat.zero_le _⟩
    · skip
      refine k_aload_n hC 21 dX4_canFetch_21 rfl ?_
      refine k_callVr hC 22 0 [0, 1, 2, 3, 4] (m_pinned l D o th fj fs fl fn N T to pi fe hj nd kN kT p9) cw_RX4_86 dX4_canFetch_22 ⟨Nat.le_of_ble_eq_true rfl, Nat.le_of_ble_eq_true rfl, Nat.le_of_ble_eq_true rfl, Nat.le_of_ble_eq_true rfl⟩ rfl (Nat.le_of_ble_eq_true rfl) rfl rfl rfl (by decide) rfl (fun _ => Nat.le_of_ble_eq_true rfl) (fun _ => rfl) _ rfl (fun v u hp => ?_)
      obtain rfl := hp
      refine KJ.eqs (st' := .int (nI (pc pi N + pc pi T)) :: []) rfl ?_
      refine k_aload_n hC 25 dX4_canFetch_25 rfl ?_
      refine k_callVr hC 26 0 [0, 1, 2, 3, 4] (m_all l D o th fj fs fl fn N.length T.length n6 n7) cw_RX4_82 dX4_canFetch_26 ⟨Nat.le_of_ble_eq_true rfl, Nat.le_of_ble_eq_true rfl, Nat.le_of_ble_eq_true rfl, Nat.le_of_ble_eq_true rfl⟩ rfl (Nat.le_of_ble_eq_true rfl) rfl rfl rfl (by decide) rfl (fun _ => Nat.le_of_ble_eq_true rfl) (fun _ => rfl) _ rfl (fun v u hp => ?_)
      obtain rfl := hp
      refine KJ.eqs (st' := .int (nI (N.length + T.length)) :: .int (nI (pc pi N + pc pi T)) :: []) rfl ?_
      refine n_icmp_ge hC 29 36 dX4_canFetch_29 (by decide) (by omega) (by omega) (fun h29 => ?_) (fun h29 => ?_)
      · skip
        refine k_iconst hC 36 dX4_canFetch_36 (nI 0) (by decide) ?_
        exact k_iret hC hE 37 () dX4_canFetch_37 rfl (by rw [yn_f (not_not_intro (oc_no (yn_0.mp h5) (by omega)))]) rfl ⟨Nat.zero_le _, Nat.zero_le _⟩
      · skip
        refine k_iconst hC 32 dX4_canFetch_32 (nI 1) (by decide) ?_
        refine k_goto hC 33 37 dX4_canFetch_33 (by decide) ?_
        exact k_iret hC hE 37 () dX4_canFetch_37 rfl (by first | rw [yn_t (show oc _ _ ≠ 4 from by rw [oc_in (Classical.byContradiction (fun z => h5 (yn_f z)))]; decide)] | rw [yn_t (oc_room (by omega))]) rfl ⟨Nat.zero_le _, Nat.zero_le _⟩
set_option maxHeartbeats 4000000 in
set_option maxRecDepth 100000 in
/-- m_told -/
theorem m_told (l : Launch) (D : va_G) (o : Nat → Nat) (th : Int32) (fj fs fl fn : Nat → Int32) (N T A B : List Nat) (to pi : Nat → Nat) (fe : Nat → Int32) (pl go : Nat) (hi mi re lo : Int32) (k : Nat) (hM : MR (N, T, A, B, to, pi, fe, pl, go, hi, mi, re, lo) (fj, fs, fl, fn)) (hW : WF (N, T, A, B, to, pi, fe, pl, go, hi, mi, re, lo)) (hk : k < 40) (ho : oc (N, T, A, B, to, pi, fe, pl, go, hi, mi, re, lo) k ≠ 4) : MU l yX4_told cX4_told 2 (some .int) 3 66 D [.ref (o 0), .int (nI k)] [((o 0), .inr (4, [.int th, .ref (o 1), .ref (o 2), .ref (o 3), .ref (o 4)])), ((o 1), .inl (D.1 5, 160, .inl fj)), ((o 2), .inl (D.1 5, 24, .inl fs)), ((o 3), .inl (D.1 5, 26, .inl fl)), ((o 4), .inl (D.1 5, 10, .inl fn))] (fun v (_ : Unit) => v = some (.int (nI (oc (N, T, A, B, to, pi, fe, pl, go, hi, mi, re, lo) k)))) (fun _ => [((o 0), .inr (4, [.int th, .ref (o 1), .ref (o 2), .ref (o 3), .ref (o 4)])), ((o 1), .inl (D.1 5, 160, .inl fj)), ((o 2), .inl (D.1 5, 24, .inl fs)), ((o 3), .inl (D.1 5, 26, .inl fl)), ((o 4), .inl (D.1 5, 10, .inl fn))]) 0 0 := by
  refine MU.enter (by decide) [(0, .ref (o 0)), (1, .int (nI k))] rfl (Nat.le_of_ble_eq_true rfl) (fun G hC hE => ?_)
  have hC : CX G D cX4_told RX4 2 := hC
  have hM0 := hM
  have hW0 := hW
  obtain ⟨⟨r0, r1, r2, r3⟩, hj, ⟨n0, n1, n2, n3, n4, n5⟩, n6, n7, n8, n9⟩ := hM
  obtain ⟨kN, kT, kA, kB, nd, len, lA, lB, p2, p12, g12, t1, p9⟩ := hW
  have q0 := pc_le pi N
  have q1 := pc_le pi T
  refine k_aload_n hC 0 dX4_told_0 rfl ?_
  refine k_iload_n hC 1 dX4_told_1 rfl ?_
  refine k_callVr hC 2 0 [0, 1, 2, 3, 4] (m_isThere l D o th fj fs fl fn N T k hk (hj k hk).1) cw_RX4_61 dX4_told_2 ⟨Nat.le_of_ble_eq_true rfl, Nat.le_of_ble_eq_true rfl, Nat.le_of_ble_eq_true rfl, Nat.le_of_ble_eq_true rfl⟩ rfl (Nat.le_of_ble_eq_true rfl) rfl rfl rfl (by decide) rfl (fun _ => Nat.le_of_ble_eq_true rfl) (fun _ => rfl) _ rfl (fun v u hp => ?_)
  obtain rfl := hp
  refine KJ.eqs (st' := .int (nI (yn (k ∈ N ∨ k ∈ T))) :: []) rfl ?_
  refine n_if_eq hC 5 12 dX4_told_5 (by decide) (Nat.lt_of_le_of_lt yn_le (by decide)) (fun h5 => ?_) (fun h5 => ?_)
  · skip
    refine k_iconst hC 12 dX4_told_12 (nI 2) (by decide) ?_
    refine k_aload_n hC 13 dX4_told_13 rfl ?_
    refine k_iload_n hC 14 dX4_told_14 rfl ?_
    refine k_callVr hC 15 0 [0, 1, 2, 3, 4] (m_listOf l D o th fj fs fl fn A B k n8 n9 lA lB kA kB r2 r3 hk) cw_RX4_92 dX4_told_15 ⟨Nat.le_of_ble_eq_true rfl, Nat.le_of_ble_eq_true rfl, Nat.le_of_ble_eq_true rfl, Nat.le_of_ble_eq_true rfl⟩ rfl (Nat.le_of_ble_eq_true rfl) rfl rfl rfl (by decide) rfl (fun _ => Nat.le_of_ble_eq_true rfl) (fun _ => rfl) _ rfl (fun v u hp => ?_)
    obtain rfl := hp
    refine KJ.eqs (st' := .int (sfI A B k) :: .int (nI 2) :: []) rfl ?_
    refine k_iadd hC 18 dX4_told_18 (KJ.topi (y := (nI (oc (N, T, A, B, to, pi, fe, pl, go, hi, mi, re, lo) k))) (oc_sf (yn_0.mp h5) ho) ?_)
    exact k_iret hC hE 19 () dX4_told_19 rfl rfl rfl ⟨Nat.zero_le _, Nat.zero_le _⟩
  · skip
    refine k_iconst hC 8 dX4_told_8 (nI 0) (by decide) ?_
    refine k_goto hC 9 19 dX4_told_9 (by decide) ?_
    exact k_iret hC hE 19 () dX4_told_19 rfl (by rw [oc_in (Classical.byContradiction (fun z => h5 (yn_f z)))]) rfl ⟨Nat.zero_le _, Nat.zero_le _⟩
set_option maxHeartbeats 4000000 in
set_option maxRecDepth 100000 in
/-- m_fetched -/
theorem m_fetched (l : Launch) (D : va_G) (o : Nat → Nat) (th : Int32) (fj fs fl fn : Nat → Int32) (N T A B : List Nat) (to pi : Nat → Nat) (fe : Nat → Int32) (pl go : Nat) (hi mi re lo : Int32) (k : Nat) (hM : MR (N, T, A, B, to, pi, fe, pl, go, hi, mi, re, lo) (fj, fs, fl, fn)) (hW : WF (N, T, A, B, to, pi, fe, pl, go, hi, mi, re, lo)) (hk : k < 40) (ho : oc (N, T, A, B, to, pi, fe, pl, go, hi, mi, re, lo) k ≠ 4) (hjp : N.length + T.length ≤ pl) : MU l yX4_fetched cX4_fetched 4 (some .int) 5 128 D [.ref (o 0), .int (nI k)] [((o 0), .inr (4, [.int th, .ref (o 1), .ref (o 2), .ref (o 3), .ref (o 4)])), ((o 1), .inl (D.1 5, 160, .inl fj)), ((o 2), .inl (D.1 5, 24, .inl fs)), ((o 3), .inl (D.1 5, 26, .inl fl)), ((o 4), .inl (D.1 5, 10, .inl fn))] (fun v (u : MG) => v = some (.int (nI (oc (N, T, A, B, to, pi, fe, pl, go, hi, mi, re, lo) k))) ∧ MR (br (N, T, A, B, to, pi, fe, pl, go, hi, mi, re, lo) k) u) (fun u => [((o 0), .inr (4, [.int th, .ref (o 1), .ref (o 2), .ref (o 3), .ref (o 4)])), ((o 1), .inl (D.1 5, 160, .inl u.1)), ((o 2), .inl (D.1 5, 24, .inl u.2.1)), ((o 3), .inl (D.1 5, 26, .inl u.2.2.1)), ((o 4), .inl (D.1 5, 10, .inl u.2.2.2))]) 1 4 := by
  refine MU.enter (by decide) [(0, .ref (o 0)), (1, .int (nI k))] rfl (Nat.le_of_ble_eq_true rfl) (fun G hC hE => ?_)
  have hC : CX G D cX4_fetched RX4 4 := hC
  have hM0 := hM
  have hW0 := hW
  obtain ⟨⟨r0, r1, r2, r3⟩, hj, ⟨n0, n1, n2, n3, n4, n5⟩, n6, n7, n8, n9⟩ := hM
  obtain ⟨kN, kT, kA, kB, nd, len, lA, lB, p2, p12, g12, t1, p9⟩ := hW
  have q0 := pc_le pi N
  have q1 := pc_le pi T
  refine k_aload_n hC 0 dX4_fetched_0 rfl ?_
  refine k_iload_n hC 1 dX4_fetched_1 rfl ?_
  refine k_callVr hC 2 0 [0, 1, 2, 3, 4] (m_isThere l D o th fj fs fl fn N T k hk (hj k hk).1) cw_RX4_61 dX4_fetched_2 ⟨Nat.le_of_ble_eq_true rfl, Nat.le_of_ble_eq_true rfl, Nat.le_of_ble_eq_true rfl, Nat.le_of_ble_eq_true rfl⟩ rfl (Nat.le_of_ble_eq_true rfl) rfl rfl rfl (by decide) rfl (fun _ => Nat.le_of_ble_eq_true rfl) (fun _ => rfl) _ rfl (fun v u hp => ?_)
  obtain rfl := hp
  refine KJ.eqs (st' := .int (nI (yn (k ∈ N ∨ k ∈ T))) :: []) rfl ?_
  refine n_if_eq hC 5 45 dX4_fetched_5 (by decide) (Nat.lt_of_le_of_lt yn_le (by decide)) (fun h5 => ?_) (fun h5 => ?_)
  · skip
    refine k_aload_n hC 45 dX4_fetched_45 rfl ?_
    refine k_iload_n hC 46 dX4_fetched_46 rfl ?_
    refine k_callVr hC 47 0 [0, 1, 2, 3, 4] (m_listOf l D o th fj fs fl fn A B k n8 n9 lA lB kA kB r2 r3 hk) cw_RX4_92 dX4_fetched_47 ⟨Nat.le_of_ble_eq_true rfl, Nat.le_of_ble_eq_true rfl, Nat.le_of_ble_eq_true rfl, Nat.le_of_ble_eq_true rfl⟩ rfl (Nat.le_of_ble_eq_true rfl) rfl rfl rfl (by decide) rfl (fun _ => Nat.le_of_ble_eq_true rfl) (fun _ => rfl) _ rfl (fun v u hp => ?_)
    obtain rfl := hp
    refine KJ.eqs (st' := .int (sfI A B k) :: []) rfl ?_
    have hn := yn_0.mp h5
    rcases oc_3s hn ho with ⟨ho2, hx, hsf⟩ | ⟨ho2, hx, hsf⟩ | ⟨ho2, hsf⟩
    · skip
      rw [hsf]
      have lp := List.length_pos_of_mem hx
      have tb := tn_le (x := B) (y := A) lB
      refine k_istore_n hC 50 2 [(2, .int (nI 0)), (0, .ref (o 0)), (1, .int (nI k))] dX4_fetched_50 rfl (by decide) rfl ?_
      refine k_aload_n hC 51 dX4_fetched_51 rfl ?_
      refine k_getf hC 52 0 4 dX4_fetched_52 rfl rfl inlX4 (by decide) wq_3_7 rfl ?_
      refine k_iconst hC 55 dX4_fetched_55 (nI 3) (by decide) ?_
      refine k_dup2 hC 56 dX4_fetched_56 rfl rfl ?_
      refine n_iald hC 57 4 mi dX4_fetched_57 rfl (by omega) (by decide) n3 ?_
      refine k_iconst hC 58 dX4_fetched_58 (nI 1) (by decide) ?_
      refine k_iadd hC 59 dX4_fetched_59 (KJ.topi (y := (mi + 1)) rfl ?_)
      refine n_iast hC 60 4 [((o 0), .inr (4, [.int th, .ref (o 1), .ref (o 2), .ref (o 3), .ref (o 4)])), ((o 1), .inl (D.1 5, 160, .inl fj)), ((o 2), .inl (D.1 5, 24, .inl fs)), ((o 3), .inl (D.1 5, 26, .inl fl)), ((o 4), .inl (D.1 5, 10, .inl (upd fn 3 (mi + 1))))] dX4_fetched_60 rfl (by omega) (by decide) rfl ?_
      refine k_iload_n hC 61 dX4_fetched_61 rfl ?_
      refine k_iconst hC 62 dX4_fetched_62 (-1) (by decide) ?_
      refine k_icmp_eq hC 63 147 dX4_fetched_63 (by decide) (fun h63 => ?_) (fun h63 => ?_)
      · skip
        exact absurd h63 (by decide)
      · skip
        refine k_iconst hC 66 dX4_fetched_66 (nI 1) (by decide) ?_
        refine k_aload_n hC 67 dX4_fetched_67 rfl ?_
        refine k_iconst hC 68 dX4_fetched_68 (nI 1) (by decide) ?_
        refine k_iload_n hC 69 dX4_fetched_69 rfl ?_
        refine n_isub hC 70 1 dX4_fetched_70 (by omega) (by omega) ?_
        refine k_callVr hC 71 0 [0, 1, 2, 3, 4] (m_listed l D o th fj fs fl (upd fn 3 (mi + 1)) 1 (by decide)) cw_RX4_44 dX4_fetched_71 ⟨Nat.le_of_ble_eq_true rfl, Nat.le_of_ble_eq_true rfl, Nat.le_of_ble_eq_true rfl, Nat.le_of_ble_eq_true rfl⟩ rfl (Nat.le_of_ble_eq_true rfl) rfl rfl rfl (by decide) rfl (fun _ => Nat.le_of_ble_eq_true rfl) (fun _ => rfl) _ rfl (fun v u hp => ?_)
        obtain rfl := hp
        refine KJ.eqs (st' := .int ((upd fn 3 (mi + 1)) (8 + 1)) :: .int (nI 1) :: []) rfl ?_
        refine KJ.topi (y := (nI B.length)) ((upd_n (by decide)).trans n9) ?_
        refine k_aload_n hC 74 dX4_fetched_74 rfl ?_
        refine k_iload_n hC 75 dX4_fetched_75 rfl ?_
        refine k_callVr hC 76 0 [0, 1, 2, 3, 4] (m_listed l D o th fj fs fl (upd fn 3 (mi + 1)) 0 (by decide)) cw_RX4_44 dX4_fetched_76 ⟨Nat.le_of_ble_eq_true rfl, Nat.le_of_ble_eq_true rfl, Nat.le_of_ble_eq_true rfl, Nat.le_of_ble_eq_true rfl⟩ rfl (Nat.le_of_ble_eq_true rfl) rfl rfl rfl (by decide) rfl (fun _ => Nat.le_of_ble_eq_true rfl) (fun _ => rfl) _ rfl (fun v u hp => ?_)
        obtain rfl := hp
        refine KJ.eqs (st' := .int ((upd fn 3 (mi + 1)) (8 + 0)) :: .int (nI B.length) :: .int (nI 1) :: []) rfl ?_
        refine KJ.topi (y := (nI A.length)) ((upd_n (by decide)).trans n8) ?_
        refine k_idiv hC 79 dX4_fetched_79 (nI_ne0 (by omega) (by omega)) (KJ.topi (y := (nI (B.length / A.length))) (pk_div (by omega) (by omega) (by omega)) ?_)
        refine k_max hC 80 dX4_fetched_80 wq_9_22 wq_6_10 wq_6_6 wq_6_11 ⟨Nat.le_of_ble_eq_true rfl, Nat.le_of_ble_eq_true rfl, Nat.le_of_ble_eq_true rfl, Nat.le_of_ble_eq_true rfl⟩ (KJ.topi (y := (nI (tn B A))) (nmax (by decide) (Nat.lt_of_le_of_lt (Nat.div_le_self _ _) (by omega))) ?_)
        refine k_istore_n hC 83 3 [(3, .int (nI (tn B A))), (2, .int (nI 0)), (0, .ref (o 0)), (1, .int (nI k))] dX4_fetched_83 rfl (by decide) rfl ?_
        refine k_aload_n hC 84 dX4_fetched_84 rfl ?_
        refine k_getf hC 85 0 4 dX4_fetched_85 rfl rfl inlX4 (by decide) wq_3_7 rfl ?_
        refine k_iconst hC 88 dX4_fetched_88 (nI 1) (by decide) ?_
        refine k_iload_n hC 89 dX4_fetched_89 rfl ?_
        refine n_if_ne hC 90 113 dX4_fetched_90 (by decide) (by omega) (fun h90 => ?_) (fun h90 => ?_)
        · skip
          exact absurd h90 (by decide)
        · skip
          refine k_aload_n hC 93 dX4_fetched_93 rfl ?_
          refine k_getf hC 94 0 4 dX4_fetched_94 rfl rfl inlX4 (by decide) wq_3_7 rfl ?_
          refine k_iconst hC 97 dX4_fetched_97 (nI 0) (by decide) ?_
          refine n_iald hC 98 4 (nI pl) dX4_fetched_98 rfl (by omega) (by decide) ((upd_n (by decide)).trans n0) ?_
          refine k_aload_n hC 99 dX4_fetched_99 rfl ?_
          refine k_getf hC 100 0 4 dX4_fetched_100 rfl rfl inlX4 (by decide) wq_3_7 rfl ?_
          refine k_iconst hC 103 dX4_fetched_103 (nI 1) (by decide) ?_
          refine n_iald hC 104 4 (nI go) dX4_fetched_104 rfl (by omega) (by decide) ((upd_n (by decide)).trans n1) ?_
          refine k_iload_n hC 105 dX4_fetched_105 rfl ?_
          refine n_iadd hC 106 (go + (tn B A)) dX4_fetched_106 rfl ?_
          refine k_min hC 107 dX4_fetched_107 wq_9_23 wq_6_5 wq_6_6 wq_6_7 ⟨Nat.le_of_ble_eq_true rfl, Nat.le_of_ble_eq_true rfl, Nat.le_of_ble_eq_true rfl, Nat.le_of_ble_eq_true rfl⟩ (KJ.topi (y := (nI (min pl (go + tn B A)))) (nmin (by omega) (by omega)) ?_)
          refine k_goto hC 110 125 dX4_fetched_110 (by decide) ?_
          refine n_iast hC 125 4 [((o 0), .inr (4, [.int th, .ref (o 1), .ref (o 2), .ref (o 3), .ref (o 4)])), ((o 1), .inl (D.1 5, 160, .inl fj)), ((o 2), .inl (D.1 5, 24, .inl fs)), ((o 3), .inl (D.1 5, 26, .inl fl)), ((o 4), .inl (D.1 5, 10, .inl (upd (upd fn 3 (mi + 1)) 1 (nI (min pl (go + tn B A))))))] dX4_fetched_125 rfl (by omega) (by decide) rfl ?_
          refine k_aload_n hC 126 dX4_fetched_126 rfl ?_
          refine k_iload_n hC 127 dX4_fetched_127 rfl ?_
          refine k_aload_n hC 128 dX4_fetched_128 rfl ?_
          refine k_iload_n hC 129 dX4_fetched_129 rfl ?_
          refine k_iload_n hC 130 dX4_fetched_130 rfl ?_
          refine k_callVr hC 131 0 [0, 1, 2, 3, 4] (m_listPlace l D o th fj fs fl (upd (upd fn 3 (mi + 1)) 1 (nI (min pl (go + tn B A)))) 0 A k (by decide) ((upd_n (by decide)).trans ((upd_n (by decide)).trans n8)) lA kA r2 hk) cw_RX4_89 dX4_fetched_131 ⟨Nat.le_of_ble_eq_true rfl, Nat.le_of_ble_eq_true rfl, Nat.le_of_ble_eq_true rfl, Nat.le_of_ble_eq_true rfl⟩ rfl (Nat.le_of_ble_eq_true rfl) rfl rfl rfl (by decide) rfl (fun _ => Nat.le_of_ble_eq_true rfl) (fun _ => rfl) _ rfl (fun v u hp => ?_)
          obtain rfl := hp
          refine KJ.eqs (st' := .int (ixv A k) :: .int (nI 0) :: .ref (o 0) :: []) rfl ?_
          refine KJ.topi (y := (nI (A.idxOf k))) (ixv_in hx) ?_
          refine k_callV hC 134 0 [0, 1, 2, 3, 4] (fun (x0 : (Nat → Int32) × (Nat → Int32)) => [((o 0), .inr (4, [.int th, .ref (o 1), .ref (o 2), .ref (o 3), .ref (o 4)])), ((o 1), .inl (D.1 5, 160, .inl fj)), ((o 2), .inl (D.1 5, 24, .inl fs)), ((o 3), .inl (D.1 5, 26, .inl x0.1)), ((o 4), .inl (D.1 5, 10, .inl x0.2))]) (m_takeOffR l D o th fj fs fl (upd (upd fn 3 (mi + 1)) 1 (nI (min pl (go + tn B A)))) 0 (A.idxOf k) A (by decide) ((upd_n (by decide)).trans ((upd_n (by decide)).trans n8)) (List.idxOf_lt_length_of_mem hx) lA r2) cw_RX4_47 dX4_fetched_134 ⟨Nat.le_of_ble_eq_true rfl, Nat.le_of_ble_eq_true rfl, Nat.le_of_ble_eq_true rfl, Nat.le_of_ble_eq_true rfl⟩ rfl (Nat.le_of_ble_eq_true rfl) rfl rfl rfl (by decide) rfl (fun _ => Nat.le_of_ble_eq_true rfl) (fun _ => rfl) _ rfl (fun v (x0 : (Nat → Int32) × (Nat → Int32)) hp => ?_)
          obtain ⟨rfl, x1, x2, x3, x4⟩ := hp
          refine KJ.eqs (st' := []) rfl ?_
          refine k_aload_n hC 137 dX4_fetched_137 rfl ?_
          refine k_getf hC 138 0 4 dX4_fetched_138 rfl rfl inlX4 (by decide) wq_3_7 rfl ?_
          refine k_iconst hC 141 dX4_fetched_141 (nI 4) (by decide) ?_
          refine k_dup2 hC 142 dX4_fetched_142 rfl rfl ?_
          refine n_iald hC 143 4 re dX4_fetched_143 rfl (by omega) (by decide) ((x4 4 (by decide)).trans ((upd_n (by decide)).trans ((upd_n (by decide)).trans n4))) ?_
          refine k_iconst hC 144 dX4_fetched_144 (nI 1) (by decide) ?_
          refine k_iadd hC 145 dX4_fetched_145 (KJ.topi (y := (re + 1)) rfl ?_)
          refine n_iast hC 146 4 [((o 0), .inr (4, [.int th, .ref (o 1), .ref (o 2), .ref (o 3), .ref (o 4)])), ((o 1), .inl (D.1 5, 160, .inl fj)), ((o 2), .inl (D.1 5, 24, .inl fs)), ((o 3), .inl (D.1 5, 26, .inl x0.1)), ((o 4), .inl (D.1 5, 10, .inl (upd x0.2 4 (re + 1))))] dX4_fetched_146 rfl (by omega) (by decide) rfl ?_
          have hM1 : MR (N, T, (A.eraseIdx (A.idxOf k)), B, to, pi, fe, pl, (min pl (go + tn B A)), hi, (mi + 1), (re + 1), lo) (fj, fs, x0.1, upd x0.2 4 (re + 1)) := ⟨⟨r0, r1, x1, (RowL_keep r3 (fun i hi => x3 _ (by omega)))⟩, hj, ⟨(upd_n (by decide)).trans ((x4 0 (by decide)).trans ((upd_n (by decide)).trans ((upd_n (by decide)).trans n0))), (upd_n (by decide)).trans ((x4 1 (by decide)).trans (upd_s _ _ _)), (upd_n (by decide)).trans ((x4 2 (by decide)).trans ((upd_n (by decide)).trans ((upd_n (by decide)).trans n2))), (upd_n (by decide)).trans ((x4 3 (by decide)).trans ((upd_n (by decide)).trans (upd_s _ _ _))), upd_s _ _ _, (upd_n (by decide)).trans ((x4 5 (by decide)).trans ((upd_n (by decide)).trans ((upd_n (by decide)).trans n5)))⟩, (upd_n (by decide)).trans ((x4 6 (by decide)).trans ((upd_n (by decide)).trans ((upd_n (by decide)).trans n6))), (upd_n (by decide)).trans ((x4 7 (by decide)).trans ((upd_n (by decide)).trans ((upd_n (by decide)).trans n7))), (upd_n (by decide)).trans x2, (upd_n (by decide)).trans ((x4 9 (by decide)).trans ((upd_n (by decide)).trans ((upd_n (by decide)).trans n9)))⟩
          have w1 : WF (N, T, (A.eraseIdx (A.idxOf k)), B, to, pi, fe, pl, (min pl (go + tn B A)), hi, (mi + 1), (re + 1), lo) := rcl_wf (missS_wf hW0) k 2
          obtain ⟨sm, hsm⟩ : ∃ z : PS, z = (if plS (N, T, (A.eraseIdx (A.idxOf k)), B, to, pi, fe, pl, (min pl (go + tn B A)), hi, (mi + 1), (re + 1), lo) ≤ jrs (N, T, (A.eraseIdx (A.idxOf k)), B, to, pi, fe, pl, (min pl (go + tn B A)), hi, (mi + 1), (re + 1), lo) then (sw (N, T, (A.eraseIdx (A.idxOf k)), B, to, pi, fe, pl, (min pl (go + tn B A)), hi, (mi + 1), (re + 1), lo)).1 else (N, T, (A.eraseIdx (A.idxOf k)), B, to, pi, fe, pl, (min pl (go + tn B A)), hi, (mi + 1), (re + 1), lo)) := ⟨_, rfl⟩
          have mo : WF sm ∧ k ∉ sm.1 ++ sm.2.1 ∧ jrs sm < 12 := by rw [hsm]; exact mid_ok hW0 ho2 (by decide) (by decide)
          have mp : pl ≤ N.length + T.length → pnd (N, T, (A.eraseIdx (A.idxOf k)), B, to, pi, fe, pl, (min pl (go + tn B A)), hi, (mi + 1), (re + 1), lo) < jrs (N, T, (A.eraseIdx (A.idxOf k)), B, to, pi, fe, pl, (min pl (go + tn B A)), hi, (mi + 1), (re + 1), lo) := mid_pj ho2 (by decide) (by decide)
          have hbr : br (N, T, A, B, to, pi, fe, pl, go, hi, mi, re, lo) k = plc sm k 2 := by rw [hsm]; exact br_m ho2 (by decide) (by decide)
          refine k_aload_n hC 147 dX4_fetched_147 rfl ?_
          refine k_callVr hC 148 0 [0, 1, 2, 3, 4] (m_all l D o th fj fs x0.1 (upd x0.2 4 (re + 1)) N.length T.length hM1.2.2.2.1 hM1.2.2.2.2.1) cw_RX4_82 dX4_fetched_148 ⟨Nat.le_of_ble_eq_true rfl, Nat.le_of_ble_eq_true rfl, Nat.le_of_ble_eq_true rfl, Nat.le_of_ble_eq_true rfl⟩ rfl (Nat.le_of_ble_eq_true rfl) rfl rfl rfl (by decide) rfl (fun _ => Nat.le_of_ble_eq_true rfl) (fun _ => rfl) _ rfl (fun v u hp => ?_)
          obtain rfl := hp
          refine KJ.eqs (st' := .int (nI (N.length + T.length)) :: []) rfl ?_
          refine k_aload_n hC 151 dX4_fetched_151 rfl ?_
          refine k_getf hC 152 0 4 dX4_fetched_152 rfl rfl inlX4 (by decide) wq_3_7 rfl ?_
          refine k_iconst hC 155 dX4_fetched_155 (nI 0) (by decide) ?_
          refine n_iald hC 156 4 (nI pl) dX4_fetched_156 rfl (by omega) (by decide) hM1.2.2.1.1 ?_
          refine n_icmp_ne hC 157 165 dX4_fetched_157 (by decide) (by omega) (by omega) (fun h157 => ?_) (fun h157 => ?_)
          · skip
            have hM2 : MR sm (fj, fs, x0.1, upd x0.2 4 (re + 1)) := by rw [hsm, if_neg (show ¬ plS (N, T, (A.eraseIdx (A.idxOf k)), B, to, pi, fe, pl, (min pl (go + tn B A)), hi, (mi + 1), (re + 1), lo) ≤ jrs (N, T, (A.eraseIdx (A.idxOf k)), B, to, pi, fe, pl, (min pl (go + tn B A)), hi, (mi + 1), (re + 1), lo) from fun z => by have z2 : pl ≤ N.length + T.length := z; omega)]; exact hM1
            obtain ⟨N2, T2, A2, B2, to2, pi2, fe2, pl2, go2, hi2, mi2, re2, lo2⟩ := sm
            obtain ⟨⟨s0, s1, s2, s3⟩, hj2, ⟨b0, b1, b2, b3, b4, b5⟩, b6, b7, b8, b9⟩ := hM2
            have mj : N2.length + T2.length < 12 := mo.2.2
            have mk : k ∉ N2 ∧ k ∉ T2 := ⟨fun z => mo.2.1 (List.mem_append_left _ z), fun z => mo.2.1 (List.mem_append_right _ z)⟩
            refine k_iconst hC 165 dX4_fetched_165 (nI 4) (by decide) ?_
            refine k_newarrI hC 166 4 dX4_fetched_166 (by decide) (by decide) ⟨Nat.le_of_ble_eq_true rfl, Nat.le_of_ble_eq_true rfl⟩ (fun q166 => ?_)
            refine KJ.eqw (ws' := [((o 0), .inr (4, [.int th, .ref (o 1), .ref (o 2), .ref (o 3), .ref (o 4)])), ((o 1), .inl (D.1 5, 160, .inl fj)), ((o 2), .inl (D.1 5, 24, .inl fs)), ((o 3), .inl (D.1 5, 26, .inl x0.1)), ((o 4), .inl (D.1 5, 10, .inl (upd x0.2 4 (re + 1)))), (q166, .inl (D.1 5, 4, .inl (fun _ => 0)))]) rfl ?_
            refine k_dup hC 168 dX4_fetched_168 rfl ?_
            refine k_iconst hC 169 dX4_fetched_169 (nI 0) (by decide) ?_
            refine k_iconst hC 170 dX4_fetched_170 (-1) (by decide) ?_
            refine n_iast hC 171 5 [((o 0), .inr (4, [.int th, .ref (o 1), .ref (o 2), .ref (o 3), .ref (o 4)])), ((o 1), .inl (D.1 5, 160, .inl fj)), ((o 2), .inl (D.1 5, 24, .inl fs)), ((o 3), .inl (D.1 5, 26, .inl x0.1)), ((o 4), .inl (D.1 5, 10, .inl (upd x0.2 4 (re + 1)))), (q166, .inl (D.1 5, 4, .inl (upd (fun _ => 0) 0 (-1))))] dX4_fetched_171 rfl (by omega) (by decide) rfl ?_
            refine k_dup hC 172 dX4_fetched_172 rfl ?_
            refine k_iconst hC 173 dX4_fetched_173 (nI 1) (by decide) ?_
            refine k_iconst hC 174 dX4_fetched_174 (nI 0) (by decide) ?_
            refine n_iast hC 175 5 [((o 0), .inr (4, [.int th, .ref (o 1), .ref (o 2), .ref (o 3), .ref (o 4)])), ((o 1), .inl (D.1 5, 160, .inl fj)), ((o 2), .inl (D.1 5, 24, .inl fs)), ((o 3), .inl (D.1 5, 26, .inl x0.1)), ((o 4), .inl (D.1 5, 10, .inl (upd x0.2 4 (re + 1)))), (q166, .inl (D.1 5, 4, .inl (upd (upd (fun _ => 0) 0 (-1)) 1 (nI 0))))] dX4_fetched_175 rfl (by omega) (by decide) rfl ?_
            refine k_dup hC 176 dX4_fetched_176 rfl ?_
            refine k_iconst hC 177 dX4_fetched_177 (nI 2) (by decide) ?_
            refine k_iconst hC 178 dX4_fetched_178 (nI 0) (by decide) ?_
            refine n_iast hC 179 5 [((o 0), .inr (4, [.int th, .ref (o 1), .ref (o 2), .ref (o 3), .ref (o 4)])), ((o 1), .inl (D.1 5, 160, .inl fj)), ((o 2), .inl (D.1 5, 24, .inl fs)), ((o 3), .inl (D.1 5, 26, .inl x0.1)), ((o 4), .inl (D.1 5, 10, .inl (upd x0.2 4 (re + 1)))), (q166, .inl (D.1 5, 4, .inl (upd (upd (upd (fun _ => 0) 0 (-1)) 1 (nI 0)) 2 (nI 0))))] dX4_fetched_179 rfl (by omega) (by decide) rfl ?_
            refine k_dup hC 180 dX4_fetched_180 rfl ?_
            refine k_iconst hC 181 dX4_fetched_181 (nI 3) (by decide) ?_
            refine k_iconst hC 182 dX4_fetched_182 (nI 1) (by decide) ?_
            refine n_iast hC 183 5 [((o 0), .inr (4, [.int th, .ref (o 1), .ref (o 2), .ref (o 3), .ref (o 4)])), ((o 1), .inl (D.1 5, 160, .inl fj)), ((o 2), .inl (D.1 5, 24, .inl fs)), ((o 3), .inl (D.1 5, 26, .inl x0.1)), ((o 4), .inl (D.1 5, 10, .inl (upd x0.2 4 (re + 1)))), (q166, .inl (D.1 5, 4, .inl (upd (upd (upd (upd (fun _ => 0) 0 (-1)) 1 (nI 0)) 2 (nI 0)) 3 (nI 1))))] dX4_fetched_183 rfl (by omega) (by decide) rfl ?_
            refine k_astore_n hC 184 3 [(3, .ref q166), (2, .int (nI 0)), (0, .ref (o 0)), (1, .int (nI k))] dX4_fetched_184 rfl (by decide) rfl ?_
            refine k_aload_n hC 185 dX4_fetched_185 rfl ?_
            refine k_iconst hC 186 dX4_fetched_186 (nI 0) (by decide) ?_
            refine k_aload_n hC 187 dX4_fetched_187 rfl ?_
            refine k_getf hC 188 0 1 dX4_fetched_188 rfl rfl inlX4 (by decide) wq_3_4 rfl ?_
            refine k_iconst hC 191 dX4_fetched_191 (nI 4) (by decide) ?_
            refine k_iload_n hC 192 dX4_fetched_192 rfl ?_
            refine n_imul hC 193 (4 * k) dX4_fetched_193 rfl ?_
            refine k_iconst hC 194 dX4_fetched_194 (nI 4) (by decide) ?_
            refine k_copy hC 195 (sp := 0) (dp := 4 * k) (n := 4) 5 1 [((o 0), .inr (4, [.int th, .ref (o 1), .ref (o 2), .ref (o 3), .ref (o 4)])), ((o 1), .inl (D.1 5, 160, .inl (va_cpy (upd (upd (upd (upd (fun _ => 0) 0 (-1)) 1 (nI 0)) 2 (nI 0)) 3 (nI 1)) fj 0 (4 * k) 4))), ((o 2), .inl (D.1 5, 24, .inl fs)), ((o 3), .inl (D.1 5, 26, .inl x0.1)), ((o 4), .inl (D.1 5, 10, .inl (upd x0.2 4 (re + 1)))), (q166, .inl (D.1 5, 4, .inl (upd (upd (upd (upd (fun _ => 0) 0 (-1)) 1 (nI 0)) 2 (nI 0)) 3 (nI 1))))] dX4_fetched_195 wq_10_0 wq_10_1 wq_10_2 wq_10_3 ⟨Nat.le_of_ble_eq_true rfl, Nat.le_of_ble_eq_true rfl⟩ rfl rfl ⟨by decide, by decide⟩ (by omega) (by omega) rfl ?_
            refine k_aload_n hC 198 dX4_fetched_198 rfl ?_
            refine k_iload_n hC 199 dX4_fetched_199 rfl ?_
            refine k_iconst hC 200 dX4_fetched_200 (-1) (by decide) ?_
            refine k_icmp_ne hC 201 208 dX4_fetched_201 (by decide) (fun h201 => ?_) (fun h201 => ?_)
            · skip
              refine k_iconst hC 208 dX4_fetched_208 (nI 1) (by decide) ?_
              refine k_iload_n hC 209 dX4_fetched_209 rfl ?_
              refine k_callV hC 210 0 [0, 1, 2, 3, 4] (fun (z : (Nat → Int32) × (Nat → Int32)) => [((o 0), .inr (4, [.int th, .ref (o 1), .ref (o 2), .ref (o 3), .ref (o 4)])), ((o 1), .inl (D.1 5, 160, .inl (upd (va_cpy (upd (upd (upd (upd (fun _ => 0) 0 (-1)) 1 (nI 0)) 2 (nI 0)) 3 (nI 1)) fj 0 (4 * k) 4) (4 * k) (nI 1)))), ((o 2), .inl (D.1 5, 24, .inl z.1)), ((o 3), .inl (D.1 5, 26, .inl x0.1)), ((o 4), .inl (D.1 5, 10, .inl z.2)), (q166, .inl (D.1 5, 4, .inl (upd (upd (upd (upd (fun _ => 0) 0 (-1)) 1 (nI 0)) 2 (nI 0)) 3 (nI 1))))]) (m_putLastR l D o th (va_cpy (upd (upd (upd (upd (fun _ => 0) 0 (-1)) 1 (nI 0)) 2 (nI 0)) 3 (nI 1)) fj 0 (4 * k) 4) fs x0.1 (upd x0.2 4 (re + 1)) 1 k T2 (by decide) b7 (by omega) hk s1) cw_RX4_76 dX4_fetched_210 ⟨Nat.le_of_ble_eq_true rfl, Nat.le_of_ble_eq_true rfl, Nat.le_of_ble_eq_true rfl, Nat.le_of_ble_eq_true rfl⟩ rfl (Nat.le_of_ble_eq_true rfl) rfl rfl rfl (by decide) rfl (fun _ => Nat.le_of_ble_eq_true rfl) (fun _ => rfl) _ rfl (fun v (z : (Nat → Int32) × (Nat → Int32)) hp => ?_)
              obtain ⟨rfl, y1, y2, y3, y4⟩ := hp
              refine KJ.eqs (st' := []) rfl ?_
              refine k_iconst hC 213 dX4_fetched_213 (nI 2) (by decide) ?_
              refine k_iload_n hC 214 dX4_fetched_214 rfl ?_
              refine n_iadd hC 215 2 dX4_fetched_215 (by omega) ?_
              refine KJ.sub [0, 1, 2, 3, 4] (by decide) rfl rfl ?_
              exact k_iret hC hE 216 ((upd (va_cpy (upd (upd (upd (upd (fun _ => 0) 0 (-1)) 1 (nI 0)) 2 (nI 0)) 3 (nI 1)) fj 0 (4 * k) 4) (4 * k) (nI 1)), z.1, x0.1, z.2) dX4_fetched_216 rfl (⟨by rw [ho2], hbr ▸ (show MR _ _ from ⟨⟨(RowL_keep s0 (fun i hi => y3 _ (by omega))), y1, s2, s3⟩, ((hj2.new k rfl rfl rfl rfl).sh k (nI 1)).as (sf_put2 (sf_1 mk.1 (by simp)) (fun y hy => Iff.rfl) (fun y hy => by simp [hy])), ⟨(y4 0 (by decide)).trans b0, (y4 1 (by decide)).trans b1, (y4 2 (by decide)).trans b2, (y4 3 (by decide)).trans b3, (y4 4 (by decide)).trans b4, (y4 5 (by decide)).trans b5⟩, (y4 6 (by decide)).trans b6, y2, (y4 8 (by decide)).trans b8, (y4 9 (by decide)).trans b9⟩)⟩) rfl ⟨Nat.le_of_ble_eq_true rfl, Nat.le_of_ble_eq_true rfl⟩
            · skip
              exact absurd h201 (by decide)
          · skip
            have hc : pl ≤ N.length + T.length := by omega
            refine k_aload_n hC 160 dX4_fetched_160 rfl ?_
            have so := sw_ok w1 (mp hc)
            have hs2 : sm = (sw (N, T, (A.eraseIdx (A.idxOf k)), B, to, pi, fe, pl, (min pl (go + tn B A)), hi, (mi + 1), (re + 1), lo)).1 := hsm.trans (if_pos hc)
            refine k_callV hC 161 0 [0, 1, 2, 3, 4] (fun (y0 : MG) => [((o 0), .inr (4, [.int th, .ref (o 1), .ref (o 2), .ref (o 3), .ref (o 4)])), ((o 1), .inl (D.1 5, 160, .inl y0.1)), ((o 2), .inl (D.1 5, 24, .inl y0.2.1)), ((o 3), .inl (D.1 5, 26, .inl y0.2.2.1)), ((o 4), .inl (D.1 5, 10, .inl y0.2.2.2))]) (m_sweep l D o th fj fs x0.1 (upd x0.2 4 (re + 1)) N T (A.eraseIdx (A.idxOf k)) B to pi fe pl (min pl (go + tn B A)) hi (mi + 1) (re + 1) lo 200 sm (sw (N, T, (A.eraseIdx (A.idxOf k)), B, to, pi, fe, pl, (min pl (go + tn B A)), hi, (mi + 1), (re + 1), lo)).2 hM1 w1 (by rw [hs2]; exact so.1) (mp hc)) cw_RX4_98 dX4_fetched_161 ⟨Nat.le_of_ble_eq_true rfl, Nat.le_of_ble_eq_true rfl, Nat.le_of_ble_eq_true rfl, Nat.le_of_ble_eq_true rfl⟩ rfl (Nat.le_of_ble_eq_true rfl) rfl rfl rfl (by decide) rfl (fun _ => Nat.le_of_ble_eq_true rfl) (fun _ => rfl) _ rfl (fun v (y0 : MG) hp => ?_)
            obtain ⟨rfl, hM2⟩ := hp
            refine KJ.eqs (st' := .int (nI ((sw (N, T, (A.eraseIdx (A.idxOf k)), B, to, pi, fe, pl, (min pl (go + tn B A)), hi, (mi + 1), (re + 1), lo)).2)) :: []) rfl ?_
            refine k_pop hC 164 dX4_fetched_164 rfl ?_
            obtain ⟨a1, a2, a3, a4⟩ := y0
            refine KJ.eqw (ws' := [((o 0), .inr (4, [.int th, .ref (o 1), .ref (o 2), .ref (o 3), .ref (o 4)])), ((o 1), .inl (D.1 5, 160, .inl a1)), ((o 2), .inl (D.1 5, 24, .inl a2)), ((o 3), .inl (D.1 5, 26, .inl a3)), ((o 4), .inl (D.1 5, 10, .inl a4))]) rfl ?_
            obtain ⟨N2, T2, A2, B2, to2, pi2, fe2, pl2, go2, hi2, mi2, re2, lo2⟩ := sm
            obtain ⟨⟨s0, s1, s2, s3⟩, hj2, ⟨b0, b1, b2, b3, b4, b5⟩, b6, b7, b8, b9⟩ := hM2
            have mj : N2.length + T2.length < 12 := mo.2.2
            have mk : k ∉ N2 ∧ k ∉ T2 := ⟨fun z => mo.2.1 (List.mem_append_left _ z), fun z => mo.2.1 (List.mem_append_right _ z)⟩
            refine k_iconst hC 165 dX4_fetched_165 (nI 4) (by decide) ?_
            refine k_newarrI hC 166 4 dX4_fetched_166 (by decide) (by decide) ⟨Nat.le_of_ble_eq_true rfl, Nat.le_of_ble_eq_true rfl⟩ (fun q166 => ?_)
            refine KJ.eqw (ws' := [((o 0), .inr (4, [.int th, .ref (o 1), .ref (o 2), .ref (o 3), .ref (o 4)])), ((o 1), .inl (D.1 5, 160, .inl a1)), ((o 2), .inl (D.1 5, 24, .inl a2)), ((o 3), .inl (D.1 5, 26, .inl a3)), ((o 4), .inl (D.1 5, 10, .inl a4)), (q166, .inl (D.1 5, 4, .inl (fun _ => 0)))]) rfl ?_
            refine k_dup hC 168 dX4_fetched_168 rfl ?_
            refine k_iconst hC 169 dX4_fetched_169 (nI 0) (by decide) ?_
            refine k_iconst hC 170 dX4_fetched_170 (-1) (by decide) ?_
            refine n_iast hC 171 5 [((o 0), .inr (4, [.int th, .ref (o 1), .ref (o 2), .ref (o 3), .ref (o 4)])), ((o 1), .inl (D.1 5, 160, .inl a1)), ((o 2), .inl (D.1 5, 24, .inl a2)), ((o 3), .inl (D.1 5, 26, .inl a3)), ((o 4), .inl (D.1 5, 10, .inl a4)), (q166, .inl (D.1 5, 4, .inl (upd (fun _ => 0) 0 (-1))))] dX4_fetched_171 rfl (by omega) (by decide) rfl ?_
            refine k_dup hC 172 dX4_fetched_172 rfl ?_
            refine k_iconst hC 173 dX4_fetched_173 (nI 1) (by decide) ?_
            refine k_iconst hC 174 dX4_fetched_174 (nI 0) (by decide) ?_
            refine n_iast hC 175 5 [((o 0), .inr (4, [.int th, .ref (o 1), .ref (o 2), .ref (o 3), .ref (o 4)])), ((o 1), .inl (D.1 5, 160, .inl a1)), ((o 2), .inl (D.1 5, 24, .inl a2)), ((o 3), .inl (D.1 5, 26, .inl a3)), ((o 4), .inl (D.1 5, 10, .inl a4)), (q166, .inl (D.1 5, 4, .inl (upd (upd (fun _ => 0) 0 (-1)) 1 (nI 0))))] dX4_fetched_175 rfl (by omega) (by decide) rfl ?_
            refine k_dup hC 176 dX4_fetched_176 rfl ?_
            refine k_iconst hC 177 dX4_fetched_177 (nI 2) (by decide) ?_
            refine k_iconst hC 178 dX4_fetched_178 (nI 0) (by decide) ?_
            refine n_iast hC 179 5 [((o 0), .inr (4, [.int th, .ref (o 1), .ref (o 2), .ref (o 3), .ref (o 4)])), ((o 1), .inl (D.1 5, 160, .inl a1)), ((o 2), .inl (D.1 5, 24, .inl a2)), ((o 3), .inl (D.1 5, 26, .inl a3)), ((o 4), .inl (D.1 5, 10, .inl a4)), (q166, .inl (D.1 5, 4, .inl (upd (upd (upd (fun _ => 0) 0 (-1)) 1 (nI 0)) 2 (nI 0))))] dX4_fetched_179 rfl (by omega) (by decide) rfl ?_
            refine k_dup hC 180 dX4_fetched_180 rfl ?_
            refine k_iconst hC 181 dX4_fetched_181 (nI 3) (by decide) ?_
            refine k_iconst hC 182 dX4_fetched_182 (nI 1) (by decide) ?_
            refine n_iast hC 183 5 [((o 0), .inr (4, [.int th, .ref (o 1), .ref (o 2), .ref (o 3), .ref (o 4)])), ((o 1), .inl (D.1 5, 160, .inl a1)), ((o 2), .inl (D.1 5, 24, .inl a2)), ((o 3), .inl (D.1 5, 26, .inl a3)), ((o 4), .inl (D.1 5, 10, .inl a4)), (q166, .inl (D.1 5, 4, .inl (upd (upd (upd (upd (fun _ => 0) 0 (-1)) 1 (nI 0)) 2 (nI 0)) 3 (nI 1))))] dX4_fetched_183 rfl (by omega) (by decide) rfl ?_
            refine k_astore_n hC 184 3 [(3, .ref q166), (2, .int (nI 0)), (0, .ref (o 0)), (1, .int (nI k))] dX4_fetched_184 rfl (by decide) rfl ?_
            refine k_aload_n hC 185 dX4_fetched_185 rfl ?_
            refine k_iconst hC 186 dX4_fetched_186 (nI 0) (by decide) ?_
            refine k_aload_n hC 187 dX4_fetched_187 rfl ?_
            refine k_getf hC 188 0 1 dX4_fetched_188 rfl rfl inlX4 (by decide) wq_3_4 rfl ?_
            refine k_iconst hC 191 dX4_fetched_191 (nI 4) (by decide) ?_
            refine k_iload_n hC 192 dX4_fetched_192 rfl ?_
            refine n_imul hC 193 (4 * k) dX4_fetched_193 rfl ?_
            refine k_iconst hC 194 dX4_fetched_194 (nI 4) (by decide) ?_
            refine k_copy hC 195 (sp := 0) (dp := 4 * k) (n := 4) 5 1 [((o 0), .inr (4, [.int th, .ref (o 1), .ref (o 2), .ref (o 3), .ref (o 4)])), ((o 1), .inl (D.1 5, 160, .inl (va_cpy (upd (upd (upd (upd (fun _ => 0) 0 (-1)) 1 (nI 0)) 2 (nI 0)) 3 (nI 1)) a1 0 (4 * k) 4))), ((o 2), .inl (D.1 5, 24, .inl a2)), ((o 3), .inl (D.1 5, 26, .inl a3)), ((o 4), .inl (D.1 5, 10, .inl a4)), (q166, .inl (D.1 5, 4, .inl (upd (upd (upd (upd (fun _ => 0) 0 (-1)) 1 (nI 0)) 2 (nI 0)) 3 (nI 1))))] dX4_fetched_195 wq_10_0 wq_10_1 wq_10_2 wq_10_3 ⟨Nat.le_of_ble_eq_true rfl, Nat.le_of_ble_eq_true rfl⟩ rfl rfl ⟨by decide, by decide⟩ (by omega) (by omega) rfl ?_
            refine k_aload_n hC 198 dX4_fetched_198 rfl ?_
            refine k_iload_n hC 199 dX4_fetched_199 rfl ?_
            refine k_iconst hC 200 dX4_fetched_200 (-1) (by decide) ?_
            refine k_icmp_ne hC 201 208 dX4_fetched_201 (by decide) (fun h201 => ?_) (fun h201 => ?_)
            · skip
              refine k_iconst hC 208 dX4_fetched_208 (nI 1) (by decide) ?_
              refine k_iload_n hC 209 dX4_fetched_209 rfl ?_
              refine k_callV hC 210 0 [0, 1, 2, 3, 4] (fun (z : (Nat → Int32) × (Nat → Int32)) => [((o 0), .inr (4, [.int th, .ref (o 1), .ref (o 2), .ref (o 3), .ref (o 4)])), ((o 1), .inl (D.1 5, 160, .inl (upd (va_cpy (upd (upd (upd (upd (fun _ => 0) 0 (-1)) 1 (nI 0)) 2 (nI 0)) 3 (nI 1)) a1 0 (4 * k) 4) (4 * k) (nI 1)))), ((o 2), .inl (D.1 5, 24, .inl z.1)), ((o 3), .inl (D.1 5, 26, .inl a3)), ((o 4), .inl (D.1 5, 10, .inl z.2)), (q166, .inl (D.1 5, 4, .inl (upd (upd (upd (upd (fun _ => 0) 0 (-1)) 1 (nI 0)) 2 (nI 0)) 3 (nI 1))))]) (m_putLastR l D o th (va_cpy (upd (upd (upd (upd (fun _ => 0) 0 (-1)) 1 (nI 0)) 2 (nI 0)) 3 (nI 1)) a1 0 (4 * k) 4) a2 a3 a4 1 k T2 (by decide) b7 (by omega) hk s1) cw_RX4_76 dX4_fetched_210 ⟨Nat.le_of_ble_eq_true rfl, Nat.le_of_ble_eq_true rfl, Nat.le_of_ble_eq_true rfl, Nat.le_of_ble_eq_true rfl⟩ rfl (Nat.le_of_ble_eq_true rfl) rfl rfl rfl (by decide) rfl (fun _ => Nat.le_of_ble_eq_true rfl) (fun _ => rfl) _ rfl (fun v (z : (Nat → Int32) × (Nat → Int32)) hp => ?_)
              obtain ⟨rfl, y1, y2, y3, y4⟩ := hp
              refine KJ.eqs (st' := []) rfl ?_
              refine k_iconst hC 213 dX4_fetched_213 (nI 2) (by decide) ?_
              refine k_iload_n hC 214 dX4_fetched_214 rfl ?_
              refine n_iadd hC 215 2 dX4_fetched_215 (by omega) ?_
              refine KJ.sub [0, 1, 2, 3, 4] (by decide) rfl rfl ?_
              exact k_iret hC hE 216 ((upd (va_cpy (upd (upd (upd (upd (fun _ => 0) 0 (-1)) 1 (nI 0)) 2 (nI 0)) 3 (nI 1)) a1 0 (4 * k) 4) (4 * k) (nI 1)), z.1, a3, z.2) dX4_fetched_216 rfl (⟨by rw [ho2], hbr ▸ (show MR _ _ from ⟨⟨(RowL_keep s0 (fun i hi => y3 _ (by omega))), y1, s2, s3⟩, ((hj2.new k rfl rfl rfl rfl).sh k (nI 1)).as (sf_put2 (sf_1 mk.1 (by simp)) (fun y hy => Iff.rfl) (fun y hy => by simp [hy])), ⟨(y4 0 (by decide)).trans b0, (y4 1 (by decide)).trans b1, (y4 2 (by decide)).trans b2, (y4 3 (by decide)).trans b3, (y4 4 (by decide)).trans b4, (y4 5 (by decide)).trans b5⟩, (y4 6 (by decide)).trans b6, y2, (y4 8 (by decide)).trans b8, (y4 9 (by decide)).trans b9⟩)⟩) rfl ⟨Nat.le_of_ble_eq_true rfl, Nat.le_of_ble_eq_true rfl⟩
            · skip
              exact absurd h201 (by decide)
    · skip
      rw [hsf]
      have lp := List.length_pos_of_mem hx
      have tb := tn_le (x := A) (y := B) lA
      refine k_istore_n hC 50 2 [(2, .int (nI 1)), (0, .ref (o 0)), (1, .int (nI k))] dX4_fetched_50 rfl (by decide) rfl ?_
      refine k_aload_n hC 51 dX4_fetched_51 rfl ?_
      refine k_getf hC 52 0 4 dX4_fetched_52 rfl rfl inlX4 (by decide) wq_3_7 rfl ?_
      refine k_iconst hC 55 dX4_fetched_55 (nI 3) (by decide) ?_
      refine k_dup2 hC 56 dX4_fetched_56 rfl rfl ?_
      refine n_iald hC 57 4 mi dX4_fetched_57 rfl (by omega) (by decide) n3 ?_
      refine k_iconst hC 58 dX4_fetched_58 (nI 1) (by decide) ?_
      refine k_iadd hC 59 dX4_fetched_59 (KJ.topi (y := (mi + 1)) rfl ?_)
      refine n_iast hC 60 4 [((o 0), .inr (4, [.int th, .ref (o 1), .ref (o 2), .ref (o 3), .ref (o 4)])), ((o 1), .inl (D.1 5, 160, .inl fj)), ((o 2), .inl (D.1 5, 24, .inl fs)), ((o 3), .inl (D.1 5, 26, .inl fl)), ((o 4), .inl (D.1 5, 10, .inl (upd fn 3 (mi + 1))))] dX4_fetched_60 rfl (by omega) (by decide) rfl ?_
      refine k_iload_n hC 61 dX4_fetched_61 rfl ?_
      refine k_iconst hC 62 dX4_fetched_62 (-1) (by decide) ?_
      refine k_icmp_eq hC 63 147 dX4_fetched_63 (by decide) (fun h63 => ?_) (fun h63 => ?_)
      · skip
        exact absurd h63 (by decide)
      · skip
        refine k_iconst hC 66 dX4_fetched_66 (nI 1) (by decide) ?_
        refine k_aload_n hC 67 dX4_fetched_67 rfl ?_
        refine k_iconst hC 68 dX4_fetched_68 (nI 1) (by decide) ?_
        refine k_iload_n hC 69 dX4_fetched_69 rfl ?_
        refine n_isub hC 70 0 dX4_fetched_70 (by omega) (by omega) ?_
        refine k_callVr hC 71 0 [0, 1, 2, 3, 4] (m_listed l D o th fj fs fl (upd fn 3 (mi + 1)) 0 (by decide)) cw_RX4_44 dX4_fetched_71 ⟨Nat.le_of_ble_eq_true rfl, Nat.le_of_ble_eq_true rfl, Nat.le_of_ble_eq_true rfl, Nat.le_of_ble_eq_true rfl⟩ rfl (Nat.le_of_ble_eq_true rfl) rfl rfl rfl (by decide) rfl (fun _ => Nat.le_of_ble_eq_true rfl) (fun _ => rfl) _ rfl (fun v u hp => ?_)
        obtain rfl := hp
        refine KJ.eqs (st' := .int ((upd fn 3 (mi + 1)) (8 + 0)) :: .int (nI 1) :: []) rfl ?_
        refine KJ.topi (y := (nI A.length)) ((upd_n (by decide)).trans n8) ?_
        refine k_aload_n hC 74 dX4_fetched_74 rfl ?_
        refine k_iload_n hC 75 dX4_fetched_75 rfl ?_
        refine k_callVr hC 76 0 [0, 1, 2, 3, 4] (m_listed l D o th fj fs fl (upd fn 3 (mi + 1)) 1 (by decide)) cw_RX4_44 dX4_fetched_76 ⟨Nat.le_of_ble_eq_true rfl, Nat.le_of_ble_eq_true rfl, Nat.le_of_ble_eq_true rfl, Nat.le_of_ble_eq_true rfl⟩ rfl (Nat.le_of_ble_eq_true rfl) rfl rfl rfl (by decide) rfl (fun _ => Nat.le_of_ble_eq_true rfl) (fun _ => rfl) _ rfl (fun v u hp => ?_)
        obtain rfl := hp
        refine KJ.eqs (st' := .int ((upd fn 3 (mi + 1)) (8 + 1)) :: .int (nI A.length) :: .int (nI 1) :: []) rfl ?_
        refine KJ.topi (y := (nI B.length)) ((upd_n (by decide)).trans n9) ?_
        refine k_idiv hC 79 dX4_fetched_79 (nI_ne0 (by omega) (by omega)) (KJ.topi (y := (nI (A.length / B.length))) (pk_div (by omega) (by omega) (by omega)) ?_)
        refine k_max hC 80 dX4_fetched_80 wq_9_22 wq_6_10 wq_6_6 wq_6_11 ⟨Nat.le_of_ble_eq_true rfl, Nat.le_of_ble_eq_true rfl, Nat.le_of_ble_eq_true rfl, Nat.le_of_ble_eq_true rfl⟩ (KJ.topi (y := (nI (tn A B))) (nmax (by decide) (Nat.lt_of_le_of_lt (Nat.div_le_self _ _) (by omega))) ?_)
        refine k_istore_n hC 83 3 [(3, .int (nI (tn A B))), (2, .int (nI 1)), (0, .ref (o 0)), (1, .int (nI k))] dX4_fetched_83 rfl (by decide) rfl ?_
        refine k_aload_n hC 84 dX4_fetched_84 rfl ?_
        refine k_getf hC 85 0 4 dX4_fetched_85 rfl rfl inlX4 (by decide) wq_3_7 rfl ?_
        refine k_iconst hC 88 dX4_fetched_88 (nI 1) (by decide) ?_
        refine k_iload_n hC 89 dX4_fetched_89 rfl ?_
        refine n_if_ne hC 90 113 dX4_fetched_90 (by decide) (by omega) (fun h90 => ?_) (fun h90 => ?_)
        · skip
          refine k_iconst hC 113 dX4_fetched_113 (nI 0) (by decide) ?_
          refine k_aload_n hC 114 dX4_fetched_114 rfl ?_
          refine k_getf hC 115 0 4 dX4_fetched_115 rfl rfl inlX4 (by decide) wq_3_7 rfl ?_
          refine k_iconst hC 118 dX4_fetched_118 (nI 1) (by decide) ?_
          refine n_iald hC 119 4 (nI go) dX4_fetched_119 rfl (by omega) (by decide) ((upd_n (by decide)).trans n1) ?_
          refine k_iload_n hC 120 dX4_fetched_120 rfl ?_
          refine k_isub hC 121 dX4_fetched_121 (KJ.topi (y := (nI go - nI (tn A B))) rfl ?_)
          refine k_max hC 122 dX4_fetched_122 wq_9_22 wq_6_10 wq_6_6 wq_6_11 ⟨Nat.le_of_ble_eq_true rfl, Nat.le_of_ble_eq_true rfl, Nat.le_of_ble_eq_true rfl, Nat.le_of_ble_eq_true rfl⟩ (KJ.topi (y := (nI (go - tn A B))) (nsubmax (by omega) (by omega)) ?_)
          refine n_iast hC 125 4 [((o 0), .inr (4, [.int th, .ref (o 1), .ref (o 2), .ref (o 3), .ref (o 4)])), ((o 1), .inl (D.1 5, 160, .inl fj)), ((o 2), .inl (D.1 5, 24, .inl fs)), ((o 3), .inl (D.1 5, 26, .inl fl)), ((o 4), .inl (D.1 5, 10, .inl (upd (upd fn 3 (mi + 1)) 1 (nI (go - tn A B)))))] dX4_fetched_125 rfl (by omega) (by decide) rfl ?_
          refine k_aload_n hC 126 dX4_fetched_126 rfl ?_
          refine k_iload_n hC 127 dX4_fetched_127 rfl ?_
          refine k_aload_n hC 128 dX4_fetched_128 rfl ?_
          refine k_iload_n hC 129 dX4_fetched_129 rfl ?_
          refine k_iload_n hC 130 dX4_fetched_130 rfl ?_
          refine k_callVr hC 131 0 [0, 1, 2, 3, 4] (m_listPlace l D o th fj fs fl (upd (upd fn 3 (mi + 1)) 1 (nI (go - tn A B))) 1 B k (by decide) ((upd_n (by decide)).trans ((upd_n (by decide)).trans n9)) lB kB r3 hk) cw_RX4_89 dX4_fetched_131 ⟨Nat.le_of_ble_eq_true rfl, Nat.le_of_ble_eq_true rfl, Nat.le_of_ble_eq_true rfl, Nat.le_of_ble_eq_true rfl⟩ rfl (Nat.le_of_ble_eq_true rfl) rfl rfl rfl (by decide) rfl (fun _ => Nat.le_of_ble_eq_true rfl) (fun _ => rfl) _ rfl (fun v u hp => ?_)
          obtain rfl := hp
          refine KJ.eqs (st' := .int (ixv B k) :: .int (nI 1) :: .ref (o 0) :: []) rfl ?_
          refine KJ.topi (y := (nI (B.idxOf k))) (ixv_in hx) ?_
          refine k_callV hC 134 0 [0, 1, 2, 3, 4] (fun (x0 : (Nat → Int32) × (Nat → Int32)) => [((o 0), .inr (4, [.int th, .ref (o 1), .ref (o 2), .ref (o 3), .ref (o 4)])), ((o 1), .inl (D.1 5, 160, .inl fj)), ((o 2), .inl (D.1 5, 24, .inl fs)), ((o 3), .inl (D.1 5, 26, .inl x0.1)), ((o 4), .inl (D.1 5, 10, .inl x0.2))]) (m_takeOffR l D o th fj fs fl (upd (upd fn 3 (mi + 1)) 1 (nI (go - tn A B))) 1 (B.idxOf k) B (by decide) ((upd_n (by decide)).trans ((upd_n (by decide)).trans n9)) (List.idxOf_lt_length_of_mem hx) lB r3) cw_RX4_47 dX4_fetched_134 ⟨Nat.le_of_ble_eq_true rfl, Nat.le_of_ble_eq_true rfl, Nat.le_of_ble_eq_true rfl, Nat.le_of_ble_eq_true rfl⟩ rfl (Nat.le_of_ble_eq_true rfl) rfl rfl rfl (by decide) rfl (fun _ => Nat.le_of_ble_eq_true rfl) (fun _ => rfl) _ rfl (fun v (x0 : (Nat → Int32) × (Nat → Int32)) hp => ?_)
          obtain ⟨rfl, x1, x2, x3, x4⟩ := hp
          refine KJ.eqs (st' := []) rfl ?_
          refine k_aload_n hC 137 dX4_fetched_137 rfl ?_
          refine k_getf hC 138 0 4 dX4_fetched_138 rfl rfl inlX4 (by decide) wq_3_7 rfl ?_
          refine k_iconst hC 141 dX4_fetched_141 (nI 4) (by decide) ?_
          refine k_dup2 hC 142 dX4_fetched_142 rfl rfl ?_
          refine n_iald hC 143 4 re dX4_fetched_143 rfl (by omega) (by decide) ((x4 4 (by decide)).trans ((upd_n (by decide)).trans ((upd_n (by decide)).trans n4))) ?_
          refine k_iconst hC 144 dX4_fetched_144 (nI 1) (by decide) ?_
          refine k_iadd hC 145 dX4_fetched_145 (KJ.topi (y := (re + 1)) rfl ?_)
          refine n_iast hC 146 4 [((o 0), .inr (4, [.int th, .ref (o 1), .ref (o 2), .ref (o 3), .ref (o 4)])), ((o 1), .inl (D.1 5, 160, .inl fj)), ((o 2), .inl (D.1 5, 24, .inl fs)), ((o 3), .inl (D.1 5, 26, .inl x0.1)), ((o 4), .inl (D.1 5, 10, .inl (upd x0.2 4 (re + 1))))] dX4_fetched_146 rfl (by omega) (by decide) rfl ?_
          have hM1 : MR (N, T, A, (B.eraseIdx (B.idxOf k)), to, pi, fe, pl, (go - tn A B), hi, (mi + 1), (re + 1), lo) (fj, fs, x0.1, upd x0.2 4 (re + 1)) := ⟨⟨r0, r1, (RowL_keep r2 (fun i hi => x3 _ (by omega))), x1⟩, hj, ⟨(upd_n (by decide)).trans ((x4 0 (by decide)).trans ((upd_n (by decide)).trans ((upd_n (by decide)).trans n0))), (upd_n (by decide)).trans ((x4 1 (by decide)).trans (upd_s _ _ _)), (upd_n (by decide)).trans ((x4 2 (by decide)).trans ((upd_n (by decide)).trans ((upd_n (by decide)).trans n2))), (upd_n (by decide)).trans ((x4 3 (by decide)).trans ((upd_n (by decide)).trans (upd_s _ _ _))), upd_s _ _ _, (upd_n (by decide)).trans ((x4 5 (by decide)).trans ((upd_n (by decide)).trans ((upd_n (by decide)).trans n5)))⟩, (upd_n (by decide)).trans ((x4 6 (by decide)).trans ((upd_n (by decide)).trans ((upd_n (by decide)).trans n6))), (upd_n (by decide)).trans ((x4 7 (by decide)).trans ((upd_n (by decide)).trans ((upd_n (by decide)).trans n7))), (upd_n (by decide)).trans ((x4 8 (by decide)).trans ((upd_n (by decide)).trans ((upd_n (by decide)).trans n8))), (upd_n (by decide)).trans x2⟩
          have w1 : WF (N, T, A, (B.eraseIdx (B.idxOf k)), to, pi, fe, pl, (go - tn A B), hi, (mi + 1), (re + 1), lo) := rcl_wf (missS_wf hW0) k 3
          obtain ⟨sm, hsm⟩ : ∃ z : PS, z = (if plS (N, T, A, (B.eraseIdx (B.idxOf k)), to, pi, fe, pl, (go - tn A B), hi, (mi + 1), (re + 1), lo) ≤ jrs (N, T, A, (B.eraseIdx (B.idxOf k)), to, pi, fe, pl, (go - tn A B), hi, (mi + 1), (re + 1), lo) then (sw (N, T, A, (B.eraseIdx (B.idxOf k)), to, pi, fe, pl, (go - tn A B), hi, (mi + 1), (re + 1), lo)).1 else (N, T, A, (B.eraseIdx (B.idxOf k)), to, pi, fe, pl, (go - tn A B), hi, (mi + 1), (re + 1), lo)) := ⟨_, rfl⟩
          have mo : WF sm ∧ k ∉ sm.1 ++ sm.2.1 ∧ jrs sm < 12 := by rw [hsm]; exact mid_ok hW0 ho2 (by decide) (by decide)
          have mp : pl ≤ N.length + T.length → pnd (N, T, A, (B.eraseIdx (B.idxOf k)), to, pi, fe, pl, (go - tn A B), hi, (mi + 1), (re + 1), lo) < jrs (N, T, A, (B.eraseIdx (B.idxOf k)), to, pi, fe, pl, (go - tn A B), hi, (mi + 1), (re + 1), lo) := mid_pj ho2 (by decide) (by decide)
          have hbr : br (N, T, A, B, to, pi, fe, pl, go, hi, mi, re, lo) k = plc sm k 3 := by rw [hsm]; exact br_m ho2 (by decide) (by decide)
          refine k_aload_n hC 147 dX4_fetched_147 rfl ?_
          refine k_callVr hC 148 0 [0, 1, 2, 3, 4] (m_all l D o th fj fs x0.1 (upd x0.2 4 (re + 1)) N.length T.length hM1.2.2.2.1 hM1.2.2.2.2.1) cw_RX4_82 dX4_fetched_148 ⟨Nat.le_of_ble_eq_true rfl, Nat.le_of_ble_eq_true rfl, Nat.le_of_ble_eq_true rfl, Nat.le_of_ble_eq_true rfl⟩ rfl (Nat.le_of_ble_eq_true rfl) rfl rfl rfl (by decide) rfl (fun _ => Nat.le_of_ble_eq_true rfl) (fun _ => rfl) _ rfl (fun v u hp => ?_)
          obtain rfl := hp
          refine KJ.eqs (st' := .int (nI (N.length + T.length)) :: []) rfl ?_
          refine k_aload_n hC 151 dX4_fetched_151 rfl ?_
          refine k_getf hC 152 0 4 dX4_fetched_152 rfl rfl inlX4 (by decide) wq_3_7 rfl ?_
          refine k_iconst hC 155 dX4_fetched_155 (nI 0) (by decide) ?_
          refine n_iald hC 156 4 (nI pl) dX4_fetched_156 rfl (by omega) (by decide) hM1.2.2.1.1 ?_
          refine n_icmp_ne hC 157 165 dX4_fetched_157 (by decide) (by omega) (by omega) (fun h157 => ?_) (fun h157 => ?_)
          · skip
            have hM2 : MR sm (fj, fs, x0.1, upd x0.2 4 (re + 1)) := by rw [hsm, if_neg (show ¬ plS (N, T, A, (B.eraseIdx (B.idxOf k)), to, pi, fe, pl, (go - tn A B), hi, (mi + 1), (re + 1), lo) ≤ jrs (N, T, A, (B.eraseIdx (B.idxOf k)), to, pi, fe, pl, (go - tn A B), hi, (mi + 1), (re + 1), lo) from fun z => by have z2 : pl ≤ N.length + T.length := z; omega)]; exact hM1
            obtain ⟨N2, T2, A2, B2, to2, pi2, fe2, pl2, go2, hi2, mi2, re2, lo2⟩ := sm
            obtain ⟨⟨s0, s1, s2, s3⟩, hj2, ⟨b0, b1, b2, b3, b4, b5⟩, b6, b7, b8, b9⟩ := hM2
            have mj : N2.length + T2.length < 12 := mo.2.2
            have mk : k ∉ N2 ∧ k ∉ T2 := ⟨fun z => mo.2.1 (List.mem_append_left _ z), fun z => mo.2.1 (List.mem_append_right _ z)⟩
            refine k_iconst hC 165 dX4_fetched_165 (nI 4) (by decide) ?_
            refine k_newarrI hC 166 4 dX4_fetched_166 (by decide) (by decide) ⟨Nat.le_of_ble_eq_true rfl, Nat.le_of_ble_eq_true rfl⟩ (fun q166 => ?_)
            refine KJ.eqw (ws' := [((o 0), .inr (4, [.int th, .ref (o 1), .ref (o 2), .ref (o 3), .ref (o 4)])), ((o 1), .inl (D.1 5, 160, .inl fj)), ((o 2), .inl (D.1 5, 24, .inl fs)), ((o 3), .inl (D.1 5, 26, .inl x0.1)), ((o 4), .inl (D.1 5, 10, .inl (upd x0.2 4 (re + 1)))), (q166, .inl (D.1 5, 4, .inl (fun _ => 0)))]) rfl ?_
            refine k_dup hC 168 dX4_fetched_168 rfl ?_
            refine k_iconst hC 169 dX4_fetched_169 (nI 0) (by decide) ?_
            refine k_iconst hC 170 dX4_fetched_170 (-1) (by decide) ?_
            refine n_iast hC 171 5 [((o 0), .inr (4, [.int th, .ref (o 1), .ref (o 2), .ref (o 3), .ref (o 4)])), ((o 1), .inl (D.1 5, 160, .inl fj)), ((o 2), .inl (D.1 5, 24, .inl fs)), ((o 3), .inl (D.1 5, 26, .inl x0.1)), ((o 4), .inl (D.1 5, 10, .inl (upd x0.2 4 (re + 1)))), (q166, .inl (D.1 5, 4, .inl (upd (fun _ => 0) 0 (-1))))] dX4_fetched_171 rfl (by omega) (by decide) rfl ?_
            refine k_dup hC 172 dX4_fetched_172 rfl ?_
            refine k_iconst hC 173 dX4_fetched_173 (nI 1) (by decide) ?_
            refine k_iconst hC 174 dX4_fetched_174 (nI 0) (by decide) ?_
            refine n_iast hC 175 5 [((o 0), .inr (4, [.int th, .ref (o 1), .ref (o 2), .ref (o 3), .ref (o 4)])), ((o 1), .inl (D.1 5, 160, .inl fj)), ((o 2), .inl (D.1 5, 24, .inl fs)), ((o 3), .inl (D.1 5, 26, .inl x0.1)), ((o 4), .inl (D.1 5, 10, .inl (upd x0.2 4 (re + 1)))), (q166, .inl (D.1 5, 4, .inl (upd (upd (fun _ => 0) 0 (-1)) 1 (nI 0))))] dX4_fetched_175 rfl (by omega) (by decide) rfl ?_
            refine k_dup hC 176 dX4_fetched_176 rfl ?_
            refine k_iconst hC 177 dX4_fetched_177 (nI 2) (by decide) ?_
            refine k_iconst hC 178 dX4_fetched_178 (nI 0) (by decide) ?_
            refine n_iast hC 179 5 [((o 0), .inr (4, [.int th, .ref (o 1), .ref (o 2), .ref (o 3), .ref (o 4)])), ((o 1), .inl (D.1 5, 160, .inl fj)), ((o 2), .inl (D.1 5, 24, .inl fs)), ((o 3), .inl (D.1 5, 26, .inl x0.1)), ((o 4), .inl (D.1 5, 10, .inl (upd x0.2 4 (re + 1)))), (q166, .inl (D.1 5, 4, .inl (upd (upd (upd (fun _ => 0) 0 (-1)) 1 (nI 0)) 2 (nI 0))))] dX4_fetched_179 rfl (by omega) (by decide) rfl ?_
            refine k_dup hC 180 dX4_fetched_180 rfl ?_
            refine k_iconst hC 181 dX4_fetched_181 (nI 3) (by decide) ?_
            refine k_iconst hC 182 dX4_fetched_182 (nI 1) (by decide) ?_
            refine n_iast hC 183 5 [((o 0), .inr (4, [.int th, .ref (o 1), .ref (o 2), .ref (o 3), .ref (o 4)])), ((o 1), .inl (D.1 5, 160, .inl fj)), ((o 2), .inl (D.1 5, 24, .inl fs)), ((o 3), .inl (D.1 5, 26, .inl x0.1)), ((o 4), .inl (D.1 5, 10, .inl (upd x0.2 4 (re + 1)))), (q166, .inl (D.1 5, 4, .inl (upd (upd (upd (upd (fun _ => 0) 0 (-1)) 1 (nI 0)) 2 (nI 0)) 3 (nI 1))))] dX4_fetched_183 rfl (by omega) (by decide) rfl ?_
            refine k_astore_n hC 184 3 [(3, .ref q166), (2, .int (nI 1)), (0, .ref (o 0)), (1, .int (nI k))] dX4_fetched_184 rfl (by decide) rfl ?_
            refine k_aload_n hC 185 dX4_fetched_185 rfl ?_
            refine k_iconst hC 186 dX4_fetched_186 (nI 0) (by decide) ?_
            refine k_aload_n hC 187 dX4_fetched_187 rfl ?_
            refine k_getf hC 188 0 1 dX4_fetched_188 rfl rfl inlX4 (by decide) wq_3_4 rfl ?_
            refine k_iconst hC 191 dX4_fetched_191 (nI 4) (by decide) ?_
            refine k_iload_n hC 192 dX4_fetched_192 rfl ?_
            refine n_imul hC 193 (4 * k) dX4_fetched_193 rfl ?_
            refine k_iconst hC 194 dX4_fetched_194 (nI 4) (by decide) ?_
            refine k_copy hC 195 (sp := 0) (dp := 4 * k) (n := 4) 5 1 [((o 0), .inr (4, [.int th, .ref (o 1), .ref (o 2), .ref (o 3), .ref (o 4)])), ((o 1), .inl (D.1 5, 160, .inl (va_cpy (upd (upd (upd (upd (fun _ => 0) 0 (-1)) 1 (nI 0)) 2 (nI 0)) 3 (nI 1)) fj 0 (4 * k) 4))), ((o 2), .inl (D.1 5, 24, .inl fs)), ((o 3), .inl (D.1 5, 26, .inl x0.1)), ((o 4), .inl (D.1 5, 10, .inl (upd x0.2 4 (re + 1)))), (q166, .inl (D.1 5, 4, .inl (upd (upd (upd (upd (fun _ => 0) 0 (-1)) 1 (nI 0)) 2 (nI 0)) 3 (nI 1))))] dX4_fetched_195 wq_10_0 wq_10_1 wq_10_2 wq_10_3 ⟨Nat.le_of_ble_eq_true rfl, Nat.le_of_ble_eq_true rfl⟩ rfl rfl ⟨by decide, by decide⟩ (by omega) (by omega) rfl ?_
            refine k_aload_n hC 198 dX4_fetched_198 rfl ?_
            refine k_iload_n hC 199 dX4_fetched_199 rfl ?_
            refine k_iconst hC 200 dX4_fetched_200 (-1) (by decide) ?_
            refine k_icmp_ne hC 201 208 dX4_fetched_201 (by decide) (fun h201 => ?_) (fun h201 => ?_)
            · skip
              refine k_iconst hC 208 dX4_fetched_208 (nI 1) (by decide) ?_
              refine k_iload_n hC 209 dX4_fetched_209 rfl ?_
              refine k_callV hC 210 0 [0, 1, 2, 3, 4] (fun (z : (Nat → Int32) × (Nat → Int32)) => [((o 0), .inr (4, [.int th, .ref (o 1), .ref (o 2), .ref (o 3), .ref (o 4)])), ((o 1), .inl (D.1 5, 160, .inl (upd (va_cpy (upd (upd (upd (upd (fun _ => 0) 0 (-1)) 1 (nI 0)) 2 (nI 0)) 3 (nI 1)) fj 0 (4 * k) 4) (4 * k) (nI 1)))), ((o 2), .inl (D.1 5, 24, .inl z.1)), ((o 3), .inl (D.1 5, 26, .inl x0.1)), ((o 4), .inl (D.1 5, 10, .inl z.2)), (q166, .inl (D.1 5, 4, .inl (upd (upd (upd (upd (fun _ => 0) 0 (-1)) 1 (nI 0)) 2 (nI 0)) 3 (nI 1))))]) (m_putLastR l D o th (va_cpy (upd (upd (upd (upd (fun _ => 0) 0 (-1)) 1 (nI 0)) 2 (nI 0)) 3 (nI 1)) fj 0 (4 * k) 4) fs x0.1 (upd x0.2 4 (re + 1)) 1 k T2 (by decide) b7 (by omega) hk s1) cw_RX4_76 dX4_fetched_210 ⟨Nat.le_of_ble_eq_true rfl, Nat.le_of_ble_eq_true rfl, Nat.le_of_ble_eq_true rfl, Nat.le_of_ble_eq_true rfl⟩ rfl (Nat.le_of_ble_eq_true rfl) rfl rfl rfl (by decide) rfl (fun _ => Nat.le_of_ble_eq_true rfl) (fun _ => rfl) _ rfl (fun v (z : (Nat → Int32) × (Nat → Int32)) hp => ?_)
              obtain ⟨rfl, y1, y2, y3, y4⟩ := hp
              refine KJ.eqs (st' := []) rfl ?_
              refine k_iconst hC 213 dX4_fetched_213 (nI 2) (by decide) ?_
              refine k_iload_n hC 214 dX4_fetched_214 rfl ?_
              refine n_iadd hC 215 3 dX4_fetched_215 (by omega) ?_
              refine KJ.sub [0, 1, 2, 3, 4] (by decide) rfl rfl ?_
              exact k_iret hC hE 216 ((upd (va_cpy (upd (upd (upd (upd (fun _ => 0) 0 (-1)) 1 (nI 0)) 2 (nI 0)) 3 (nI 1)) fj 0 (4 * k) 4) (4 * k) (nI 1)), z.1, x0.1, z.2) dX4_fetched_216 rfl (⟨by rw [ho2], hbr ▸ (show MR _ _ from ⟨⟨(RowL_keep s0 (fun i hi => y3 _ (by omega))), y1, s2, s3⟩, ((hj2.new k rfl rfl rfl rfl).sh k (nI 1)).as (sf_put2 (sf_1 mk.1 (by simp)) (fun y hy => Iff.rfl) (fun y hy => by simp [hy])), ⟨(y4 0 (by decide)).trans b0, (y4 1 (by decide)).trans b1, (y4 2 (by decide)).trans b2, (y4 3 (by decide)).trans b3, (y4 4 (by decide)).trans b4, (y4 5 (by decide)).trans b5⟩, (y4 6 (by decide)).trans b6, y2, (y4 8 (by decide)).trans b8, (y4 9 (by decide)).trans b9⟩)⟩) rfl ⟨Nat.le_of_ble_eq_true rfl, Nat.le_of_ble_eq_true rfl⟩
            · skip
              exact absurd h201 (by decide)
          · skip
            have hc : pl ≤ N.length + T.length := by omega
            refine k_aload_n hC 160 dX4_fetched_160 rfl ?_
            have so := sw_ok w1 (mp hc)
            have hs2 : sm = (sw (N, T, A, (B.eraseIdx (B.idxOf k)), to, pi, fe, pl, (go - tn A B), hi, (mi + 1), (re + 1), lo)).1 := hsm.trans (if_pos hc)
            refine k_callV hC 161 0 [0, 1, 2, 3, 4] (fun (y0 : MG) => [((o 0), .inr (4, [.int th, .ref (o 1), .ref (o 2), .ref (o 3), .ref (o 4)])), ((o 1), .inl (D.1 5, 160, .inl y0.1)), ((o 2), .inl (D.1 5, 24, .inl y0.2.1)), ((o 3), .inl (D.1 5, 26, .inl y0.2.2.1)), ((o 4), .inl (D.1 5, 10, .inl y0.2.2.2))]) (m_sweep l D o th fj fs x0.1 (upd x0.2 4 (re + 1)) N T A (B.eraseIdx (B.idxOf k)) to pi fe pl (go - tn A B) hi (mi + 1) (re + 1) lo 200 sm (sw (N, T, A, (B.eraseIdx (B.idxOf k)), to, pi, fe, pl, (go - tn A B), hi, (mi + 1), (re + 1), lo)).2 hM1 w1 (by rw [hs2]; exact so.1) (mp hc)) cw_RX4_98 dX4_fetched_161 ⟨Nat.le_of_ble_eq_true rfl, Nat.le_of_ble_eq_true rfl, Nat.le_of_ble_eq_true rfl, Nat.le_of_ble_eq_true rfl⟩ rfl (Nat.le_of_ble_eq_true rfl) rfl rfl rfl (by decide) rfl (fun _ => Nat.le_of_ble_eq_true rfl) (fun _ => rfl) _ rfl (fun v (y0 : MG) hp => ?_)
            obtain ⟨rfl, hM2⟩ := hp
            refine KJ.eqs (st' := .int (nI ((sw (N, T, A, (B.eraseIdx (B.idxOf k)), to, pi, fe, pl, (go - tn A B), hi, (mi + 1), (re + 1), lo)).2)) :: []) rfl ?_
            refine k_pop hC 164 dX4_fetched_164 rfl ?_
            obtain ⟨a1, a2, a3, a4⟩ := y0
            refine KJ.eqw (ws' := [((o 0), .inr (4, [.int th, .ref (o 1), .ref (o 2), .ref (o 3), .ref (o 4)])), ((o 1), .inl (D.1 5, 160, .inl a1)), ((o 2), .inl (D.1 5, 24, .inl a2)), ((o 3), .inl (D.1 5, 26, .inl a3)), ((o 4), .inl (D.1 5, 10, .inl a4))]) rfl ?_
            obtain ⟨N2, T2, A2, B2, to2, pi2, fe2, pl2, go2, hi2, mi2, re2, lo2⟩ := sm
            obtain ⟨⟨s0, s1, s2, s3⟩, hj2, ⟨b0, b1, b2, b3, b4, b5⟩, b6, b7, b8, b9⟩ := hM2
            have mj : N2.length + T2.length < 12 := mo.2.2
            have mk : k ∉ N2 ∧ k ∉ T2 := ⟨fun z => mo.2.1 (List.mem_append_left _ z), fun z => mo.2.1 (List.mem_append_right _ z)⟩
            refine k_iconst hC 165 dX4_fetched_165 (nI 4) (by decide) ?_
            refine k_newarrI hC 166 4 dX4_fetched_166 (by decide) (by decide) ⟨Nat.le_of_ble_eq_true rfl, Nat.le_of_ble_eq_true rfl⟩ (fun q166 => ?_)
            refine KJ.eqw (ws' := [((o 0), .inr (4, [.int th, .ref (o 1), .ref (o 2), .ref (o 3), .ref (o 4)])), ((o 1), .inl (D.1 5, 160, .inl a1)), ((o 2), .inl (D.1 5, 24, .inl a2)), ((o 3), .inl (D.1 5, 26, .inl a3)), ((o 4), .inl (D.1 5, 10, .inl a4)), (q166, .inl (D.1 5, 4, .inl (fun _ => 0)))]) rfl ?_
            refine k_dup hC 168 dX4_fetched_168 rfl ?_
            refine k_iconst hC 169 dX4_fetched_169 (nI 0) (by decide) ?_
            refine k_iconst hC 170 dX4_fetched_170 (-1) (by decide) ?_
            refine n_iast hC 171 5 [((o 0), .inr (4, [.int th, .ref (o 1), .ref (o 2), .ref (o 3), .ref (o 4)])), ((o 1), .inl (D.1 5, 160, .inl a1)), ((o 2), .inl (D.1 5, 24, .inl a2)), ((o 3), .inl (D.1 5, 26, .inl a3)), ((o 4), .inl (D.1 5, 10, .inl a4)), (q166, .inl (D.1 5, 4, .inl (upd (fun _ => 0) 0 (-1))))] dX4_fetched_171 rfl (by omega) (by decide) rfl ?_
            refine k_dup hC 172 dX4_fetched_172 rfl ?_
            refine k_iconst hC 173 dX4_fetched_173 (nI 1) (by decide) ?_
            refine k_iconst hC 174 dX4_fetched_174 (nI 0) (by decide) ?_
            refine n_iast hC 175 5 [((o 0), .inr (4, [.int th, .ref (o 1), .ref (o 2), .ref (o 3), .ref (o 4)])), ((o 1), .inl (D.1 5, 160, .inl a1)), ((o 2), .inl (D.1 5, 24, .inl a2)), ((o 3), .inl (D.1 5, 26, .inl a3)), ((o 4), .inl (D.1 5, 10, .inl a4)), (q166, .inl (D.1 5, 4, .inl (upd (upd (fun _ => 0) 0 (-1)) 1 (nI 0))))] dX4_fetched_175 rfl (by omega) (by decide) rfl ?_
            refine k_dup hC 176 dX4_fetched_176 rfl ?_
            refine k_iconst hC 177 dX4_fetched_177 (nI 2) (by decide) ?_
            refine k_iconst hC 178 dX4_fetched_178 (nI 0) (by decide) ?_
            refine n_iast hC 179 5 [((o 0), .inr (4, [.int th, .ref (o 1), .ref (o 2), .ref (o 3), .ref (o 4)])), ((o 1), .inl (D.1 5, 160, .inl a1)), ((o 2), .inl (D.1 5, 24, .inl a2)), ((o 3), .inl (D.1 5, 26, .inl a3)), ((o 4), .inl (D.1 5, 10, .inl a4)), (q166, .inl (D.1 5, 4, .inl (upd (upd (upd (fun _ => 0) 0 (-1)) 1 (nI 0)) 2 (nI 0))))] dX4_fetched_179 rfl (by omega) (by decide) rfl ?_
            refine k_dup hC 180 dX4_fetched_180 rfl ?_
            refine k_iconst hC 181 dX4_fetched_181 (nI 3) (by decide) ?_
            refine k_iconst hC 182 dX4_fetched_182 (nI 1) (by decide) ?_
            refine n_iast hC 183 5 [((o 0), .inr (4, [.int th, .ref (o 1), .ref (o 2), .ref (o 3), .ref (o 4)])), ((o 1), .inl (D.1 5, 160, .inl a1)), ((o 2), .inl (D.1 5, 24, .inl a2)), ((o 3), .inl (D.1 5, 26, .inl a3)), ((o 4), .inl (D.1 5, 10, .inl a4)), (q166, .inl (D.1 5, 4, .inl (upd (upd (upd (upd (fun _ => 0) 0 (-1)) 1 (nI 0)) 2 (nI 0)) 3 (nI 1))))] dX4_fetched_183 rfl (by omega) (by decide) rfl ?_
            refine k_astore_n hC 184 3 [(3, .ref q166), (2, .int (nI 1)), (0, .ref (o 0)), (1, .int (nI k))] dX4_fetched_184 rfl (by decide) rfl ?_
            refine k_aload_n hC 185 dX4_fetched_185 rfl ?_
            refine k_iconst hC 186 dX4_fetched_186 (nI 0) (by decide) ?_
            refine k_aload_n hC 187 dX4_fetched_187 rfl ?_
            refine k_getf hC 188 0 1 dX4_fetched_188 rfl rfl inlX4 (by decide) wq_3_4 rfl ?_
            refine k_iconst hC 191 dX4_fetched_191 (nI 4) (by decide) ?_
            refine k_iload_n hC 192 dX4_fetched_192 rfl ?_
            refine n_imul hC 193 (4 * k) dX4_fetched_193 rfl ?_
            refine k_iconst hC 194 dX4_fetched_194 (nI 4) (by decide) ?_
            refine k_copy hC 195 (sp := 0) (dp := 4 * k) (n := 4) 5 1 [((o 0), .inr (4, [.int th, .ref (o 1), .ref (o 2), .ref (o 3), .ref (o 4)])), ((o 1), .inl (D.1 5, 160, .inl (va_cpy (upd (upd (upd (upd (fun _ => 0) 0 (-1)) 1 (nI 0)) 2 (nI 0)) 3 (nI 1)) a1 0 (4 * k) 4))), ((o 2), .inl (D.1 5, 24, .inl a2)), ((o 3), .inl (D.1 5, 26, .inl a3)), ((o 4), .inl (D.1 5, 10, .inl a4)), (q166, .inl (D.1 5, 4, .inl (upd (upd (upd (upd (fun _ => 0) 0 (-1)) 1 (nI 0)) 2 (nI 0)) 3 (nI 1))))] dX4_fetched_195 wq_10_0 wq_10_1 wq_10_2 wq_10_3 ⟨Nat.le_of_ble_eq_true rfl, Nat.le_of_ble_eq_true rfl⟩ rfl rfl ⟨by decide, by decide⟩ (by omega) (by omega) rfl ?_
            refine k_aload_n hC 198 dX4_fetched_198 rfl ?_
            refine k_iload_n hC 199 dX4_fetched_199 rfl ?_
            refine k_iconst hC 200 dX4_fetched_200 (-1) (by decide) ?_
            refine k_icmp_ne hC 201 208 dX4_fetched_201 (by decide) (fun h201 => ?_) (fun h201 => ?_)
            · skip
              refine k_iconst hC 208 dX4_fetched_208 (nI 1) (by decide) ?_
              refine k_iload_n hC 209 dX4_fetched_209 rfl ?_
              refine k_callV hC 210 0 [0, 1, 2, 3, 4] (fun (z : (Nat → Int32) × (Nat → Int32)) => [((o 0), .inr (4, [.int th, .ref (o 1), .ref (o 2), .ref (o 3), .ref (o 4)])), ((o 1), .inl (D.1 5, 160, .inl (upd (va_cpy (upd (upd (upd (upd (fun _ => 0) 0 (-1)) 1 (nI 0)) 2 (nI 0)) 3 (nI 1)) a1 0 (4 * k) 4) (4 * k) (nI 1)))), ((o 2), .inl (D.1 5, 24, .inl z.1)), ((o 3), .inl (D.1 5, 26, .inl a3)), ((o 4), .inl (D.1 5, 10, .inl z.2)), (q166, .inl (D.1 5, 4, .inl (upd (upd (upd (upd (fun _ => 0) 0 (-1)) 1 (nI 0)) 2 (nI 0)) 3 (nI 1))))]) (m_putLastR l D o th (va_cpy (upd (upd (upd (upd (fun _ => 0) 0 (-1)) 1 (nI 0)) 2 (nI 0)) 3 (nI 1)) a1 0 (4 * k) 4) a2 a3 a4 1 k T2 (by decide) b7 (by omega) hk s1) cw_RX4_76 dX4_fetched_210 ⟨Nat.le_of_ble_eq_true rfl, Nat.le_of_ble_eq_true rfl, Nat.le_of_ble_eq_true rfl, Nat.le_of_ble_eq_true rfl⟩ rfl (Nat.le_of_ble_eq_true rfl) rfl rfl rfl (by decide) rfl (fun _ => Nat.le_of_ble_eq_true rfl) (fun _ => rfl) _ rfl (fun v (z : (Nat → Int32) × (Nat → Int32)) hp => ?_)
              obtain ⟨rfl, y1, y2, y3, y4⟩ := hp
              refine KJ.eqs (st' := []) rfl ?_
              refine k_iconst hC 213 dX4_fetched_213 (nI 2) (by decide) ?_
              refine k_iload_n hC 214 dX4_fetched_214 rfl ?_
              refine n_iadd hC 215 3 dX4_fetched_215 (by omega) ?_
              refine KJ.sub [0, 1, 2, 3, 4] (by decide) rfl rfl ?_
              exact k_iret hC hE 216 ((upd (va_cpy (upd (upd (upd (upd (fun _ => 0) 0 (-1)) 1 (nI 0)) 2 (nI 0)) 3 (nI 1)) a1 0 (4 * k) 4) (4 * k) (nI 1)), z.1, a3, z.2) dX4_fetched_216 rfl (⟨by rw [ho2], hbr ▸ (show MR _ _ from ⟨⟨(RowL_keep s0 (fun i hi => y3 _ (by omega))), y1, s2, s3⟩, ((hj2.new k rfl rfl rfl rfl).sh k (nI 1)).as (sf_put2 (sf_1 mk.1 (by simp)) (fun y hy => Iff.rfl) (fun y hy => by simp [hy])), ⟨(y4 0 (by decide)).trans b0, (y4 1 (by decide)).trans b1, (y4 2 (by decide)).trans b2, (y4 3 (by decide)).trans b3, (y4 4 (by decide)).trans b4, (y4 5 (by decide)).trans b5⟩, (y4 6 (by decide)).trans b6, y2, (y4 8 (by decide)).trans b8, (y4 9 (by decide)).trans b9⟩)⟩) rfl ⟨Nat.le_of_ble_eq_true rfl, Nat.le_of_ble_eq_true rfl⟩
            · skip
              exact absurd h201 (by decide)
        · skip
          exact absurd h90 (by decide)
    · skip
      rw [hsf]
      refine k_istore_n hC 50 2 [(2, .int (-1)), (0, .ref (o 0)), (1, .int (nI k))] dX4_fetched_50 rfl (by decide) rfl ?_
      refine k_aload_n hC 51 dX4_fetched_51 rfl ?_
      refine k_getf hC 52 0 4 dX4_fetched_52 rfl rfl inlX4 (by decide) wq_3_7 rfl ?_
      refine k_iconst hC 55 dX4_fetched_55 (nI 3) (by decide) ?_
      refine k_dup2 hC 56 dX4_fetched_56 rfl rfl ?_
      refine n_iald hC 57 4 mi dX4_fetched_57 rfl (by omega) (by decide) n3 ?_
      refine k_iconst hC 58 dX4_fetched_58 (nI 1) (by decide) ?_
      refine k_iadd hC 59 dX4_fetched_59 (KJ.topi (y := (mi + 1)) rfl ?_)
      refine n_iast hC 60 4 [((o 0), .inr (4, [.int th, .ref (o 1), .ref (o 2), .ref (o 3), .ref (o 4)])), ((o 1), .inl (D.1 5, 160, .inl fj)), ((o 2), .inl (D.1 5, 24, .inl fs)), ((o 3), .inl (D.1 5, 26, .inl fl)), ((o 4), .inl (D.1 5, 10, .inl (upd fn 3 (mi + 1))))] dX4_fetched_60 rfl (by omega) (by decide) rfl ?_
      refine k_iload_n hC 61 dX4_fetched_61 rfl ?_
      refine k_iconst hC 62 dX4_fetched_62 (-1) (by decide) ?_
      refine k_icmp_eq hC 63 147 dX4_fetched_63 (by decide) (fun h63 => ?_) (fun h63 => ?_)
      · skip
        have hM1 : MR (N, T, A, B, to, pi, fe, pl, go, hi, (mi + 1), re, lo) (fj, fs, fl, upd fn 3 (mi + 1)) := ⟨⟨r0, r1, r2, r3⟩, hj, ⟨(upd_n (by decide)).trans n0, (upd_n (by decide)).trans n1, (upd_n (by decide)).trans n2, upd_s _ _ _, (upd_n (by decide)).trans n4, (upd_n (by decide)).trans n5⟩, (upd_n (by decide)).trans n6, (upd_n (by decide)).trans n7, (upd_n (by decide)).trans n8, (upd_n (by decide)).trans n9⟩
        have w1 : WF (N, T, A, B, to, pi, fe, pl, go, hi, (mi + 1), re, lo) := rcl_wf (missS_wf hW0) k 1
        obtain ⟨sm, hsm⟩ : ∃ z : PS, z = (if plS (N, T, A, B, to, pi, fe, pl, go, hi, (mi + 1), re, lo) ≤ jrs (N, T, A, B, to, pi, fe, pl, go, hi, (mi + 1), re, lo) then (sw (N, T, A, B, to, pi, fe, pl, go, hi, (mi + 1), re, lo)).1 else (N, T, A, B, to, pi, fe, pl, go, hi, (mi + 1), re, lo)) := ⟨_, rfl⟩
        have mo : WF sm ∧ k ∉ sm.1 ++ sm.2.1 ∧ jrs sm < 12 := by rw [hsm]; exact mid_ok hW0 ho2 (by decide) (by decide)
        have mp : pl ≤ N.length + T.length → pnd (N, T, A, B, to, pi, fe, pl, go, hi, (mi + 1), re, lo) < jrs (N, T, A, B, to, pi, fe, pl, go, hi, (mi + 1), re, lo) := mid_pj ho2 (by decide) (by decide)
        have hbr : br (N, T, A, B, to, pi, fe, pl, go, hi, mi, re, lo) k = plc sm k 1 := by rw [hsm]; exact br_m ho2 (by decide) (by decide)
        refine k_aload_n hC 147 dX4_fetched_147 rfl ?_
        refine k_callVr hC 148 0 [0, 1, 2, 3, 4] (m_all l D o th fj fs fl (upd fn 3 (mi + 1)) N.length T.length hM1.2.2.2.1 hM1.2.2.2.2.1) cw_RX4_82 dX4_fetched_148 ⟨Nat.le_of_ble_eq_true rfl, Nat.le_of_ble_eq_true rfl, Nat.le_of_ble_eq_true rfl, Nat.le_of_ble_eq_true rfl⟩ rfl (Nat.le_of_ble_eq_true rfl) rfl rfl rfl (by decide) rfl (fun _ => Nat.le_of_ble_eq_true rfl) (fun _ => rfl) _ rfl (fun v u hp => ?_)
        obtain rfl := hp
        refine KJ.eqs (st' := .int (nI (N.length + T.length)) :: []) rfl ?_
        refine k_aload_n hC 151 dX4_fetched_151 rfl ?_
        refine k_getf hC 152 0 4 dX4_fetched_152 rfl rfl inlX4 (by decide) wq_3_7 rfl ?_
        refine k_iconst hC 155 dX4_fetched_155 (nI 0) (by decide) ?_
        refine n_iald hC 156 4 (nI pl) dX4_fetched_156 rfl (by omega) (by decide) hM1.2.2.1.1 ?_
        refine n_icmp_ne hC 157 165 dX4_fetched_157 (by decide) (by omega) (by omega) (fun h157 => ?_) (fun h157 => ?_)
        · skip
          have hM2 : MR sm (fj, fs, fl, upd fn 3 (mi + 1)) := by rw [hsm, if_neg (show ¬ plS (N, T, A, B, to, pi, fe, pl, go, hi, (mi + 1), re, lo) ≤ jrs (N, T, A, B, to, pi, fe, pl, go, hi, (mi + 1), re, lo) from fun z => by have z2 : pl ≤ N.length + T.length := z; omega)]; exact hM1
          obtain ⟨N2, T2, A2, B2, to2, pi2, fe2, pl2, go2, hi2, mi2, re2, lo2⟩ := sm
          obtain ⟨⟨s0, s1, s2, s3⟩, hj2, ⟨b0, b1, b2, b3, b4, b5⟩, b6, b7, b8, b9⟩ := hM2
          have mj : N2.length + T2.length < 12 := mo.2.2
          have mk : k ∉ N2 ∧ k ∉ T2 := ⟨fun z => mo.2.1 (List.mem_append_left _ z), fun z => mo.2.1 (List.mem_append_right _ z)⟩
          refine k_iconst hC 165 dX4_fetched_165 (nI 4) (by decide) ?_
          refine k_newarrI hC 166 4 dX4_fetched_166 (by decide) (by decide) ⟨Nat.le_of_ble_eq_true rfl, Nat.le_of_ble_eq_true rfl⟩ (fun q166 => ?_)
          refine KJ.eqw (ws' := [((o 0), .inr (4, [.int th, .ref (o 1), .ref (o 2), .ref (o 3), .ref (o 4)])), ((o 1), .inl (D.1 5, 160, .inl fj)), ((o 2), .inl (D.1 5, 24, .inl fs)), ((o 3), .inl (D.1 5, 26, .inl fl)), ((o 4), .inl (D.1 5, 10, .inl (upd fn 3 (mi + 1)))), (q166, .inl (D.1 5, 4, .inl (fun _ => 0)))]) rfl ?_
          refine k_dup hC 168 dX4_fetched_168 rfl ?_
          refine k_iconst hC 169 dX4_fetched_169 (nI 0) (by decide) ?_
          refine k_iconst hC 170 dX4_fetched_170 (-1) (by decide) ?_
          refine n_iast hC 171 5 [((o 0), .inr (4, [.int th, .ref (o 1), .ref (o 2), .ref (o 3), .ref (o 4)])), ((o 1), .inl (D.1 5, 160, .inl fj)), ((o 2), .inl (D.1 5, 24, .inl fs)), ((o 3), .inl (D.1 5, 26, .inl fl)), ((o 4), .inl (D.1 5, 10, .inl (upd fn 3 (mi + 1)))), (q166, .inl (D.1 5, 4, .inl (upd (fun _ => 0) 0 (-1))))] dX4_fetched_171 rfl (by omega) (by decide) rfl ?_
          refine k_dup hC 172 dX4_fetched_172 rfl ?_
          refine k_iconst hC 173 dX4_fetched_173 (nI 1) (by decide) ?_
          refine k_iconst hC 174 dX4_fetched_174 (nI 0) (by decide) ?_
          refine n_iast hC 175 5 [((o 0), .inr (4, [.int th, .ref (o 1), .ref (o 2), .ref (o 3), .ref (o 4)])), ((o 1), .inl (D.1 5, 160, .inl fj)), ((o 2), .inl (D.1 5, 24, .inl fs)), ((o 3), .inl (D.1 5, 26, .inl fl)), ((o 4), .inl (D.1 5, 10, .inl (upd fn 3 (mi + 1)))), (q166, .inl (D.1 5, 4, .inl (upd (upd (fun _ => 0) 0 (-1)) 1 (nI 0))))] dX4_fetched_175 rfl (by omega) (by decide) rfl ?_
          refine k_dup hC 176 dX4_fetched_176 rfl ?_
          refine k_iconst hC 177 dX4_fetched_177 (nI 2) (by decide) ?_
          refine k_iconst hC 178 dX4_fetched_178 (nI 0) (by decide) ?_
          refine n_iast hC 179 5 [((o 0), .inr (4, [.int th, .ref (o 1), .ref (o 2), .ref (o 3), .ref (o 4)])), ((o 1), .inl (D.1 5, 160, .inl fj)), ((o 2), .inl (D.1 5, 24, .inl fs)), ((o 3), .inl (D.1 5, 26, .inl fl)), ((o 4), .inl (D.1 5, 10, .inl (upd fn 3 (mi + 1)))), (q166, .inl (D.1 5, 4, .inl (upd (upd (upd (fun _ => 0) 0 (-1)) 1 (nI 0)) 2 (nI 0))))] dX4_fetched_179 rfl (by omega) (by decide) rfl ?_
          refine k_dup hC 180 dX4_fetched_180 rfl ?_
          refine k_iconst hC 181 dX4_fetched_181 (nI 3) (by decide) ?_
          refine k_iconst hC 182 dX4_fetched_182 (nI 1) (by decide) ?_
          refine n_iast hC 183 5 [((o 0), .inr (4, [.int th, .ref (o 1), .ref (o 2), .ref (o 3), .ref (o 4)])), ((o 1), .inl (D.1 5, 160, .inl fj)), ((o 2), .inl (D.1 5, 24, .inl fs)), ((o 3), .inl (D.1 5, 26, .inl fl)), ((o 4), .inl (D.1 5, 10, .inl (upd fn 3 (mi + 1)))), (q166, .inl (D.1 5, 4, .inl (upd (upd (upd (upd (fun _ => 0) 0 (-1)) 1 (nI 0)) 2 (nI 0)) 3 (nI 1))))] dX4_fetched_183 rfl (by omega) (by decide) rfl ?_
          refine k_astore_n hC 184 3 [(3, .ref q166), (2, .int (-1)), (0, .ref (o 0)), (1, .int (nI k))] dX4_fetched_184 rfl (by decide) rfl ?_
          refine k_aload_n hC 185 dX4_fetched_185 rfl ?_
          refine k_iconst hC 186 dX4_fetched_186 (nI 0) (by decide) ?_
          refine k_aload_n hC 187 dX4_fetched_187 rfl ?_
          refine k_getf hC 188 0 1 dX4_fetched_188 rfl rfl inlX4 (by decide) wq_3_4 rfl ?_
          refine k_iconst hC 191 dX4_fetched_191 (nI 4) (by decide) ?_
          refine k_iload_n hC 192 dX4_fetched_192 rfl ?_
          refine n_imul hC 193 (4 * k) dX4_fetched_193 rfl ?_
          refine k_iconst hC 194 dX4_fetched_194 (nI 4) (by decide) ?_
          refine k_copy hC 195 (sp := 0) (dp := 4 * k) (n := 4) 5 1 [((o 0), .inr (4, [.int th, .ref (o 1), .ref (o 2), .ref (o 3), .ref (o 4)])), ((o 1), .inl (D.1 5, 160, .inl (va_cpy (upd (upd (upd (upd (fun _ => 0) 0 (-1)) 1 (nI 0)) 2 (nI 0)) 3 (nI 1)) fj 0 (4 * k) 4))), ((o 2), .inl (D.1 5, 24, .inl fs)), ((o 3), .inl (D.1 5, 26, .inl fl)), ((o 4), .inl (D.1 5, 10, .inl (upd fn 3 (mi + 1)))), (q166, .inl (D.1 5, 4, .inl (upd (upd (upd (upd (fun _ => 0) 0 (-1)) 1 (nI 0)) 2 (nI 0)) 3 (nI 1))))] dX4_fetched_195 wq_10_0 wq_10_1 wq_10_2 wq_10_3 ⟨Nat.le_of_ble_eq_true rfl, Nat.le_of_ble_eq_true rfl⟩ rfl rfl ⟨by decide, by decide⟩ (by omega) (by omega) rfl ?_
          refine k_aload_n hC 198 dX4_fetched_198 rfl ?_
          refine k_iload_n hC 199 dX4_fetched_199 rfl ?_
          refine k_iconst hC 200 dX4_fetched_200 (-1) (by decide) ?_
          refine k_icmp_ne hC 201 208 dX4_fetched_201 (by decide) (fun h201 => ?_) (fun h201 => ?_)
          · skip
            exact absurd rfl h201
          · skip
            refine k_iconst hC 204 dX4_fetched_204 (nI 0) (by decide) ?_
            refine k_goto hC 205 209 dX4_fetched_205 (by decide) ?_
            refine k_iload_n hC 209 dX4_fetched_209 rfl ?_
            refine k_callV hC 210 0 [0, 1, 2, 3, 4] (fun (z : (Nat → Int32) × (Nat → Int32)) => [((o 0), .inr (4, [.int th, .ref (o 1), .ref (o 2), .ref (o 3), .ref (o 4)])), ((o 1), .inl (D.1 5, 160, .inl (upd (va_cpy (upd (upd (upd (upd (fun _ => 0) 0 (-1)) 1 (nI 0)) 2 (nI 0)) 3 (nI 1)) fj 0 (4 * k) 4) (4 * k) (nI 0)))), ((o 2), .inl (D.1 5, 24, .inl z.1)), ((o 3), .inl (D.1 5, 26, .inl fl)), ((o 4), .inl (D.1 5, 10, .inl z.2)), (q166, .inl (D.1 5, 4, .inl (upd (upd (upd (upd (fun _ => 0) 0 (-1)) 1 (nI 0)) 2 (nI 0)) 3 (nI 1))))]) (m_putLastR l D o th (va_cpy (upd (upd (upd (upd (fun _ => 0) 0 (-1)) 1 (nI 0)) 2 (nI 0)) 3 (nI 1)) fj 0 (4 * k) 4) fs fl (upd fn 3 (mi + 1)) 0 k N2 (by decide) b6 (by omega) hk s0) cw_RX4_76 dX4_fetched_210 ⟨Nat.le_of_ble_eq_true rfl, Nat.le_of_ble_eq_true rfl, Nat.le_of_ble_eq_true rfl, Nat.le_of_ble_eq_true rfl⟩ rfl (Nat.le_of_ble_eq_true rfl) rfl rfl rfl (by decide) rfl (fun _ => Nat.le_of_ble_eq_true rfl) (fun _ => rfl) _ rfl (fun v (z : (Nat → Int32) × (Nat → Int32)) hp => ?_)
            obtain ⟨rfl, y1, y2, y3, y4⟩ := hp
            refine KJ.eqs (st' := []) rfl ?_
            refine k_iconst hC 213 dX4_fetched_213 (nI 2) (by decide) ?_
            refine k_iload_n hC 214 dX4_fetched_214 rfl ?_
            refine k_iadd hC 215 dX4_fetched_215 (KJ.topi (y := (nI 1)) (by decide) ?_)
            refine KJ.sub [0, 1, 2, 3, 4] (by decide) rfl rfl ?_
            exact k_iret hC hE 216 ((upd (va_cpy (upd (upd (upd (upd (fun _ => 0) 0 (-1)) 1 (nI 0)) 2 (nI 0)) 3 (nI 1)) fj 0 (4 * k) 4) (4 * k) (nI 0)), z.1, fl, z.2) dX4_fetched_216 rfl (⟨by rw [ho2], hbr ▸ (show MR _ _ from ⟨⟨y1, (RowL_keep s1 (fun i hi => y3 _ (by omega))), s2, s3⟩, ((hj2.new k rfl rfl rfl rfl).sh k (nI 0)).as (sf_put2 (sf_0 (by simp)) (fun y hy => by simp [hy]) (fun y hy => Iff.rfl)), ⟨(y4 0 (by decide)).trans b0, (y4 1 (by decide)).trans b1, (y4 2 (by decide)).trans b2, (y4 3 (by decide)).trans b3, (y4 4 (by decide)).trans b4, (y4 5 (by decide)).trans b5⟩, y2, (y4 7 (by decide)).trans b7, (y4 8 (by decide)).trans b8, (y4 9 (by decide)).trans b9⟩)⟩) rfl ⟨Nat.le_of_ble_eq_true rfl, Nat.le_of_ble_eq_true rfl⟩
        · skip
          have hc : pl ≤ N.length + T.length := by omega
          refine k_aload_n hC 160 dX4_fetched_160 rfl ?_
          have so := sw_ok w1 (mp hc)
          have hs2 : sm = (sw (N, T, A, B, to, pi, fe, pl, go, hi, (mi + 1), re, lo)).1 := hsm.trans (if_pos hc)
          refine k_callV hC 161 0 [0, 1, 2, 3, 4] (fun (y0 : MG) => [((o 0), .inr (4, [.int th, .ref (o 1), .ref (o 2), .ref (o 3), .ref (o 4)])), ((o 1), .inl (D.1 5, 160, .inl y0.1)), ((o 2), .inl (D.1 5, 24, .inl y0.2.1)), ((o 3), .inl (D.1 5, 26, .inl y0.2.2.1)), ((o 4), .inl (D.1 5, 10, .inl y0.2.2.2))]) (m_sweep l D o th fj fs fl (upd fn 3 (mi + 1)) N T A B to pi fe pl go hi (mi + 1) re lo 200 sm (sw (N, T, A, B, to, pi, fe, pl, go, hi, (mi + 1), re, lo)).2 hM1 w1 (by rw [hs2]; exact so.1) (mp hc)) cw_RX4_98 dX4_fetched_161 ⟨Nat.le_of_ble_eq_true rfl, Nat.le_of_ble_eq_true rfl, Nat.le_of_ble_eq_true rfl, Nat.le_of_ble_eq_true rfl⟩ rfl (Nat.le_of_ble_eq_true rfl) rfl rfl rfl (by decide) rfl (fun _ => Nat.le_of_ble_eq_true rfl) (fun _ => rfl) _ rfl (fun v (y0 : MG) hp => ?_)
          obtain ⟨rfl, hM2⟩ := hp
          refine KJ.eqs (st' := .int (nI ((sw (N, T, A, B, to, pi, fe, pl, go, hi, (mi + 1), re, lo)).2)) :: []) rfl ?_
          refine k_pop hC 164 dX4_fetched_164 rfl ?_
          obtain ⟨a1, a2, a3, a4⟩ := y0
          refine KJ.eqw (ws' := [((o 0), .inr (4, [.int th, .ref (o 1), .ref (o 2), .ref (o 3), .ref (o 4)])), ((o 1), .inl (D.1 5, 160, .inl a1)), ((o 2), .inl (D.1 5, 24, .inl a2)), ((o 3), .inl (D.1 5, 26, .inl a3)), ((o 4), .inl (D.1 5, 10, .inl a4))]) rfl ?_
          obtain ⟨N2, T2, A2, B2, to2, pi2, fe2, pl2, go2, hi2, mi2, re2, lo2⟩ := sm
          obtain ⟨⟨s0, s1, s2, s3⟩, hj2, ⟨b0, b1, b2, b3, b4, b5⟩, b6, b7, b8, b9⟩ := hM2
          have mj : N2.length + T2.length < 12 := mo.2.2
          have mk : k ∉ N2 ∧ k ∉ T2 := ⟨fun z => mo.2.1 (List.mem_append_left _ z), fun z => mo.2.1 (List.mem_append_right _ z)⟩
          refine k_iconst hC 165 dX4_fetched_165 (nI 4) (by decide) ?_
          refine k_newarrI hC 166 4 dX4_fetched_166 (by decide) (by decide) ⟨Nat.le_of_ble_eq_true rfl, Nat.le_of_ble_eq_true rfl⟩ (fun q166 => ?_)
          refine KJ.eqw (ws' := [((o 0), .inr (4, [.int th, .ref (o 1), .ref (o 2), .ref (o 3), .ref (o 4)])), ((o 1), .inl (D.1 5, 160, .inl a1)), ((o 2), .inl (D.1 5, 24, .inl a2)), ((o 3), .inl (D.1 5, 26, .inl a3)), ((o 4), .inl (D.1 5, 10, .inl a4)), (q166, .inl (D.1 5, 4, .inl (fun _ => 0)))]) rfl ?_
          refine k_dup hC 168 dX4_fetched_168 rfl ?_
          refine k_iconst hC 169 dX4_fetched_169 (nI 0) (by decide) ?_
          refine k_iconst hC 170 dX4_fetched_170 (-1) (by decide) ?_
          refine n_iast hC 171 5 [((o 0), .inr (4, [.int th, .ref (o 1), .ref (o 2), .ref (o 3), .ref (o 4)])), ((o 1), .inl (D.1 5, 160, .inl a1)), ((o 2), .inl (D.1 5, 24, .inl a2)), ((o 3), .inl (D.1 5, 26, .inl a3)), ((o 4), .inl (D.1 5, 10, .inl a4)), (q166, .inl (D.1 5, 4, .inl (upd (fun _ => 0) 0 (-1))))] dX4_fetched_171 rfl (by omega) (by decide) rfl ?_
          refine k_dup hC 172 dX4_fetched_172 rfl ?_
          refine k_iconst hC 173 dX4_fetched_173 (nI 1) (by decide) ?_
          refine k_iconst hC 174 dX4_fetched_174 (nI 0) (by decide) ?_
          refine n_iast hC 175 5 [((o 0), .inr (4, [.int th, .ref (o 1), .ref (o 2), .ref (o 3), .ref (o 4)])), ((o 1), .inl (D.1 5, 160, .inl a1)), ((o 2), .inl (D.1 5, 24, .inl a2)), ((o 3), .inl (D.1 5, 26, .inl a3)), ((o 4), .inl (D.1 5, 10, .inl a4)), (q166, .inl (D.1 5, 4, .inl (upd (upd (fun _ => 0) 0 (-1)) 1 (nI 0))))] dX4_fetched_175 rfl (by omega) (by decide) rfl ?_
          refine k_dup hC 176 dX4_fetched_176 rfl ?_
          refine k_iconst hC 177 dX4_fetched_177 (nI 2) (by decide) ?_
          refine k_iconst hC 178 dX4_fetched_178 (nI 0) (by decide) ?_
          refine n_iast hC 179 5 [((o 0), .inr (4, [.int th, .ref (o 1), .ref (o 2), .ref (o 3), .ref (o 4)])), ((o 1), .inl (D.1 5, 160, .inl a1)), ((o 2), .inl (D.1 5, 24, .inl a2)), ((o 3), .inl (D.1 5, 26, .inl a3)), ((o 4), .inl (D.1 5, 10, .inl a4)), (q166, .inl (D.1 5, 4, .inl (upd (upd (upd (fun _ => 0) 0 (-1)) 1 (nI 0)) 2 (nI 0))))] dX4_fetched_179 rfl (by omega) (by decide) rfl ?_
          refine k_dup hC 180 dX4_fetched_180 rfl ?_
          refine k_iconst hC 181 dX4_fetched_181 (nI 3) (by decide) ?_
          refine k_iconst hC 182 dX4_fetched_182 (nI 1) (by decide) ?_
          refine n_iast hC 183 5 [((o 0), .inr (4, [.int th, .ref (o 1), .ref (o 2), .ref (o 3), .ref (o 4)])), ((o 1), .inl (D.1 5, 160, .inl a1)), ((o 2), .inl (D.1 5, 24, .inl a2)), ((o 3), .inl (D.1 5, 26, .inl a3)), ((o 4), .inl (D.1 5, 10, .inl a4)), (q166, .inl (D.1 5, 4, .inl (upd (upd (upd (upd (fun _ => 0) 0 (-1)) 1 (nI 0)) 2 (nI 0)) 3 (nI 1))))] dX4_fetched_183 rfl (by omega) (by decide) rfl ?_
          refine k_astore_n hC 184 3 [(3, .ref q166), (2, .int (-1)), (0, .ref (o 0)), (1, .int (nI k))] dX4_fetched_184 rfl (by decide) rfl ?_
          refine k_aload_n hC 185 dX4_fetched_185 rfl ?_
          refine k_iconst hC 186 dX4_fetched_186 (nI 0) (by decide) ?_
          refine k_aload_n hC 187 dX4_fetched_187 rfl ?_
          refine k_getf hC 188 0 1 dX4_fetched_188 rfl rfl inlX4 (by decide) wq_3_4 rfl ?_
          refine k_iconst hC 191 dX4_fetched_191 (nI 4) (by decide) ?_
          refine k_iload_n hC 192 dX4_fetched_192 rfl ?_
          refine n_imul hC 193 (4 * k) dX4_fetched_193 rfl ?_
          refine k_iconst hC 194 dX4_fetched_194 (nI 4) (by decide) ?_
          refine k_copy hC 195 (sp := 0) (dp := 4 * k) (n := 4) 5 1 [((o 0), .inr (4, [.int th, .ref (o 1), .ref (o 2), .ref (o 3), .ref (o 4)])), ((o 1), .inl (D.1 5, 160, .inl (va_cpy (upd (upd (upd (upd (fun _ => 0) 0 (-1)) 1 (nI 0)) 2 (nI 0)) 3 (nI 1)) a1 0 (4 * k) 4))), ((o 2), .inl (D.1 5, 24, .inl a2)), ((o 3), .inl (D.1 5, 26, .inl a3)), ((o 4), .inl (D.1 5, 10, .inl a4)), (q166, .inl (D.1 5, 4, .inl (upd (upd (upd (upd (fun _ => 0) 0 (-1)) 1 (nI 0)) 2 (nI 0)) 3 (nI 1))))] dX4_fetched_195 wq_10_0 wq_10_1 wq_10_2 wq_10_3 ⟨Nat.le_of_ble_eq_true rfl, Nat.le_of_ble_eq_true rfl⟩ rfl rfl ⟨by decide, by decide⟩ (by omega) (by omega) rfl ?_
          refine k_aload_n hC 198 dX4_fetched_198 rfl ?_
          refine k_iload_n hC 199 dX4_fetched_199 rfl ?_
          refine k_iconst hC 200 dX4_fetched_200 (-1) (by decide) ?_
          refine k_icmp_ne hC 201 208 dX4_fetched_201 (by decide) (fun h201 => ?_) (fun h201 => ?_)
          · skip
            exact absurd rfl h201
          · skip
            refine k_iconst hC 204 dX4_fetched_204 (nI 0) (by decide) ?_
            refine k_goto hC 205 209 dX4_fetched_205 (by decide) ?_
            refine k_iload_n hC 209 dX4_fetched_209 rfl ?_
            refine k_callV hC 210 0 [0, 1, 2, 3, 4] (fun (z : (Nat → Int32) × (Nat → Int32)) => [((o 0), .inr (4, [.int th, .ref (o 1), .ref (o 2), .ref (o 3), .ref (o 4)])), ((o 1), .inl (D.1 5, 160, .inl (upd (va_cpy (upd (upd (upd (upd (fun _ => 0) 0 (-1)) 1 (nI 0)) 2 (nI 0)) 3 (nI 1)) a1 0 (4 * k) 4) (4 * k) (nI 0)))), ((o 2), .inl (D.1 5, 24, .inl z.1)), ((o 3), .inl (D.1 5, 26, .inl a3)), ((o 4), .inl (D.1 5, 10, .inl z.2)), (q166, .inl (D.1 5, 4, .inl (upd (upd (upd (upd (fun _ => 0) 0 (-1)) 1 (nI 0)) 2 (nI 0)) 3 (nI 1))))]) (m_putLastR l D o th (va_cpy (upd (upd (upd (upd (fun _ => 0) 0 (-1)) 1 (nI 0)) 2 (nI 0)) 3 (nI 1)) a1 0 (4 * k) 4) a2 a3 a4 0 k N2 (by decide) b6 (by omega) hk s0) cw_RX4_76 dX4_fetched_210 ⟨Nat.le_of_ble_eq_true rfl, Nat.le_of_ble_eq_true rfl, Nat.le_of_ble_eq_true rfl, Nat.le_of_ble_eq_true rfl⟩ rfl (Nat.le_of_ble_eq_true rfl) rfl rfl rfl (by decide) rfl (fun _ => Nat.le_of_ble_eq_true rfl) (fun _ => rfl) _ rfl (fun v (z : (Nat → Int32) × (Nat → Int32)) hp => ?_)
            obtain ⟨rfl, y1, y2, y3, y4⟩ := hp
            refine KJ.eqs (st' := []) rfl ?_
            refine k_iconst hC 213 dX4_fetched_213 (nI 2) (by decide) ?_
            refine k_iload_n hC 214 dX4_fetched_214 rfl ?_
            refine k_iadd hC 215 dX4_fetched_215 (KJ.topi (y := (nI 1)) (by decide) ?_)
            refine KJ.sub [0, 1, 2, 3, 4] (by decide) rfl rfl ?_
            exact k_iret hC hE 216 ((upd (va_cpy (upd (upd (upd (upd (fun _ => 0) 0 (-1)) 1 (nI 0)) 2 (nI 0)) 3 (nI 1)) a1 0 (4 * k) 4) (4 * k) (nI 0)), z.1, a3, z.2) dX4_fetched_216 rfl (⟨by rw [ho2], hbr ▸ (show MR _ _ from ⟨⟨y1, (RowL_keep s1 (fun i hi => y3 _ (by omega))), s2, s3⟩, ((hj2.new k rfl rfl rfl rfl).sh k (nI 0)).as (sf_put2 (sf_0 (by simp)) (fun y hy => by simp [hy]) (fun y hy => Iff.rfl)), ⟨(y4 0 (by decide)).trans b0, (y4 1 (by decide)).trans b1, (y4 2 (by decide)).trans b2, (y4 3 (by decide)).trans b3, (y4 4 (by decide)).trans b4, (y4 5 (by decide)).trans b5⟩, y2, (y4 7 (by decide)).trans b7, (y4 8 (by decide)).trans b8, (y4 9 (by decide)).trans b9⟩)⟩) rfl ⟨Nat.le_of_ble_eq_true rfl, Nat.le_of_ble_eq_true rfl⟩
      · skip
        exact absurd rfl h63
  · skip
    refine k_aload_n hC 8 dX4_fetched_8 rfl ?_
    refine k_getf hC 9 0 1 dX4_fetched_9 rfl rfl inlX4 (by decide) wq_3_4 rfl ?_
    refine k_iconst hC 12 dX4_fetched_12 (nI 4) (by decide) ?_
    refine k_iload_n hC 13 dX4_fetched_13 rfl ?_
    refine n_imul hC 14 (4 * k) dX4_fetched_14 rfl ?_
    refine k_iconst hC 15 dX4_fetched_15 (nI 1) (by decide) ?_
    refine n_iadd hC 16 ((4 * k) + 1) dX4_fetched_16 rfl ?_
    refine k_iconst hC 17 dX4_fetched_17 (nI 1) (by decide) ?_
    refine n_iast hC 18 1 [((o 0), .inr (4, [.int th, .ref (o 1), .ref (o 2), .ref (o 3), .ref (o 4)])), ((o 1), .inl (D.1 5, 160, .inl (upd fj ((4 * k) + 1) (nI 1)))), ((o 2), .inl (D.1 5, 24, .inl fs)), ((o 3), .inl (D.1 5, 26, .inl fl)), ((o 4), .inl (D.1 5, 10, .inl fn))] dX4_fetched_18 rfl (by omega) (by decide) rfl ?_
    refine k_aload_n hC 19 dX4_fetched_19 rfl ?_
    refine k_getf hC 20 0 1 dX4_fetched_20 rfl rfl inlX4 (by decide) wq_3_4 rfl ?_
    refine k_iconst hC 23 dX4_fetched_23 (nI 4) (by decide) ?_
    refine k_iload_n hC 24 dX4_fetched_24 rfl ?_
    refine n_imul hC 25 (4 * k) dX4_fetched_25 rfl ?_
    refine k_iconst hC 26 dX4_fetched_26 (nI 3) (by decide) ?_
    refine n_iadd hC 27 ((4 * k) + 3) dX4_fetched_27 rfl ?_
    refine k_dup2 hC 28 dX4_fetched_28 rfl rfl ?_
    refine n_iald hC 29 1 (fe k) dX4_fetched_29 rfl (by omega) (by decide) ((upd_n (by omega)).trans (hj k hk).2.2.2) ?_
    refine k_iconst hC 30 dX4_fetched_30 (nI 1) (by decide) ?_
    refine k_iadd hC 31 dX4_fetched_31 (KJ.topi (y := (fe k + 1)) rfl ?_)
    refine n_iast hC 32 1 [((o 0), .inr (4, [.int th, .ref (o 1), .ref (o 2), .ref (o 3), .ref (o 4)])), ((o 1), .inl (D.1 5, 160, .inl (upd (upd fj ((4 * k) + 1) (nI 1)) ((4 * k) + 3) (fe k + 1)))), ((o 2), .inl (D.1 5, 24, .inl fs)), ((o 3), .inl (D.1 5, 26, .inl fl)), ((o 4), .inl (D.1 5, 10, .inl fn))] dX4_fetched_32 rfl (by omega) (by decide) rfl ?_
    refine k_aload_n hC 33 dX4_fetched_33 rfl ?_
    refine k_getf hC 34 0 4 dX4_fetched_34 rfl rfl inlX4 (by decide) wq_3_7 rfl ?_
    refine k_iconst hC 37 dX4_fetched_37 (nI 2) (by decide) ?_
    refine k_dup2 hC 38 dX4_fetched_38 rfl rfl ?_
    refine n_iald hC 39 4 hi dX4_fetched_39 rfl (by omega) (by decide) n2 ?_
    refine k_iconst hC 40 dX4_fetched_40 (nI 1) (by decide) ?_
    refine k_iadd hC 41 dX4_fetched_41 (KJ.topi (y := (hi + 1)) rfl ?_)
    refine n_iast hC 42 4 [((o 0), .inr (4, [.int th, .ref (o 1), .ref (o 2), .ref (o 3), .ref (o 4)])), ((o 1), .inl (D.1 5, 160, .inl (upd (upd fj ((4 * k) + 1) (nI 1)) ((4 * k) + 3) (fe k + 1)))), ((o 2), .inl (D.1 5, 24, .inl fs)), ((o 3), .inl (D.1 5, 26, .inl fl)), ((o 4), .inl (D.1 5, 10, .inl (upd fn 2 (hi + 1))))] dX4_fetched_42 rfl (by omega) (by decide) rfl ?_
    refine k_iconst hC 43 dX4_fetched_43 (nI 0) (by decide) ?_
    have ho0 := oc_in (N := N) (T := T) (A := A) (B := B) (to := to) (pi := pi) (fe := fe) (pl := pl) (go := go) (hi := hi) (mi := mi) (re := re) (lo := lo) (k := k) (Classical.byContradiction (fun z => h5 (yn_f z)))
    exact k_iret hC hE 44 (upd (upd fj ((4 * k) + 1) (nI 1)) ((4 * k) + 3) (fe k + 1), fs, fl, upd fn 2 (hi + 1)) dX4_fetched_44 rfl (⟨by rw [ho0], (br_0 ho0).symm ▸ (show MR _ _ from ⟨⟨r0, r1, r2, r3⟩, (hj.uto k 1).ufe k (fe k + 1), ⟨(upd_n (by decide)).trans n0, (upd_n (by decide)).trans n1, upd_s _ _ _, (upd_n (by decide)).trans n3, (upd_n (by decide)).trans n4, (upd_n (by decide)).trans n5⟩, (upd_n (by decide)).trans n6, (upd_n (by decide)).trans n7, (upd_n (by decide)).trans n8, (upd_n (by decide)).trans n9⟩)⟩) rfl ⟨Nat.zero_le _, Nat.zero_le _⟩
