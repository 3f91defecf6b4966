/-! PinnedPantryModel: series, places -/
set_option maxHeartbeats 4000000 in
set_option maxRecDepth 100000 in
/-- m_hits -/
theorem m_hits (l : Launch) (D : va_G) (o : Nat → Nat) (th : Int32) (fj fs fl fn : Nat → Int32) (N T A B : List Nat) (to pi : Nat → Nat) (fe : Nat → Int32) (pl go : Nat) (hi mi re lo : Int32) (fr st m : Nat) (h0 : Int32) (s' : PS) (hM : MR (N, T, A, B, to, pi, fe, pl, go, hi, mi, re, lo) (fj, fs, fl, fn)) (hW : WF (N, T, A, B, to, pi, fe, pl, go, hi, mi, re, lo)) (hfr : fr < 40) (hst : st < 40) (hm : m ≤ 30) (hh : hi = h0) (hs : srs fr st m 0 (N, T, A, B, to, pi, fe, pl, go, hi, mi, re, lo) = s') (hjp : N.length + T.length ≤ pl) : MU l yX4_hits cX4_hits 6 (some .int) 6 151 D [.ref (o 0), .int (nI fr), .int (nI st), .int (nI m)] [((o 0), .inr (4, [.int th, .ref (o 1), .ref (o 2), .ref (o 3), .ref (o 4)])), ((o 1), .inl (D.1 5, 160, .inl fj)), ((o 2), .inl (D.1 5, 24, .inl fs)), ((o 3), .inl (D.1 5, 26, .inl fl)), ((o 4), .inl (D.1 5, 10, .inl fn))] (fun v (u : MG) => v = some (.int (hiS s' - h0)) ∧ MR s' u) (fun u => [((o 0), .inr (4, [.int th, .ref (o 1), .ref (o 2), .ref (o 3), .ref (o 4)])), ((o 1), .inl (D.1 5, 160, .inl u.1)), ((o 2), .inl (D.1 5, 24, .inl u.2.1)), ((o 3), .inl (D.1 5, 26, .inl u.2.2.1)), ((o 4), .inl (D.1 5, 10, .inl u.2.2.2))]) 30 120 := by
  refine MU.enter (by decide) [(0, .ref (o 0)), (1, .int (nI fr)), (2, .int (nI st)), (3, .int (nI m))] rfl (Nat.le_of_ble_eq_true rfl) (fun G hC hE => ?_)
  have hC : CX G D cX4_hits RX4 6 := hC
  have hM0 := hM
  have hW0 := hW
  obtain ⟨⟨r0, r1, r2, r3⟩, hj, ⟨n0, n1, n2, n3, n4, n5⟩, n6, n7, n8, n9⟩ := hM
  obtain ⟨kN, kT, kA, kB, nd, len, lA, lB, p2, p12, g12, t1, p9⟩ := hW
  have q0 := pc_le pi N
  have q1 := pc_le pi T
  refine k_aload_n hC 0 dX4_hits_0 rfl ?_
  refine k_getf hC 1 0 4 dX4_hits_1 rfl rfl inlX4 (by decide) wq_3_7 rfl ?_
  refine k_iconst hC 4 dX4_hits_4 (nI 2) (by decide) ?_
  refine n_iald hC 5 4 h0 dX4_hits_5 rfl (by omega) (by decide) (n2.trans hh) ?_
  refine k_istore hC 6 4 [(4, .int h0), (0, .ref (o 0)), (1, .int (nI fr)), (2, .int (nI st)), (3, .int (nI m))] dX4_hits_6 (by decide) rfl ?_
  refine k_iconst hC 8 dX4_hits_8 (nI 0) (by decide) ?_
  refine k_istore hC 9 5 [(5, .int (nI 0)), (4, .int h0), (0, .ref (o 0)), (1, .int (nI fr)), (2, .int (nI st)), (3, .int (nI m))] dX4_hits_9 (by decide) rfl ?_
  have loop11 : ∀ (n11 : Nat) (i : Nat) (N T A B : List Nat) (to pi : Nat → Nat) (fe : Nat → Int32) (pl go : Nat) (hi mi re lo : Int32) (fj fs fl fn : Nat → Int32), m - i < n11 → i ≤ m → MR (N, T, A, B, to, pi, fe, pl, go, hi, mi, re, lo) (fj, fs, fl, fn) → WF (N, T, A, B, to, pi, fe, pl, go, hi, mi, re, lo) → N.length + T.length ≤ pl → srs fr st (m - i) i (N, T, A, B, to, pi, fe, pl, go, hi, mi, re, lo) = s' → KJ l G D ({ frames := 6, cells := 30, slots := 120, locals := 151 } : Room) 6 i (4 * i) [((o 0), .inr (4, [.int th, .ref (o 1), .ref (o 2), .ref (o 3), .ref (o 4)])), ((o 1), .inl (D.1 5, 160, .inl fj)), ((o 2), .inl (D.1 5, 24, .inl fs)), ((o 3), .inl (D.1 5, 26, .inl fl)), ((o 4), .inl (D.1 5, 10, .inl fn))] [(5, .int (nI i)), (4, .int h0), (0, .ref (o 0)), (1, .int (nI fr)), (2, .int (nI st)), (3, .int (nI m))] 11 [] := by
    intro n11
    induction n11 with
    | zero => intro i N T A B to pi fe pl go hi mi re lo fj fs fl fn h; exact absurd h (Nat.not_lt_zero _)
    | succ n11 ih11 =>
      intro i N T A B to pi fe pl go hi mi re lo fj fs fl fn hn11 hi2 hM hW hjp hs
      have hM0 := hM
      have hW0 := hW
      obtain ⟨⟨r0, r1, r2, r3⟩, hj, ⟨n0, n1, n2, n3, n4, n5⟩, n6, n7, n8, n9⟩ := hM
      obtain ⟨kN, kT, kA, kB, nd, len, lA, lB, p2, p12, g12, t1, p9⟩ := hW
      have q0 := pc_le pi N
      have q1 := pc_le pi T
      have hmul : i * st ≤ 30 * 39 := Nat.mul_le_mul (by omega) (by omega)
      have hk : ((fr + i * st) % 40) < 40 := Nat.mod_lt _ (by decide)
      refine k_iload hC 11 dX4_hits_11 rfl ?_
      refine k_iload_n hC 13 dX4_hits_13 rfl ?_
      refine n_icmp_ge hC 14 53 dX4_hits_14 (by decide) (by omega) (by omega) (fun h14 => ?_) (fun h14 => ?_)
      · skip
        refine k_aload_n hC 53 dX4_hits_53 rfl ?_
        refine k_getf hC 54 0 4 dX4_hits_54 rfl rfl inlX4 (by decide) wq_3_7 rfl ?_
        refine k_iconst hC 57 dX4_hits_57 (nI 2) (by decide) ?_
        refine n_iald hC 58 4 hi dX4_hits_58 rfl (by omega) (by decide) n2 ?_
        refine k_iload hC 59 dX4_hits_59 rfl ?_
        refine k_isub hC 61 dX4_hits_61 (KJ.topi (y := (hiS s' - h0)) (by rw [← hs, show m - i = 0 by omega]; rfl) ?_)
        exact k_iret hC hE 62 (fj, fs, fl, fn) dX4_hits_62 rfl (⟨rfl, by rw [← hs, show m - i = 0 by omega]; exact hM0⟩) rfl ⟨(show i ≤ 30 by omega), (show 4 * i ≤ 120 by omega)⟩
      · skip
        refine k_aload_n hC 17 dX4_hits_17 rfl ?_
        refine k_iload_n hC 18 dX4_hits_18 rfl ?_
        refine k_iload hC 19 dX4_hits_19 rfl ?_
        refine k_iload_n hC 21 dX4_hits_21 rfl ?_
        refine n_imul hC 22 (i * st) dX4_hits_22 rfl ?_
        refine n_iadd hC 23 (fr + (i * st)) dX4_hits_23 rfl ?_
        refine k_bipush hC 24 dX4_hits_24 (nI 40) (by decide) ?_
        refine k_irem hC 26 dX4_hits_26 (by decide) (KJ.topi (y := (nI ((fr + i * st) % 40))) (pk_rem (by omega) (by decide) (by decide)) ?_)
        refine k_callVr hC 27 0 [0, 1, 2, 3, 4] (m_canFetch l D o th fj fs fl fn N T A B to pi fe pl go hi mi re lo ((fr + i * st) % 40) hM0 hW0 hk) cw_RX4_107 dX4_hits_27 ⟨Nat.le_of_ble_eq_true rfl, Nat.le_of_ble_eq_true rfl, (show i + 0 ≤ 30 by omega), (show 4 * i + 0 ≤ 120 by omega)⟩ rfl (Nat.le_of_ble_eq_true rfl) rfl rfl rfl (by decide) rfl (fun _ => Nat.le_of_ble_eq_true rfl) (fun _ => rfl) _ rfl (fun v u hp => ?_)
        obtain rfl := hp
        refine KJ.eqs (st' := .int (nI (yn (oc (N, T, A, B, to, pi, fe, pl, go, hi, mi, re, lo) ((fr + i * st) % 40) ≠ 4))) :: []) rfl ?_
        refine n_if_eq hC 30 47 dX4_hits_30 (by decide) (Nat.lt_of_le_of_lt yn_le (by decide)) (fun h30 => ?_) (fun h30 => ?_)
        · skip
          have h4 : oc (N, T, A, B, to, pi, fe, pl, go, hi, mi, re, lo) ((fr + i * st) % 40) = 4 := Classical.byContradiction (fun z => yn_0.mp h30 z)
          refine k_iinc hC 47 0 (nI (i + 1)) [(5, .int (nI (i + 1))), (4, .int h0), (0, .ref (o 0)), (1, .int (nI fr)), (2, .int (nI st)), (3, .int (nI m))] dX4_hits_47 rfl (nI_1 _) (by decide) rfl ?_
          refine k_goto hC 50 11 dX4_hits_50 (by decide) ?_
          refine KJ.wide (ce' := i + 1) (sl' := 4 * (i + 1)) (by omega) (by omega) ?_
          exact ih11 (i + 1) N T A B to pi fe pl go hi mi re lo fj fs fl fn (by omega) (by omega) hM0 hW0 hjp (by rw [← hs, show m - i = (m - (i + 1)) + 1 by omega]; show _ = srs fr st _ (i + 1) (br (N, T, A, B, to, pi, fe, pl, go, hi, mi, re, lo) ((fr + i * st) % 40)); rw [br_4 h4])
        · skip
          have h4 : oc (N, T, A, B, to, pi, fe, pl, go, hi, mi, re, lo) ((fr + i * st) % 40) ≠ 4 := Classical.byContradiction (fun z => h30 (yn_f z))
          refine k_aload_n hC 33 dX4_hits_33 rfl ?_
          refine k_iload_n hC 34 dX4_hits_34 rfl ?_
          refine k_iload hC 35 dX4_hits_35 rfl ?_
          refine k_iload_n hC 37 dX4_hits_37 rfl ?_
          refine n_imul hC 38 (i * st) dX4_hits_38 rfl ?_
          refine n_iadd hC 39 (fr + (i * st)) dX4_hits_39 rfl ?_
          refine k_bipush hC 40 dX4_hits_40 (nI 40) (by decide) ?_
          refine k_irem hC 42 dX4_hits_42 (by decide) (KJ.topi (y := (nI ((fr + i * st) % 40))) (pk_rem (by omega) (by decide) (by decide)) ?_)
          refine k_callV hC 43 0 [0, 1, 2, 3, 4] (fun (y0 : MG) => [((o 0), .inr (4, [.int th, .ref (o 1), .ref (o 2), .ref (o 3), .ref (o 4)])), ((o 1), .inl (D.1 5, 160, .inl y0.1)), ((o 2), .inl (D.1 5, 24, .inl y0.2.1)), ((o 3), .inl (D.1 5, 26, .inl y0.2.2.1)), ((o 4), .inl (D.1 5, 10, .inl y0.2.2.2))]) (m_fetched l D o th fj fs fl fn N T A B to pi fe pl go hi mi re lo ((fr + i * st) % 40) hM0 hW0 hk h4 hjp) cw_RX4_110 dX4_hits_43 ⟨Nat.le_of_ble_eq_true rfl, Nat.le_of_ble_eq_true rfl, (show i + 0 + 1 ≤ 30 by omega), (show 4 * i + 0 + 4 ≤ 120 by omega)⟩ rfl (Nat.le_of_ble_eq_true rfl) rfl rfl rfl (by decide) rfl (fun _ => Nat.le_of_ble_eq_true rfl) (fun _ => rfl) _ rfl (fun v (y0 : MG) hp => ?_)
          obtain ⟨rfl, hM2⟩ := hp
          refine KJ.eqs (st' := .int (nI (oc (N, T, A, B, to, pi, fe, pl, go, hi, mi, re, lo) ((fr + i * st) % 40))) :: []) rfl ?_
          refine k_pop hC 46 dX4_hits_46 rfl ?_
          refine k_iinc hC 47 0 (nI (i + 1)) [(5, .int (nI (i + 1))), (4, .int h0), (0, .ref (o 0)), (1, .int (nI fr)), (2, .int (nI st)), (3, .int (nI m))] dX4_hits_47 rfl (nI_1 _) (by decide) rfl ?_
          refine k_goto hC 50 11 dX4_hits_50 (by decide) ?_
          refine KJ.wide (ce' := i + 1) (sl' := 4 * (i + 1)) (by omega) (by omega) ?_
          obtain ⟨s1, hs1⟩ : ∃ z, z = br (N, T, A, B, to, pi, fe, pl, go, hi, mi, re, lo) ((fr + i * st) % 40) := ⟨_, rfl⟩
          rw [← hs1] at hM2
          have w2 : WF s1 := by rw [hs1]; exact br_wf hW0 hk
          have j2 : jrs s1 ≤ plS s1 := by rw [hs1]; exact (br_jp hW0 hjp).1
          obtain ⟨N1, T1, A1, B1, to1, pi1, fe1, pl1, go1, hi1, mi1, re1, lo1⟩ := s1
          obtain ⟨a1, a2, a3, a4⟩ := y0
          exact ih11 (i + 1) N1 T1 A1 B1 to1 pi1 fe1 pl1 go1 hi1 mi1 re1 lo1 a1 a2 a3 a4 (by omega) (by omega) hM2 w2 j2 (by rw [← hs, show m - i = (m - (i + 1)) + 1 by omega]; show _ = srs fr st _ (i + 1) (br (N, T, A, B, to, pi, fe, pl, go, hi, mi, re, lo) ((fr + i * st) % 40)); rw [hs1])
  exact loop11 (m + 1) 0 N T A B to pi fe pl go hi mi re lo fj fs fl fn (by omega) (by omega) hM0 hW0 hjp hs
set_option maxHeartbeats 4000000 in
set_option maxRecDepth 100000 in
/-- m_place -/
theorem m_place (l : Launch) (D : va_G) (o : Nat → Nat) (th : Int32) (fj fs fl fn : Nat → Int32) (N T A B : List Nat) (to pi : Nat → Nat) (fe : Nat → Int32) (pl go : Nat) (hi mi re lo : Int32) (p : Nat) (s' : PS) (hM : MR (N, T, A, B, to, pi, fe, pl, go, hi, mi, re, lo) (fj, fs, fl, fn)) (hW : WF (N, T, A, B, to, pi, fe, pl, go, hi, mi, re, lo)) (hp2 : 2 ≤ p) (hp12 : p ≤ 12) (hpp : pc pi N + pc pi T ≤ p) (hs0 : swM p 12 (setPl p (N, T, A, B, to, pi, fe, pl, go, hi, mi, re, lo)) = s') : MU l yX4_place cX4_place 2 none 5 128 D [.ref (o 0), .int (nI p)] [((o 0), .inr (4, [.int th, .ref (o 1), .ref (o 2), .ref (o 3), .ref (o 4)])), ((o 1), .inl (D.1 5, 160, .inl fj)), ((o 2), .inl (D.1 5, 24, .inl fs)), ((o 3), .inl (D.1 5, 26, .inl fl)), ((o 4), .inl (D.1 5, 10, .inl fn))] (fun v (u : MG) => v = none ∧ MR (cutS p s') u) (fun u => [((o 0), .inr (4, [.int th, .ref (o 1), .ref (o 2), .ref (o 3), .ref (o 4)])), ((o 1), .inl (D.1 5, 160, .inl u.1)), ((o 2), .inl (D.1 5, 24, .inl u.2.1)), ((o 3), .inl (D.1 5, 26, .inl u.2.2.1)), ((o 4), .inl (D.1 5, 10, .inl u.2.2.2))]) 0 0 := by
  refine MU.enter (by decide) [(0, .ref (o 0)), (1, .int (nI p))] rfl (Nat.le_of_ble_eq_true rfl) (fun G hC hE => ?_)
  have hC : CX G D cX4_place RX4 2 := hC
  have hM0 := hM
  have hW0 := hW
  obtain ⟨⟨r0, r1, r2, r3⟩, hj, ⟨n0, n1, n2, n3, n4, n5⟩, n6, n7, n8, n9⟩ := hM
  obtain ⟨kN, kT, kA, kB, nd, len, lA, lB, p2, p12, g12, t1, p9⟩ := hW
  have q0 := pc_le pi N
  have q1 := pc_le pi T
  refine k_aload_n hC 0 dX4_place_0 rfl ?_
  refine k_getf hC 1 0 4 dX4_place_1 rfl rfl inlX4 (by decide) wq_3_7 rfl ?_
  refine k_iconst hC 4 dX4_place_4 (nI 0) (by decide) ?_
  refine k_iload_n hC 5 dX4_place_5 rfl ?_
  refine n_iast hC 6 4 [((o 0), .inr (4, [.int th, .ref (o 1), .ref (o 2), .ref (o 3), .ref (o 4)])), ((o 1), .inl (D.1 5, 160, .inl fj)), ((o 2), .inl (D.1 5, 24, .inl fs)), ((o 3), .inl (D.1 5, 26, .inl fl)), ((o 4), .inl (D.1 5, 10, .inl (upd fn 0 (nI p))))] dX4_place_6 rfl (by omega) (by decide) rfl ?_
  have wp : WF (N, T, A, B, to, pi, fe, p, go, hi, mi, re, lo) := setPl_wf hW0 hp2 hp12
  have mp : MR (N, T, A, B, to, pi, fe, p, go, hi, mi, re, lo) (fj, fs, fl, upd fn 0 (nI p)) := ⟨⟨r0, r1, r2, r3⟩, hj, ⟨upd_s _ _ _, (upd_n (by decide)).trans n1, (upd_n (by decide)).trans n2, (upd_n (by decide)).trans n3, (upd_n (by decide)).trans n4, (upd_n (by decide)).trans n5⟩, (upd_n (by decide)).trans n6, (upd_n (by decide)).trans n7, (upd_n (by decide)).trans n8, (upd_n (by decide)).trans n9⟩
  have loop7 : ∀ (n7 : Nat) (nn : Nat) (N T A B : List Nat) (to pi : Nat → Nat) (fe : Nat → Int32) (go : Nat) (hi mi re lo : Int32) (fj fs fl fn : Nat → Int32), nn < n7 → N.length + T.length ≤ p + nn → MR (N, T, A, B, to, pi, fe, p, go, hi, mi, re, lo) (fj, fs, fl, fn) → WF (N, T, A, B, to, pi, fe, p, go, hi, mi, re, lo) → pc pi N + pc pi T ≤ p → swM p nn (N, T, A, B, to, pi, fe, p, go, hi, mi, re, lo) = s' → KJ l G D ({ frames := 5, cells := 0, slots := 0, locals := 128 } : Room) 2 0 0 [((o 0), .inr (4, [.int th, .ref (o 1), .ref (o 2), .ref (o 3), .ref (o 4)])), ((o 1), .inl (D.1 5, 160, .inl fj)), ((o 2), .inl (D.1 5, 24, .inl fs)), ((o 3), .inl (D.1 5, 26, .inl fl)), ((o 4), .inl (D.1 5, 10, .inl fn))] [(0, .ref (o 0)), (1, .int (nI p))] 7 [] := by
    intro n7
    induction n7 with
    | zero => intro nn N T A B to pi fe go hi mi re lo fj fs fl fn h; exact absurd h (Nat.not_lt_zero _)
    | succ n7 ih7 =>
      intro nn N T A B to pi fe go hi mi re lo fj fs fl fn hn7 hnn hM hW hpp hs
      have hM0 := hM
      have hW0 := hW
      obtain ⟨⟨r0, r1, r2, r3⟩, hj, ⟨n0, n1, n2, n3, n4, n5⟩, n6, n7, n8, n9⟩ := hM
      obtain ⟨kN, kT, kA, kB, nd, len, lA, lB, p2, p12, g12, t1, p9⟩ := hW
      have q0 := pc_le pi N
      have q1 := pc_le pi T
      refine k_aload_n hC 7 dX4_place_7 rfl ?_
      refine k_callVr hC 8 0 [0, 1, 2, 3, 4] (m_all l D o th fj fs fl fn N.length T.length n6 n7) cw_RX4_82 dX4_place_8 ⟨Nat.le_of_ble_eq_true rfl, Nat.le_of_ble_eq_true rfl, Nat.le_of_ble_eq_true rfl, Nat.le_of_ble_eq_true rfl⟩ rfl (Nat.le_of_ble_eq_true rfl) rfl rfl rfl (by decide) rfl (fun _ => Nat.le_of_ble_eq_true rfl) (fun _ => rfl) _ rfl (fun v u hp => ?_)
      obtain rfl := hp
      refine KJ.eqs (st' := .int (nI (N.length + T.length)) :: []) rfl ?_
      refine k_iload_n hC 11 dX4_place_11 rfl ?_
      refine n_icmp_le hC 12 23 dX4_place_12 (by decide) (by omega) (by omega) (fun h12 => ?_) (fun h12 => ?_)
      · skip
        have e1 : ((N, T, A, B, to, pi, fe, p, go, hi, mi, re, lo) : PS) = s' := (swM_stop (show ¬ p < jrs (N, T, A, B, to, pi, fe, p, go, hi, mi, re, lo) from by show ¬ p < N.length + T.length; omega) nn).symm.trans hs
        have tlA : (tr p A).length ≤ 12 := by rw [tr_len]; omega
        refine k_aload_n hC 23 dX4_place_23 rfl ?_
        refine k_getf hC 24 0 4 dX4_place_24 rfl rfl inlX4 (by decide) wq_3_7 rfl ?_
        refine k_iconst hC 27 dX4_place_27 (nI 1) (by decide) ?_
        refine k_iload_n hC 28 dX4_place_28 rfl ?_
        refine k_aload_n hC 29 dX4_place_29 rfl ?_
        refine k_getf hC 30 0 4 dX4_place_30 rfl rfl inlX4 (by decide) wq_3_7 rfl ?_
        refine k_iconst hC 33 dX4_place_33 (nI 1) (by decide) ?_
        refine n_iald hC 34 4 (nI go) dX4_place_34 rfl (by omega) (by decide) n1 ?_
        refine k_min hC 35 dX4_place_35 wq_9_23 wq_6_5 wq_6_6 wq_6_7 ⟨Nat.le_of_ble_eq_true rfl, Nat.le_of_ble_eq_true rfl, Nat.le_of_ble_eq_true rfl, Nat.le_of_ble_eq_true rfl⟩ (KJ.topi (y := (nI (min go p))) ((nmin (by omega) (by omega)).trans (by rw [Nat.min_comm])) ?_)
        refine n_iast hC 38 4 [((o 0), .inr (4, [.int th, .ref (o 1), .ref (o 2), .ref (o 3), .ref (o 4)])), ((o 1), .inl (D.1 5, 160, .inl fj)), ((o 2), .inl (D.1 5, 24, .inl fs)), ((o 3), .inl (D.1 5, 26, .inl fl)), ((o 4), .inl (D.1 5, 10, .inl (upd fn 1 (nI (min go p)))))] dX4_place_38 rfl (by omega) (by decide) rfl ?_
        refine k_aload_n hC 39 dX4_place_39 rfl ?_
        refine k_iconst hC 40 dX4_place_40 (nI 0) (by decide) ?_
        refine k_callV hC 41 0 [0, 1, 2, 3, 4] (fun (x0 : (Nat → Int32) × (Nat → Int32)) => [((o 0), .inr (4, [.int th, .ref (o 1), .ref (o 2), .ref (o 3), .ref (o 4)])), ((o 1), .inl (D.1 5, 160, .inl fj)), ((o 2), .inl (D.1 5, 24, .inl fs)), ((o 3), .inl (D.1 5, 26, .inl x0.1)), ((o 4), .inl (D.1 5, 10, .inl x0.2))]) (m_forget l D o th fj fs fl (upd fn 1 (nI (min go p))) 0 A p (by decide) ((upd_n (by decide)).trans n8) (by omega) r2 ((upd_n (by decide)).trans n0) hp12) cw_RX4_51 dX4_place_41 ⟨Nat.le_of_ble_eq_true rfl, Nat.le_of_ble_eq_true rfl, Nat.le_of_ble_eq_true rfl, Nat.le_of_ble_eq_true rfl⟩ rfl (Nat.le_of_ble_eq_true rfl) rfl rfl rfl (by decide) rfl (fun _ => Nat.le_of_ble_eq_true rfl) (fun _ => rfl) _ rfl (fun v (x0 : (Nat → Int32) × (Nat → Int32)) hp => ?_)
        obtain ⟨rfl, x1, x2, x3, x4⟩ := hp
        refine KJ.eqs (st' := []) rfl ?_
        refine k_aload_n hC 44 dX4_place_44 rfl ?_
        refine k_iconst hC 45 dX4_place_45 (nI 1) (by decide) ?_
        refine k_callV hC 46 0 [0, 1, 2, 3, 4] (fun (z : (Nat → Int32) × (Nat → Int32)) => [((o 0), .inr (4, [.int th, .ref (o 1), .ref (o 2), .ref (o 3), .ref (o 4)])), ((o 1), .inl (D.1 5, 160, .inl fj)), ((o 2), .inl (D.1 5, 24, .inl fs)), ((o 3), .inl (D.1 5, 26, .inl z.1)), ((o 4), .inl (D.1 5, 10, .inl z.2))]) (m_forget l D o th fj fs x0.1 x0.2 1 B p (by decide) ((x4 9 (by decide)).trans ((upd_n (by decide)).trans n9)) (by omega) (RowL_keep r3 (fun i hi => x3 _ (by omega))) ((x4 0 (by decide)).trans ((upd_n (by decide)).trans n0)) hp12) cw_RX4_51 dX4_place_46 ⟨Nat.le_of_ble_eq_true rfl, Nat.le_of_ble_eq_true rfl, Nat.le_of_ble_eq_true rfl, Nat.le_of_ble_eq_true rfl⟩ rfl (Nat.le_of_ble_eq_true rfl) rfl rfl rfl (by decide) rfl (fun _ => Nat.le_of_ble_eq_true rfl) (fun _ => rfl) _ rfl (fun v (z : (Nat → Int32) × (Nat → Int32)) hp => ?_)
        obtain ⟨rfl, y1, y2, y3, y4⟩ := hp
        refine KJ.eqs (st' := []) rfl ?_
        exact k_vret hC hE 49 (fj, fs, z.1, z.2) dX4_place_49 (⟨rfl, e1 ▸ (show MR (cutS p (N, T, A, B, to, pi, fe, p, go, hi, mi, re, lo)) _ from ⟨⟨r0, r1, (RowL_keep x1 (fun i hi => y3 _ (by omega))), y1⟩, hj, ⟨(y4 0 (by decide)).trans ((x4 0 (by decide)).trans ((upd_n (by decide)).trans n0)), (y4 1 (by decide)).trans ((x4 1 (by decide)).trans (upd_s _ _ _)), (y4 2 (by decide)).trans ((x4 2 (by decide)).trans ((upd_n (by decide)).trans n2)), (y4 3 (by decide)).trans ((x4 3 (by decide)).trans ((upd_n (by decide)).trans n3)), (y4 4 (by decide)).trans ((x4 4 (by decide)).trans ((upd_n (by decide)).trans n4)), (y4 5 (by decide)).trans ((x4 5 (by decide)).trans ((upd_n (by decide)).trans n5))⟩, (y4 6 (by decide)).trans ((x4 6 (by decide)).trans ((upd_n (by decide)).trans n6)), (y4 7 (by decide)).trans ((x4 7 (by decide)).trans ((upd_n (by decide)).trans n7)), (y4 8 (by decide)).trans x2, y2⟩)⟩) rfl ⟨Nat.zero_le _, Nat.zero_le _⟩
      · skip
        have h12' : p < N.length + T.length := by omega
        obtain ⟨nn, rfl⟩ : ∃ y, nn = y + 1 := ⟨nn - 1, by omega⟩
        have so := sw_ok hW0 (show pnd (N, T, A, B, to, pi, fe, p, go, hi, mi, re, lo) < jrs (N, T, A, B, to, pi, fe, p, go, hi, mi, re, lo) from by show pc pi N + pc pi T < N.length + T.length; omega)
        obtain ⟨s2, hs2⟩ : ∃ z, z = (sw (N, T, A, B, to, pi, fe, p, go, hi, mi, re, lo)).1 := ⟨_, rfl⟩
        refine k_aload_n hC 15 dX4_place_15 rfl ?_
        refine k_callV hC 16 0 [0, 1, 2, 3, 4] (fun (y0 : MG) => [((o 0), .inr (4, [.int th, .ref (o 1), .ref (o 2), .ref (o 3), .ref (o 4)])), ((o 1), .inl (D.1 5, 160, .inl y0.1)), ((o 2), .inl (D.1 5, 24, .inl y0.2.1)), ((o 3), .inl (D.1 5, 26, .inl y0.2.2.1)), ((o 4), .inl (D.1 5, 10, .inl y0.2.2.2))]) (m_sweep l D o th fj fs fl fn N T A B to pi fe p go hi mi re lo 200 s2 (sw (N, T, A, B, to, pi, fe, p, go, hi, mi, re, lo)).2 hM0 hW0 (by rw [hs2]; exact so.1) (by omega)) cw_RX4_98 dX4_place_16 ⟨Nat.le_of_ble_eq_true rfl, Nat.le_of_ble_eq_true rfl, Nat.le_of_ble_eq_true rfl, Nat.le_of_ble_eq_true rfl⟩ rfl (Nat.le_of_ble_eq_true rfl) rfl rfl rfl (by decide) rfl (fun _ => Nat.le_of_ble_eq_true rfl) (fun _ => rfl) _ rfl (fun v (y0 : MG) hp => ?_)
        obtain ⟨rfl, hM2⟩ := hp
        refine KJ.eqs (st' := .int (nI ((sw (N, T, A, B, to, pi, fe, p, go, hi, mi, re, lo)).2)) :: []) rfl ?_
        refine k_pop hC 19 dX4_place_19 rfl ?_
        refine k_goto hC 20 7 dX4_place_20 (by decide) ?_
        have w2 : WF s2 := by rw [hs2]; exact so.2.1
        have j1 : jrs s2 + 1 = jrs (N, T, A, B, to, pi, fe, p, go, hi, mi, re, lo) := by rw [hs2]; exact so.2.2.2.1
        have q2 : pnd s2 = pnd (N, T, A, B, to, pi, fe, p, go, hi, mi, re, lo) := by rw [hs2]; exact so.2.2.1
        have pe : p = plS s2 := by rw [hs2]; exact so.2.2.2.2.symm
        obtain ⟨N1, T1, A1, B1, to1, pi1, fe1, pl1, go1, hi1, mi1, re1, lo1⟩ := s2
        obtain ⟨a1, a2, a3, a4⟩ := y0
        have pe : p = pl1 := pe
        have j1 : N1.length + T1.length + 1 = N.length + T.length := j1
        have q2 : pc pi1 N1 + pc pi1 T1 = pc pi N + pc pi T := q2
        subst pe
        exact ih7 nn N1 T1 A1 B1 to1 pi1 fe1 go1 hi1 mi1 re1 lo1 a1 a2 a3 a4 (by omega) (by omega) hM2 w2 (by omega) (by rw [← hs, swM_go (show p < jrs (N, T, A, B, to, pi, fe, p, go, hi, mi, re, lo) from h12'), hs2])
  exact loop7 13 12 N T A B to pi fe go hi mi re lo fj fs fl (upd fn 0 (nI p)) (by omega) (by omega) mp wp hpp (by rw [← hs0]; rfl)
