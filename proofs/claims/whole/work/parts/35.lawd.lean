/-! The law: its loop, and its run from the entry to the end -/
theorem law_in {L i : Nat} (hL : L ≤ 2048) (hi : i ≤ 2100) (h : ¬ nI L - nI 4 < nI i) : i + 4 ≤ L := by
  by_cases h4 : 4 ≤ L
  · have e : nI L - nI 4 = nI (L - 4) := pk_sub h4
    rw [e, nI_ltI (by omega) (by omega)] at h
    omega
  · exfalso
    have hz : nI L - nI 4 < 0 := by
      rcases (show L = 0 ∨ L = 1 ∨ L = 2 ∨ L = 3 by omega) with rfl | rfl | rfl | rfl <;> decide
    exact h (Int32.lt_of_lt_of_le hz (nI_pos' (by omega)))
theorem law_sw (x : Int32) : (∃ j : Nat, j ≤ 16 ∧ x = nI j) ∨ (x.toInt < 0 ∨ 16 < x.toInt) := by
  by_cases h0 : x < 0
  · rw [Int32.lt_iff_toInt_lt] at h0
    exact Or.inr (Or.inl h0)
  · obtain ⟨j, hj, rfl⟩ := nI_of h0
    by_cases h : j ≤ 16
    · exact Or.inl ⟨j, h, rfl⟩
    · refine Or.inr (Or.inr ?_)
      rw [nI_toInt hj]
      omega
set_option maxHeartbeats 400000 in
set_option maxRecDepth 100000 in
theorem law_loop (l : Launch) (G : KX) (D : va_G) (bb L : Nat) (xs : Nat → Int32) (h q : Nat) (a b o : Nat → Nat) (hLX : LX l G D bb L xs) (hN : ∀ (x : Int32) (j : Nat), 1 ≤ j → j ≤ 12 → vf_n64 (FP.ddiv (FP.i2d x) (FP.i2d (nI j)))) (hend : ∀ (ce sl : Nat) (ws : va_W) (lv : List (Nat × Value)), ce ≤ 709337 → sl ≤ 6968092 → KJ l G D room_1 9 ce sl ws lv 1087 [.int (nI 1)]) : ∀ (n i : Nat) (s : PS) (g : PG) (s2 : PS) (g2 : PG) (f : Nat → Int64) (th : Int32) (m : MG), L - i < n → i ≤ 2052 → OKs s g m → KJ l G D room_1 9 (100 + 100 * i) (2000 + 400 * i) (LW D h q a b o s g s2 g2 f th m) (LV bb h q i o) 23 [] := by
  intro n
  induction n with
  | zero => intro i s g s2 g2 f th m hn; exact absurd hn (Nat.not_lt_zero _)
  | succ n ih =>
    intro i s g s2 g2 f th m hn h2 ho
    obtain ⟨hC, hX, ⟨hsc, hbl, hbA⟩, hL⟩ := id hLX
    have hC : CX G D cL_law RL 9 := hC
    refine k_iload hC 23 dL_law_23 rfl ?_
    refine k_aload_n hC 25 dL_law_25 rfl ?_
    refine k_slen hC hsc hbl hbA 26 dL_law_26 ?_
    refine k_iconst hC 27 dL_law_27 (nI 4) (by decide) ?_
    refine k_isub hC 28 dL_law_28 ?_
    refine k_icmp_gt hC 29 1086 dL_law_29 (by decide) (fun h29 => ?_) (fun h29 => ?_)
    · refine k_iconst hC 1086 dL_law_1086 (nI 1) (by decide) ?_
      exact hend _ _ _ _ (by omega) (by omega)
    · have hi : i + 4 ≤ L := law_in hL (by omega) h29
      refine k_aload_n hC 32 dL_law_32 rfl ?_
      refine k_iload hC 33 dL_law_33 rfl ?_
      refine k_sld hC hsc hbl hbA 35 dL_law_35 (show i < L by omega) (by omega) ?_
      refine k_bipush hC 36 dL_law_36 (nI 31) (by decide) ?_
      refine k_iand hC 38 dL_law_38 ?_
      have kk : LK l G D bb h q a b o i (100 + 100 * i + 350) (2000 + 400 * i + 1600) := fun s g s2 g2 f th m ho => by
        refine k_iinc hC 1080 4 (nI (i + 4)) [(4, .int (nI (i + 4))), (0, .ref bb), (1, .ref h), (2, .ref (o 0)), (3, .ref q)] dL_law_1080 rfl (nI_add _ 4) (by decide) rfl ?_
        refine k_goto hC 1083 23 dL_law_1083 (by decide) ?_
        refine KJ.lvp [1, 2, 3, 4, 0] rfl ?_
        refine KJ.wide (ce' := 100 + 100 * (i + 4)) (sl' := 2000 + 400 * (i + 4)) (by omega) (by omega) ?_
        exact ih (i + 4) s g s2 g2 f th m (by omega) (by omega) ho
      rcases law_sw (xs i &&& nI 31) with ⟨j, hj, e⟩ | hout
      · refine KJ.topi (y := nI j) e ?_
        rcases (show j = 0 ∨ j = 1 ∨ j = 2 ∨ j = 3 ∨ j = 4 ∨ j = 5 ∨ j = 6 ∨ j = 7 ∨ j = 8 ∨ j = 9 ∨ j = 10 ∨ j = 11 ∨ j = 12 ∨ j = 13 ∨ j = 14 ∨ j = 15 ∨ j = 16 by omega) with rfl | rfl | rfl | rfl | rfl | rfl | rfl | rfl | rfl | rfl | rfl | rfl | rfl | rfl | rfl | rfl | rfl
        · refine k_tableIn hC 39 120 dL_law_39 (by decide) (by decide) rfl (by decide) ?_
          exact lc_fetch l G D bb L xs h q a b o i _ _ hLX hi (by omega) (by omega) kk s g s2 g2 f th m ho
        · refine k_tableIn hC 39 176 dL_law_39 (by decide) (by decide) rfl (by decide) ?_
          exact lc_fetchAll l G D bb L xs h q a b o i _ _ hLX hi (by omega) (by omega) kk s g s2 g2 f th m ho
        · refine k_tableIn hC 39 256 dL_law_39 (by decide) (by decide) rfl (by decide) ?_
          exact lc_pin l G D bb L xs h q a b o i _ _ hLX hi (by omega) (by omega) kk s g s2 g2 f th m ho
        · refine k_tableIn hC 39 312 dL_law_39 (by decide) (by decide) rfl (by decide) ?_
          exact lc_unpin l G D bb L xs h q a b o i _ _ hLX hi (by omega) (by omega) kk s g s2 g2 f th m ho
        · refine k_tableIn hC 39 368 dL_law_39 (by decide) (by decide) rfl (by decide) ?_
          exact lc_eat l G D bb L xs h q a b o i _ _ hLX hi (by omega) (by omega) kk s g s2 g2 f th m ho
        · refine k_tableIn hC 39 424 dL_law_39 (by decide) (by decide) rfl (by decide) ?_
          exact lc_setPlaces l G D bb L xs h q a b o i _ _ hLX hi (by omega) (by omega) kk s g s2 g2 f th m ho
        · refine k_tableIn hC 39 480 dL_law_39 (by decide) (by decide) rfl (by decide) ?_
          exact lc_setGoal l G D bb L xs h q a b o i _ _ hLX hi (by omega) (by omega) kk s g s2 g2 f th m ho
        · refine k_tableIn hC 39 536 dL_law_39 (by decide) (by decide) rfl (by decide) ?_
          exact lc_jar l G D bb L xs h q a b o i _ _ hLX hi (by omega) (by omega) kk s g s2 g2 f th m ho
        · refine k_tableIn hC 39 604 dL_law_39 (by decide) (by decide) rfl (by decide) ?_
          exact lc_shelf l G D bb L xs h q a b o i _ _ hLX hi (by omega) (by omega) kk s g s2 g2 f th m ho
        · refine k_tableIn hC 39 672 dL_law_39 (by decide) (by decide) rfl (by decide) ?_
          exact lc_ghost l G D bb L xs h q a b o i _ _ hLX hi (by omega) (by omega) kk s g s2 g2 f th m ho
        · refine k_tableIn hC 39 740 dL_law_39 (by decide) (by decide) rfl (by decide) ?_
          exact lc_count l G D bb L xs h q a b o i _ _ hLX hi (by omega) (by omega) kk s g s2 g2 f th m ho
        · refine k_tableIn hC 39 796 dL_law_39 (by decide) (by decide) rfl (by decide) ?_
          exact lc_next l G D bb L xs h q a b o i _ _ hLX hi (by omega) (by omega) kk s g s2 g2 f th m ho
        · refine k_tableIn hC 39 809 dL_law_39 (by decide) (by decide) rfl (by decide) ?_
          exact lc_would l G D bb L xs h q a b o i _ _ hLX hi (by omega) (by omega) kk s g s2 g2 f th m ho
        · refine k_tableIn hC 39 865 dL_law_39 (by decide) (by decide) rfl (by decide) ?_
          exact lc_trial l G D bb L xs h q a b o i _ _ hLX hi (by omega) (by omega) kk s g s2 g2 f th m ho
        · refine k_tableIn hC 39 945 dL_law_39 (by decide) (by decide) rfl (by decide) ?_
          exact lc_advise l G D bb L xs h q a b o i _ _ hLX hi (by omega) (by omega) kk s g s2 g2 f th m ho
        · refine k_tableIn hC 39 1025 dL_law_39 (by decide) (by decide) rfl (by decide) ?_
          exact lc_mean l G D bb L xs h q a b o i _ _ hLX hi (by omega) (by omega) kk s g s2 g2 f th m ho hN
        · refine k_tableIn hC 39 1066 dL_law_39 (by decide) (by decide) rfl (by decide) ?_
          exact lc_digest l G D bb L xs h q a b o i _ _ hLX hi (by omega) (by omega) kk s g s2 g2 f th m ho
      · refine k_tableOut hC 39 1080 dL_law_39 hout (by decide) ?_
        exact KJ.wide (by omega) (by omega) (kk s g s2 g2 f th m ho)
set_option maxHeartbeats 400000 in
set_option maxRecDepth 100000 in
theorem law_run (l : Launch) (G : KX) (D : va_G) (bb L : Nat) (xs : Nat → Int32) (hLX : LX l G D bb L xs) (hN : ∀ (x : Int32) (j : Nat), 1 ≤ j → j ≤ 12 → vf_n64 (FP.ddiv (FP.i2d x) (FP.i2d (nI j)))) (hend : ∀ (ce sl : Nat) (ws : va_W) (lv : List (Nat × Value)), ce ≤ 709337 → sl ≤ 6968092 → KJ l G D room_1 9 ce sl ws lv 1087 [.int (nI 1)]) : KJ l G D room_1 9 0 0 [] [(0, .ref bb)] 0 [] := by
  have hC : CX G D cL_law RL 9 := hLX.1
  refine k_new hC 0 3 [.null, .null] dL_law_0 rfl inlX3 tyX3_ok wq_1_0 wq_1_1 wq_1_2 (fun j hj => by rcases (show j = 0 ∨ j = 1 by omega) with rfl | rfl <;> rfl) ⟨Nat.le_of_ble_eq_true rfl, Nat.le_of_ble_eq_true rfl⟩ (fun q0 => ?_)
  refine KJ.eqw (ws' := [(q0, .inr (3, [.null, .null]))]) rfl ?_
  refine k_dup hC 3 dL_law_3 rfl ?_
  refine f_callIe hC 4 ([]) (fun u => ((q0, .inr (3, [.ref (u.1 0), .ref (u.2 0)])) :: (wSt D u.1 initS zeroG ++ wSt D u.2 initS zeroG))) (c_X3_init l D q0) cw_RL_60 dL_law_4 ⟨Nat.le_of_ble_eq_true rfl, Nat.le_of_ble_eq_true rfl, Nat.le_of_ble_eq_true rfl, Nat.le_of_ble_eq_true rfl⟩ rfl (Nat.le_of_ble_eq_true rfl) (List.append_nil _).symm (fun _ => Nat.le_of_ble_eq_true rfl) (fun _ => List.append_nil _) _ rfl (fun v u hp => ?_)
  obtain rfl := hp
  refine KJ.eqs (st' := .ref q0 :: []) rfl ?_
  refine k_astore_n hC 7 1 [(1, .ref q0), (0, .ref bb)] dL_law_7 rfl (by decide) rfl ?_
  refine k_new hC 8 4 [.int 0, .null, .null, .null, .null] dL_law_8 rfl inlX4 tyX4_ok wq_1_3 wq_1_4 wq_1_5 (fun j hj => by rcases (show j = 0 ∨ j = 1 ∨ j = 2 ∨ j = 3 ∨ j = 4 by omega) with rfl | rfl | rfl | rfl | rfl <;> rfl) ⟨Nat.le_of_ble_eq_true rfl, Nat.le_of_ble_eq_true rfl⟩ (fun q8 => ?_)
  refine KJ.eqw (ws' := ((q0, .inr (3, [.ref (u.1 0), .ref (u.2 0)])) :: (wSt D u.1 initS zeroG ++ (wSt D u.2 initS zeroG ++ ((q8, .inr (4, [.int 0, .null, .null, .null, .null])) :: []))))) rfl ?_
  refine k_dup hC 11 dL_law_11 rfl ?_
  refine f_callIe hC 12 ((q0, .inr (3, [.ref (u.1 0), .ref (u.2 0)])) :: (wSt D u.1 initS zeroG ++ wSt D u.2 initS zeroG)) (fun o => ((q0, .inr (3, [.ref (u.1 0), .ref (u.2 0)])) :: (wSt D u.1 initS zeroG ++ (wSt D u.2 initS zeroG ++ wMo D o 0 initM)))) (m_init l D q8) cw_RL_63 dL_law_12 ⟨Nat.le_of_ble_eq_true rfl, Nat.le_of_ble_eq_true rfl, Nat.le_of_ble_eq_true rfl, Nat.le_of_ble_eq_true rfl⟩ rfl (Nat.le_of_ble_eq_true rfl) (by simp only [List.append_assoc, List.cons_append, List.nil_append, List.append_nil]) (fun _ => Nat.le_of_ble_eq_true rfl) (fun _ => by simp only [List.append_assoc, List.cons_append, List.nil_append, List.append_nil]) _ rfl (fun v o hp8 => ?_)
  obtain ⟨rfl, e8⟩ := hp8
  refine KJ.eqs (st' := .ref q8 :: []) rfl ?_
  refine k_astore_n hC 15 2 [(2, .ref q8), (1, .ref q0), (0, .ref bb)] dL_law_15 rfl (by decide) rfl ?_
  refine k_iconst hC 16 dL_law_16 (nI 1) (by decide) ?_
  refine k_newarrJ hC 17 1 dL_law_17 (by decide) (by decide) ⟨Nat.le_of_ble_eq_true rfl, Nat.le_of_ble_eq_true rfl⟩ (fun q17 => ?_)
  refine KJ.eqw (ws' := ((q0, .inr (3, [.ref (u.1 0), .ref (u.2 0)])) :: (wSt D u.1 initS zeroG ++ (wSt D u.2 initS zeroG ++ (wMo D o 0 initM ++ ((q17, .inl (D.1 6, 1, .inr (.inl (fun _ => 0)))) :: [])))))) rfl ?_
  refine k_astore_n hC 19 3 [(3, .ref q17), (2, .ref q8), (1, .ref q0), (0, .ref bb)] dL_law_19 rfl (by decide) rfl ?_
  refine k_iconst hC 20 dL_law_20 (nI 0) (by decide) ?_
  refine k_istore hC 21 4 [(4, .int (nI 0)), (3, .ref q17), (2, .ref q8), (1, .ref q0), (0, .ref bb)] dL_law_21 (by decide) rfl ?_
  subst e8
  refine KJ.sub (ws' := LW D q0 q17 u.1 u.2 o initS zeroG initS zeroG (fun _ => 0) 0 initM) [0, 1, 2, 3, 4, 5, 6, 7, 8, 9, 10, 11, 12, 13, 14, 15, 16, 17, 18, 19, 20, 21, 22, 23, 24, 25, 26, 27, 28, 29, 30, 36, 31, 32, 33, 34, 35] (by decide) rfl rfl ?_
  refine KJ.lvp [4, 3, 2, 1, 0] rfl ?_
  refine KJ.wide (ce' := 100 + 100 * 0) (sl' := 2000 + 400 * 0) (by omega) (by omega) ?_
  exact law_loop l G D bb L xs q0 q17 u.1 u.2 o hLX hN hend (L + 1) 0 initS zeroG initS zeroG (fun _ => 0) 0 initM (by omega) (by omega) ⟨init_SR, init_WF, init_MR, init_jp⟩
