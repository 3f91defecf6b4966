/-! The law: below, cell, fetch; the simulation folded -/
set_option maxHeartbeats 400000 in
set_option maxRecDepth 100000 in
/-- below -/
theorem c_L_below (l : Launch) (D : va_G) (x : Int32) (n : Nat) (h0 : 0 < n) (hn : n < 1073741824) : MU l yL_below cL_below 2 (some .int) 0 0 D [.int x, .int (nI n)] [] (fun v (u : Nat) => v = some (.int (nI u)) ∧ u < n) (fun _ => []) 0 0 := by
  refine MU.enter (by decide) [(0, .int x), (1, .int (nI n))] rfl (Nat.le_of_ble_eq_true rfl) (fun G hC hE => ?_)
  have hC : CX G D cL_below RL 2 := hC
  obtain ⟨j, hj, ej⟩ := pk_andE x (m := nI 2147483647) 31 (by decide)
  refine k_iload_n hC 0 dL_below_0 rfl ?_
  refine k_ldc hC 1 2147483647 dL_below_1 wq_3_20 (KJ.topi (y := nI 2147483647) rfl ?_)
  refine k_iand hC 3 dL_below_3 (KJ.topi (y := (nI j)) ej ?_)
  refine k_iload_n hC 4 dL_below_4 rfl ?_
  refine k_irem hC 5 dL_below_5 (nI_ne0 (by omega) (by omega)) (KJ.topi (y := (nI (j % n))) (pk_rem (by omega) h0 (by omega)) ?_)
  exact k_iret hC hE 6 (j % n) dL_below_6 rfl (⟨rfl, Nat.mod_lt _ h0⟩) rfl ⟨Nat.zero_le _, Nat.zero_le _⟩
set_option maxHeartbeats 400000 in
set_option maxRecDepth 100000 in
/-- cell -/
theorem c_L_cell (l : Launch) (hfl : l.stackTraces = false) (D : va_G) (bb LS : Nat) (xs : Nat → Int32) (k : Nat) (hLS : LS ≤ 260) (hk : k < 1073741824) : MS l yL_cell cL_cell 2 (some .int) 0 0 D bb LS xs [.ref bb, .int (nI k)] [] (fun v (u : Int32) => v = some (.int u)) (fun _ => []) 0 0 := by
  refine MS.enter hfl (by decide) [(0, .ref bb), (1, .int (nI k))] rfl (Nat.le_of_ble_eq_true rfl) (fun G hC hE hX hZ => ?_)
  have hC : CX G D cL_cell RL 2 := hC
  refine k_iload_n hC 0 dL_cell_0 rfl ?_
  refine k_aload_n hC 1 dL_cell_1 rfl ?_
  refine k_slen hC hZ 2 dL_cell_2 ?_
  refine n_icmp_ge hC 3 12 dL_cell_3 (by decide) (by omega) (by omega) (fun h3 => ?_) (fun h3 => ?_)
  · skip
    refine k_ldc hC 12 790386105 dL_cell_12 wq_3_16 (KJ.topi (y := nI 790386105) rfl ?_)
    refine k_iload_n hC 14 dL_cell_14 rfl ?_
    refine k_iconst hC 15 dL_cell_15 (nI 3) (by decide) ?_
    refine k_iadd hC 16 dL_cell_16 (KJ.topi (y := (nI (k + 3))) (nI_add _ _) ?_)
    refine n_imul hC 17 (790386105 * (k + 3)) dL_cell_17 rfl ?_
    exact k_iret hC hE 18 (nI (790386105 * (k + 3))) dL_cell_18 rfl rfl rfl ⟨Nat.zero_le _, Nat.zero_le _⟩
  · skip
    refine k_aload_n hC 6 dL_cell_6 rfl ?_
    refine k_iload_n hC 7 dL_cell_7 rfl ?_
    refine k_sld hC hZ 8 dL_cell_8 (by omega) (by omega) ?_
    refine k_goto hC 9 18 dL_cell_9 (by decide) ?_
    exact k_iret hC hE 18 (xs k) dL_cell_18 rfl rfl rfl ⟨Nat.zero_le _, Nat.zero_le _⟩
set_option maxHeartbeats 400000 in
set_option maxRecDepth 100000 in
theorem h_fetch (l : Launch) (hfl : l.stackTraces = false) (D : va_G) (h : Nat) (a b : Nat → Nat) (s s2 : PS) (g g2 : PG) (k : Nat) (hS : SR s g) (hW : WF s) (hk : k < 40) : MH l yL_fetch cL_fetch 3 (some .int) [(0, 5, 6, 17)] 8 135 D [.ref h, .int (nI k)] ((h, .inr (3, [.ref (a 0), .ref (b 0)])) :: (wSt D a s g ++ wSt D b s2 g2)) (fun v (u : (PS × PG) × PS × PG) => v = some (.int (ocI (oc s k))) ∧ u.1.1 = br s k ∧ SR u.1.1 u.1.2) (fun u => ((h, .inr (3, [.ref (a 0), .ref (b 0)])) :: (wSt D a u.1.1 u.1.2 ++ wSt D b u.2.1 u.2.2))) 2 12 := by
  refine MH.enter hfl (by decide) [(0, .ref h), (1, .int (nI k))] rfl (Nat.le_of_ble_eq_true rfl) (fun G hC hE hX htab => ?_)
  have hC : CX G D cL_fetch RL 3 := hC
  have ekn : kn (nI k) = k := kn_nI (by omega)
  refine k_aload_n hC 0 dL_fetch_0 rfl ?_
  refine k_iload_n hC 1 dL_fetch_1 rfl ?_
  refine g_callV hC hX 2 0 ([]) ([]) (fun u => ((h, .inr (3, [.ref (a 0), .ref (b 0)])) :: (wSt D a u.1.1 u.1.2 ++ wSt D b u.2.1 u.2.2))) (c_X3_fetch l hfl D h a b s s2 g g2 (nI k) hS hW) cw_RL_11 dL_fetch_2 ⟨Nat.le_of_ble_eq_true rfl, Nat.le_of_ble_eq_true rfl, Nat.le_of_ble_eq_true rfl, Nat.le_of_ble_eq_true rfl⟩ rfl (Nat.le_of_ble_eq_true rfl) rfl rfl rfl (by simp only [List.append_assoc, List.cons_append, List.nil_append, List.append_nil]) (fun _ => rfl) (fun _ => by simp only [List.append_assoc, List.cons_append, List.nil_append, List.append_nil]) _ rfl (fun v u hp => ?_) (fun E hx => ?_)
  obtain ⟨hK, rfl, eu, hSu⟩ := hp
  refine KJ.eqs (st' := .int (nI (oc s (kn (nI k)))) :: []) rfl ?_
  have hne : oc s k ≠ 4 := by
    have z := (kK_i0 hK).2
    rw [ekn] at z
    exact z
  exact k_iret hC hE 5 ((u.1.1, u.1.2), (u.2.1, u.2.2)) dL_fetch_5 rfl (⟨by rw [ocI_n hne, ekn], by rw [eu, ekn], hSu⟩) rfl ⟨Nat.le_of_ble_eq_true rfl, Nat.le_of_ble_eq_true rfl⟩
  rcases hx with ⟨hK, rfl⟩ | ⟨hK, rfl⟩
  · exact absurd (kK_i1 hK) (fun z => z (Ck.of hk))
  · skip
    have h4 : oc s k = 4 := by
      have z := kK_i2 hK
      rw [ekn] at z
      exact z
    refine x_catch (name := eS) hC htab 2 [] ⟨0, 5, 6, 17⟩ [] rfl (fun z hz => absurd hz List.not_mem_nil) (by decide) (by decide) wq_13_14 hX.2.1.1.2.2.2.1 (fun z => ?_)
    refine k_astore_n hC 6 2 [(2, .ref z), (0, .ref h), (1, .int (nI k))] dL_fetch_6 rfl (by decide) rfl ?_
    refine k_bipush hC 7 dL_fetch_7 (-9) (by decide) ?_
    exact k_iret hC hE 9 ((s, g), (s2, g2)) dL_fetch_9 rfl (⟨by rw [h4, ocI_4], (br_4 h4).symm, hS⟩) rfl ⟨Nat.le_of_ble_eq_true rfl, Nat.le_of_ble_eq_true rfl⟩
theorem f_find_in (l : Launch) (D : va_G) (m p r : Nat) (s : PS) (x : SX) (k : Nat) (hW : WF s) (hJ : SJ s x) (hk : k < 40) (hin : inn s k) : MU l yX5_find cX5_find 10 (some (.object "PinnedPantryLaw$Jar")) 0 0 D [.ref m, .int (nI k)] (wSm D m p r s x) (fun v (_ : Unit) => v = some (.ref (xA x k))) (fun _ => wSm D m p r s x) 0 0 := by
  obtain ⟨N, T, A, B, to, pi, fe, pl, go, hi, mi, re, lo⟩ := s
  obtain ⟨n0, n1, l0, l1, hs, hl, f0, f1, g0, g1, L, f, adr⟩ := x
  have z := s_find l D m p r N T A B to pi fe pl go hi mi re lo n0 n1 l0 l1 hs hl f0 f1 g0 g1 L f adr k hW hJ hk
  have hin2 : k ∈ N ∨ k ∈ T := hin
  rw [if_pos hin2] at z
  exact z
theorem f_find_no (l : Launch) (D : va_G) (m p r : Nat) (s : PS) (x : SX) (k : Nat) (hW : WF s) (hJ : SJ s x) (hk : k < 40) (hin : ¬ inn s k) : MU l yX5_find cX5_find 10 (some (.object "PinnedPantryLaw$Jar")) 0 0 D [.ref m, .int (nI k)] (wSm D m p r s x) (fun v (_ : Unit) => v = some .null) (fun _ => wSm D m p r s x) 0 0 := by
  obtain ⟨N, T, A, B, to, pi, fe, pl, go, hi, mi, re, lo⟩ := s
  obtain ⟨n0, n1, l0, l1, hs, hl, f0, f1, g0, g1, L, f, adr⟩ := x
  have z := s_find l D m p r N T A B to pi fe pl go hi mi re lo n0 n1 l0 l1 hs hl f0 f1 g0 g1 L f adr k hW hJ hk
  have hin2 : ¬ (k ∈ N ∨ k ∈ T) := hin
  rw [if_neg hin2] at z
  exact z
