/-! The law's own helpers: each calls the pantry and tells which refusal came -/
theorem kK_n2 {c : Prop} : ¬ kK c False = 2 := by
  unfold kK
  split
  · decide
  · simp
set_option maxHeartbeats 400000 in
set_option maxRecDepth 100000 in
theorem h_fetch (l : Launch) (hfl : l.stackTraces = false) (D : va_G) (h : Nat) (a b : Nat → Nat) (s s2 : PS) (g g2 : PG) (q : Nat) (f : Nat → Int64) (p : Int32) (hS : SR s g) (hW : WF s) : MH l yL_fetch cL_fetch 4 (some .int) [(0, 9, 12, 13), (0, 9, 15, 15)] 8 135 D [.ref h, .int p, .ref q] ((h, .inr (3, [.ref (a 0), .ref (b 0)])) :: (wSt D a s g ++ (wSt D b s2 g2 ++ ((q, .inl (D.1 6, 1, .inr (.inl f))) :: [])))) (fun v (u : ((PS × PG) × PS × PG) × (Nat → Int64)) => v = some (.int (nI (fetchK s p))) ∧ ((fetchK s p = 0 ∧ u.1.1.1 = br s (kn p) ∧ u.2 0 = (nI (oc s (kn p))).toInt64) ∨ (fetchK s p ≠ 0 ∧ u.1.1.1 = s)) ∧ SR u.1.1.1 u.1.1.2) (fun u => (h, .inr (3, [.ref (a 0), .ref (b 0)])) :: (wSt D a u.1.1.1 u.1.1.2 ++ (wSt D b u.1.2.1 u.1.2.2 ++ [(q, .inl (D.1 6, 1, .inr (.inl u.2)))]))) 2 12 := by
  refine MH.enter hfl (by decide) [(0, .ref h), (1, .int p), (2, .ref q)] rfl (Nat.le_of_ble_eq_true rfl) (fun G hC hE hX htab => ?_)
  have hC : CX G D cL_fetch RL 4 := hC
  refine k_aload_n hC 0 dL_fetch_0 rfl ?_
  refine k_iconst hC 1 dL_fetch_1 (nI 0) (by decide) ?_
  refine k_aload_n hC 2 dL_fetch_2 rfl ?_
  refine k_iload_n hC 3 dL_fetch_3 rfl ?_
  refine g_callV hC hX 4 0 ([]) ((q, .inl (D.1 6, 1, .inr (.inl f))) :: []) (fun u => ((h, .inr (3, [.ref (a 0), .ref (b 0)])) :: (wSt D a u.1.1 u.1.2 ++ (wSt D b u.2.1 u.2.2 ++ ((q, .inl (D.1 6, 1, .inr (.inl f))) :: []))))) (c_X3_fetch l hfl D h a b s s2 g g2 p hS hW) cw_RL_7 dL_fetch_4 ⟨Nat.le_of_ble_eq_true rfl, Nat.le_of_ble_eq_true rfl, Nat.le_of_ble_eq_true rfl, Nat.le_of_ble_eq_true rfl⟩ rfl (Nat.le_of_ble_eq_true rfl) rfl rfl rfl (by simp only [List.append_assoc, List.cons_append, List.nil_append]) (fun _ => rfl) (fun _ => by simp only [List.append_assoc, List.cons_append, List.nil_append]) _ rfl (fun v u hp => ?_) (fun E hx => ?_)
  obtain ⟨hK, rfl, eu, hSu⟩ := hp
  refine KJ.eqs (st' := .int (nI (oc s (kn p))) :: .int (nI 0) :: .ref q :: []) rfl ?_
  refine k_i2l hC 7 dL_fetch_7 ((nI (oc s (kn p))).toInt64) rfl ?_
  refine n_last hC 8 31 ((h, .inr (3, [.ref (a 0), .ref (b 0)])) :: (wSt D a u.1.1 u.1.2 ++ (wSt D b u.2.1 u.2.2 ++ ((q, .inl (D.1 6, 1, .inr (.inl (vp_updL f 0 ((nI (oc s (kn p))).toInt64))))) :: [])))) dL_fetch_8 rfl (by omega) (by decide) rfl ?_
  refine k_goto hC 9 18 dL_fetch_9 (by decide) ?_
  refine k_iconst hC 18 dL_fetch_18 (nI 0) (by decide) ?_
  exact k_iret hC hE 19 (((u.1.1, u.1.2), (u.2.1, u.2.2)), vp_updL f 0 ((nI (oc s (kn p))).toInt64)) dL_fetch_19 rfl (⟨by rw [hK], Or.inl ⟨hK, eu, rfl⟩, hSu⟩) rfl ⟨Nat.le_of_ble_eq_true rfl, Nat.le_of_ble_eq_true rfl⟩
  rcases hx with ⟨hK, rfl⟩ | ⟨hK, rfl⟩
  · skip
    refine x_catch (name := eB) hC htab 4 [] ⟨0, 9, 12, 13⟩ [⟨0, 9, 15, 15⟩] rfl (fun z hz => absurd hz List.not_mem_nil) (by decide) (by decide) wq_3_12 hX.2.1.1.2.2.2.2.1 (fun z => ?_)
    refine k_astore_n hC 12 3 [(3, .ref z), (0, .ref h), (1, .int p), (2, .ref q)] dL_fetch_12 rfl (by decide) rfl ?_
    refine k_iconst hC 13 dL_fetch_13 (nI 1) (by decide) ?_
    exact k_iret hC hE 14 (((s, g), (s2, g2)), f) dL_fetch_14 rfl (⟨by rw [hK], Or.inr ⟨by rw [hK]; decide, rfl⟩, hS⟩) rfl ⟨Nat.le_of_ble_eq_true rfl, Nat.le_of_ble_eq_true rfl⟩
  · skip
    refine x_catch (name := eS) hC htab 4 [⟨0, 9, 12, 13⟩] ⟨0, 9, 15, 15⟩ [] rfl (fun z hz => by rcases List.mem_singleton.mp hz with rfl; exact Or.inr ⟨by decide, eB, wq_3_12, hX.2.1.2.2.1⟩) (by decide) (by decide) wq_3_13 hX.2.1.1.2.2.2.1 (fun z => ?_)
    refine k_astore_n hC 15 3 [(3, .ref z), (0, .ref h), (1, .int p), (2, .ref q)] dL_fetch_15 rfl (by decide) rfl ?_
    refine k_iconst hC 16 dL_fetch_16 (nI 2) (by decide) ?_
    exact k_iret hC hE 17 (((s, g), (s2, g2)), f) dL_fetch_17 rfl (⟨by rw [hK], Or.inr ⟨by rw [hK]; decide, rfl⟩, hS⟩) rfl ⟨Nat.le_of_ble_eq_true rfl, Nat.le_of_ble_eq_true rfl⟩
set_option maxHeartbeats 400000 in
set_option maxRecDepth 100000 in
theorem h_fetchAll (l : Launch) (hfl : l.stackTraces = false) (D : va_G) (h : Nat) (a b : Nat → Nat) (s s2 : PS) (g g2 : PG) (q : Nat) (f : Nat → Int64) (p0 p1 p2 : Int32) (hS : SR s g) (hW : WF s) : MH l yL_fetchAll cL_fetchAll 6 (some .int) [(0, 12, 15, 13), (0, 12, 19, 21)] 9 161 D [.ref h, .int p0, .int p1, .int p2, .ref q] ((h, .inr (3, [.ref (a 0), .ref (b 0)])) :: (wSt D a s g ++ (wSt D b s2 g2 ++ ((q, .inl (D.1 6, 1, .inr (.inl f))) :: [])))) (fun v (u : ((PS × PG) × PS × PG) × (Nat → Int64)) => v = some (.int (nI (serK p0 p1 p2))) ∧ ((serK p0 p1 p2 = 0 ∧ u.1.1.1 = serS s p0 p1 p2 ∧ u.2 0 = (serV s p0 p1 p2).toInt64) ∨ (serK p0 p1 p2 ≠ 0 ∧ u.1.1.1 = s)) ∧ SR u.1.1.1 u.1.1.2) (fun u => (h, .inr (3, [.ref (a 0), .ref (b 0)])) :: (wSt D a u.1.1.1 u.1.1.2 ++ (wSt D b u.1.2.1 u.1.2.2 ++ [(q, .inl (D.1 6, 1, .inr (.inl u.2)))]))) 2 12 := by
  refine MH.enter hfl (by decide) [(0, .ref h), (1, .int p0), (2, .int p1), (3, .int p2), (4, .ref q)] rfl (Nat.le_of_ble_eq_true rfl) (fun G hC hE hX htab => ?_)
  have hC : CX G D cL_fetchAll RL 6 := hC
  refine k_aload hC 0 dL_fetchAll_0 rfl ?_
  refine k_iconst hC 2 dL_fetchAll_2 (nI 0) (by decide) ?_
  refine k_aload_n hC 3 dL_fetchAll_3 rfl ?_
  refine k_iload_n hC 4 dL_fetchAll_4 rfl ?_
  refine k_iload_n hC 5 dL_fetchAll_5 rfl ?_
  refine k_iload_n hC 6 dL_fetchAll_6 rfl ?_
  refine g_callV hC hX 7 0 ([]) ((q, .inl (D.1 6, 1, .inr (.inl f))) :: []) (fun u => ((h, .inr (3, [.ref (a 0), .ref (b 0)])) :: (wSt D a u.1.1 u.1.2 ++ (wSt D b u.2.1 u.2.2 ++ ((q, .inl (D.1 6, 1, .inr (.inl f))) :: []))))) (c_X3_fetchAll l hfl D h a b s s2 g g2 p0 p1 p2 hS hW) cw_RL_17 dL_fetchAll_7 ⟨Nat.le_of_ble_eq_true rfl, Nat.le_of_ble_eq_true rfl, Nat.le_of_ble_eq_true rfl, Nat.le_of_ble_eq_true rfl⟩ rfl (Nat.le_of_ble_eq_true rfl) rfl rfl rfl (by simp only [List.append_assoc, List.cons_append, List.nil_append]) (fun _ => rfl) (fun _ => by simp only [List.append_assoc, List.cons_append, List.nil_append]) _ rfl (fun v u hp => ?_) (fun E hx => ?_)
  obtain ⟨hK, rfl, eu, hSu⟩ := hp
  refine KJ.eqs (st' := .int (serV s p0 p1 p2) :: .int (nI 0) :: .ref q :: []) rfl ?_
  refine k_i2l hC 10 dL_fetchAll_10 ((serV s p0 p1 p2).toInt64) rfl ?_
  refine n_last hC 11 31 ((h, .inr (3, [.ref (a 0), .ref (b 0)])) :: (wSt D a u.1.1 u.1.2 ++ (wSt D b u.2.1 u.2.2 ++ ((q, .inl (D.1 6, 1, .inr (.inl (vp_updL f 0 ((serV s p0 p1 p2).toInt64))))) :: [])))) dL_fetchAll_11 rfl (by omega) (by decide) rfl ?_
  refine k_goto hC 12 23 dL_fetchAll_12 (by decide) ?_
  refine k_iconst hC 23 dL_fetchAll_23 (nI 0) (by decide) ?_
  exact k_iret hC hE 24 (((u.1.1, u.1.2), (u.2.1, u.2.2)), vp_updL f 0 ((serV s p0 p1 p2).toInt64)) dL_fetchAll_24 rfl (⟨by rw [hK], Or.inl ⟨hK, eu, rfl⟩, hSu⟩) rfl ⟨Nat.le_of_ble_eq_true rfl, Nat.le_of_ble_eq_true rfl⟩
  rcases hx with ⟨hK, rfl⟩ | ⟨hK, rfl⟩
  · skip
    refine x_catch (name := eB) hC htab 7 [] ⟨0, 12, 15, 13⟩ [⟨0, 12, 19, 21⟩] rfl (fun z hz => absurd hz List.not_mem_nil) (by decide) (by decide) wq_3_12 hX.2.1.1.2.2.2.2.1 (fun z => ?_)
    refine k_astore hC 15 5 [(5, .ref z), (0, .ref h), (1, .int p0), (2, .int p1), (3, .int p2), (4, .ref q)] dL_fetchAll_15 (by decide) rfl ?_
    refine k_iconst hC 17 dL_fetchAll_17 (nI 1) (by decide) ?_
    exact k_iret hC hE 18 (((s, g), (s2, g2)), f) dL_fetchAll_18 rfl (⟨by rw [hK], Or.inr ⟨by rw [hK]; decide, rfl⟩, hS⟩) rfl ⟨Nat.le_of_ble_eq_true rfl, Nat.le_of_ble_eq_true rfl⟩
  · skip
    refine x_catch (name := eA) hC htab 7 [⟨0, 12, 15, 13⟩] ⟨0, 12, 19, 21⟩ [] rfl (fun z hz => by rcases List.mem_singleton.mp hz with rfl; exact Or.inr ⟨by decide, eB, wq_3_12, hX.2.1.2.2.2.1⟩) (by decide) (by decide) wq_12_11 hX.2.1.1.2.2.2.2.2 (fun z => ?_)
    refine k_astore hC 19 5 [(5, .ref z), (0, .ref h), (1, .int p0), (2, .int p1), (3, .int p2), (4, .ref q)] dL_fetchAll_19 (by decide) rfl ?_
    refine k_iconst hC 21 dL_fetchAll_21 (nI 2) (by decide) ?_
    exact k_iret hC hE 22 (((s, g), (s2, g2)), f) dL_fetchAll_22 rfl (⟨by rw [hK], Or.inr ⟨by rw [hK]; decide, rfl⟩, hS⟩) rfl ⟨Nat.le_of_ble_eq_true rfl, Nat.le_of_ble_eq_true rfl⟩
set_option maxHeartbeats 400000 in
set_option maxRecDepth 100000 in
theorem h_pin (l : Launch) (hfl : l.stackTraces = false) (D : va_G) (h : Nat) (a b : Nat → Nat) (s s2 : PS) (g g2 : PG) (q : Nat) (f : Nat → Int64) (p : Int32) (hS : SR s g) (hW : WF s) : MH l yL_pin cL_pin 4 (some .int) [(0, 9, 12, 13), (0, 9, 15, 15)] 8 124 D [.ref h, .int p, .ref q] ((h, .inr (3, [.ref (a 0), .ref (b 0)])) :: (wSt D a s g ++ (wSt D b s2 g2 ++ ((q, .inl (D.1 6, 1, .inr (.inl f))) :: [])))) (fun v (u : ((PS × PG) × PS × PG) × (Nat → Int64)) => v = some (.int (nI (pinK s p))) ∧ ((pinK s p = 0 ∧ u.1.1.1 = upPi s (kn p) (piS s (kn p) + 1) ∧ u.2 0 = (nI (piS s (kn p) + 1)).toInt64) ∨ (pinK s p ≠ 0 ∧ u.1.1.1 = s)) ∧ SR u.1.1.1 u.1.1.2) (fun u => (h, .inr (3, [.ref (a 0), .ref (b 0)])) :: (wSt D a u.1.1.1 u.1.1.2 ++ (wSt D b u.1.2.1 u.1.2.2 ++ [(q, .inl (D.1 6, 1, .inr (.inl u.2)))]))) 3 18 := by
  refine MH.enter hfl (by decide) [(0, .ref h), (1, .int p), (2, .ref q)] rfl (Nat.le_of_ble_eq_true rfl) (fun G hC hE hX htab => ?_)
  have hC : CX G D cL_pin RL 4 := hC
  refine k_aload_n hC 0 dL_pin_0 rfl ?_
  refine k_iconst hC 1 dL_pin_1 (nI 0) (by decide) ?_
  refine k_aload_n hC 2 dL_pin_2 rfl ?_
  refine k_iload_n hC 3 dL_pin_3 rfl ?_
  refine g_callV hC hX 4 0 ([]) ((q, .inl (D.1 6, 1, .inr (.inl f))) :: []) (fun u => ((h, .inr (3, [.ref (a 0), .ref (b 0)])) :: (wSt D a u.1.1 u.1.2 ++ (wSt D b u.2.1 u.2.2 ++ ((q, .inl (D.1 6, 1, .inr (.inl f))) :: []))))) (c_X3_pin l hfl D h a b s s2 g g2 p hS hW) cw_RL_23 dL_pin_4 ⟨Nat.le_of_ble_eq_true rfl, Nat.le_of_ble_eq_true rfl, Nat.le_of_ble_eq_true rfl, Nat.le_of_ble_eq_true rfl⟩ rfl (Nat.le_of_ble_eq_true rfl) rfl rfl rfl (by simp only [List.append_assoc, List.cons_append, List.nil_append]) (fun _ => rfl) (fun _ => by simp only [List.append_assoc, List.cons_append, List.nil_append]) _ rfl (fun v u hp => ?_) (fun E hx => ?_)
  obtain ⟨hK, rfl, eu, hSu⟩ := hp
  refine KJ.eqs (st' := .int (nI (piS s (kn p) + 1)) :: .int (nI 0) :: .ref q :: []) rfl ?_
  refine k_i2l hC 7 dL_pin_7 ((nI (piS s (kn p) + 1)).toInt64) rfl ?_
  refine n_last hC 8 31 ((h, .inr (3, [.ref (a 0), .ref (b 0)])) :: (wSt D a u.1.1 u.1.2 ++ (wSt D b u.2.1 u.2.2 ++ ((q, .inl (D.1 6, 1, .inr (.inl (vp_updL f 0 ((nI (piS s (kn p) + 1)).toInt64))))) :: [])))) dL_pin_8 rfl (by omega) (by decide) rfl ?_
  refine k_goto hC 9 18 dL_pin_9 (by decide) ?_
  refine k_iconst hC 18 dL_pin_18 (nI 0) (by decide) ?_
  exact k_iret hC hE 19 (((u.1.1, u.1.2), (u.2.1, u.2.2)), vp_updL f 0 ((nI (piS s (kn p) + 1)).toInt64)) dL_pin_19 rfl (⟨by rw [hK], Or.inl ⟨hK, eu, rfl⟩, hSu⟩) rfl ⟨Nat.le_of_ble_eq_true rfl, Nat.le_of_ble_eq_true rfl⟩
  rcases hx with ⟨hK, rfl⟩ | ⟨hK, rfl⟩
  · skip
    refine x_catch (name := eB) hC htab 4 [] ⟨0, 9, 12, 13⟩ [⟨0, 9, 15, 15⟩] rfl (fun z hz => absurd hz List.not_mem_nil) (by decide) (by decide) wq_3_12 hX.2.1.1.2.2.2.2.1 (fun z => ?_)
    refine k_astore_n hC 12 3 [(3, .ref z), (0, .ref h), (1, .int p), (2, .ref q)] dL_pin_12 rfl (by decide) rfl ?_
    refine k_iconst hC 13 dL_pin_13 (nI 1) (by decide) ?_
    exact k_iret hC hE 14 (((s, g), (s2, g2)), f) dL_pin_14 rfl (⟨by rw [hK], Or.inr ⟨by rw [hK]; decide, rfl⟩, hS⟩) rfl ⟨Nat.le_of_ble_eq_true rfl, Nat.le_of_ble_eq_true rfl⟩
  · skip
    refine x_catch (name := eS) hC htab 4 [⟨0, 9, 12, 13⟩] ⟨0, 9, 15, 15⟩ [] rfl (fun z hz => by rcases List.mem_singleton.mp hz with rfl; exact Or.inr ⟨by decide, eB, wq_3_12, hX.2.1.2.2.1⟩) (by decide) (by decide) wq_3_13 hX.2.1.1.2.2.2.1 (fun z => ?_)
    refine k_astore_n hC 15 3 [(3, .ref z), (0, .ref h), (1, .int p), (2, .ref q)] dL_pin_15 rfl (by decide) rfl ?_
    refine k_iconst hC 16 dL_pin_16 (nI 2) (by decide) ?_
    exact k_iret hC hE 17 (((s, g), (s2, g2)), f) dL_pin_17 rfl (⟨by rw [hK], Or.inr ⟨by rw [hK]; decide, rfl⟩, hS⟩) rfl ⟨Nat.le_of_ble_eq_true rfl, Nat.le_of_ble_eq_true rfl⟩
set_option maxHeartbeats 400000 in
set_option maxRecDepth 100000 in
theorem h_unpin (l : Launch) (hfl : l.stackTraces = false) (D : va_G) (h : Nat) (a b : Nat → Nat) (s s2 : PS) (g g2 : PG) (q : Nat) (f : Nat → Int64) (p : Int32) (hS : SR s g) (hW : WF s) : MH l yL_unpin cL_unpin 4 (some .int) [(0, 9, 12, 13), (0, 9, 15, 15)] 8 124 D [.ref h, .int p, .ref q] ((h, .inr (3, [.ref (a 0), .ref (b 0)])) :: (wSt D a s g ++ (wSt D b s2 g2 ++ ((q, .inl (D.1 6, 1, .inr (.inl f))) :: [])))) (fun v (u : ((PS × PG) × PS × PG) × (Nat → Int64)) => v = some (.int (nI (unpinK s p))) ∧ ((unpinK s p = 0 ∧ u.1.1.1 = upPi s (kn p) (piS s (kn p) - 1) ∧ u.2 0 = (nI (piS s (kn p) - 1)).toInt64) ∨ (unpinK s p ≠ 0 ∧ u.1.1.1 = s)) ∧ SR u.1.1.1 u.1.1.2) (fun u => (h, .inr (3, [.ref (a 0), .ref (b 0)])) :: (wSt D a u.1.1.1 u.1.1.2 ++ (wSt D b u.1.2.1 u.1.2.2 ++ [(q, .inl (D.1 6, 1, .inr (.inl u.2)))]))) 3 18 := by
  refine MH.enter hfl (by decide) [(0, .ref h), (1, .int p), (2, .ref q)] rfl (Nat.le_of_ble_eq_true rfl) (fun G hC hE hX htab => ?_)
  have hC : CX G D cL_unpin RL 4 := hC
  refine k_aload_n hC 0 dL_unpin_0 rfl ?_
  refine k_iconst hC 1 dL_unpin_1 (nI 0) (by decide) ?_
  refine k_aload_n hC 2 dL_unpin_2 rfl ?_
  refine k_iload_n hC 3 dL_unpin_3 rfl ?_
  refine g_callV hC hX 4 0 ([]) ((q, .inl (D.1 6, 1, .inr (.inl f))) :: []) (fun u => ((h, .inr (3, [.ref (a 0), .ref (b 0)])) :: (wSt D a u.1.1 u.1.2 ++ (wSt D b u.2.1 u.2.2 ++ ((q, .inl (D.1 6, 1, .inr (.inl f))) :: []))))) (c_X3_unpin l hfl D h a b s s2 g g2 p hS hW) cw_RL_26 dL_unpin_4 ⟨Nat.le_of_ble_eq_true rfl, Nat.le_of_ble_eq_true rfl, Nat.le_of_ble_eq_true rfl, Nat.le_of_ble_eq_true rfl⟩ rfl (Nat.le_of_ble_eq_true rfl) rfl rfl rfl (by simp only [List.append_assoc, List.cons_append, List.nil_append]) (fun _ => rfl) (fun _ => by simp only [List.append_assoc, List.cons_append, List.nil_append]) _ rfl (fun v u hp => ?_) (fun E hx => ?_)
  obtain ⟨hK, rfl, eu, hSu⟩ := hp
  refine KJ.eqs (st' := .int (nI (piS s (kn p) - 1)) :: .int (nI 0) :: .ref q :: []) rfl ?_
  refine k_i2l hC 7 dL_unpin_7 ((nI (piS s (kn p) - 1)).toInt64) rfl ?_
  refine n_last hC 8 31 ((h, .inr (3, [.ref (a 0), .ref (b 0)])) :: (wSt D a u.1.1 u.1.2 ++ (wSt D b u.2.1 u.2.2 ++ ((q, .inl (D.1 6, 1, .inr (.inl (vp_updL f 0 ((nI (piS s (kn p) - 1)).toInt64))))) :: [])))) dL_unpin_8 rfl (by omega) (by decide) rfl ?_
  refine k_goto hC 9 18 dL_unpin_9 (by decide) ?_
  refine k_iconst hC 18 dL_unpin_18 (nI 0) (by decide) ?_
  exact k_iret hC hE 19 (((u.1.1, u.1.2), (u.2.1, u.2.2)), vp_updL f 0 ((nI (piS s (kn p) - 1)).toInt64)) dL_unpin_19 rfl (⟨by rw [hK], Or.inl ⟨hK, eu, rfl⟩, hSu⟩) rfl ⟨Nat.le_of_ble_eq_true rfl, Nat.le_of_ble_eq_true rfl⟩
  rcases hx with ⟨hK, rfl⟩ | ⟨hK, rfl⟩
  · skip
    refine x_catch (name := eB) hC htab 4 [] ⟨0, 9, 12, 13⟩ [⟨0, 9, 15, 15⟩] rfl (fun z hz => absurd hz List.not_mem_nil) (by decide) (by decide) wq_3_12 hX.2.1.1.2.2.2.2.1 (fun z => ?_)
    refine k_astore_n hC 12 3 [(3, .ref z), (0, .ref h), (1, .int p), (2, .ref q)] dL_unpin_12 rfl (by decide) rfl ?_
    refine k_iconst hC 13 dL_unpin_13 (nI 1) (by decide) ?_
    exact k_iret hC hE 14 (((s, g), (s2, g2)), f) dL_unpin_14 rfl (⟨by rw [hK], Or.inr ⟨by rw [hK]; decide, rfl⟩, hS⟩) rfl ⟨Nat.le_of_ble_eq_true rfl, Nat.le_of_ble_eq_true rfl⟩
  · skip
    refine x_catch (name := eS) hC htab 4 [⟨0, 9, 12, 13⟩] ⟨0, 9, 15, 15⟩ [] rfl (fun z hz => by rcases List.mem_singleton.mp hz with rfl; exact Or.inr ⟨by decide, eB, wq_3_12, hX.2.1.2.2.1⟩) (by decide) (by decide) wq_3_13 hX.2.1.1.2.2.2.1 (fun z => ?_)
    refine k_astore_n hC 15 3 [(3, .ref z), (0, .ref h), (1, .int p), (2, .ref q)] dL_unpin_15 rfl (by decide) rfl ?_
    refine k_iconst hC 16 dL_unpin_16 (nI 2) (by decide) ?_
    exact k_iret hC hE 17 (((s, g), (s2, g2)), f) dL_unpin_17 rfl (⟨by rw [hK], Or.inr ⟨by rw [hK]; decide, rfl⟩, hS⟩) rfl ⟨Nat.le_of_ble_eq_true rfl, Nat.le_of_ble_eq_true rfl⟩
set_option maxHeartbeats 400000 in
set_option maxRecDepth 100000 in
theorem h_eat (l : Launch) (hfl : l.stackTraces = false) (D : va_G) (h : Nat) (a b : Nat → Nat) (s s2 : PS) (g g2 : PG) (q : Nat) (f : Nat → Int64) (p : Int32) (hS : SR s g) (hW : WF s) : MH l yL_eat cL_eat 4 (some .int) [(0, 9, 12, 13), (0, 9, 15, 15)] 8 124 D [.ref h, .int p, .ref q] ((h, .inr (3, [.ref (a 0), .ref (b 0)])) :: (wSt D a s g ++ (wSt D b s2 g2 ++ ((q, .inl (D.1 6, 1, .inr (.inl f))) :: [])))) (fun v (u : ((PS × PG) × PS × PG) × (Nat → Int64)) => v = some (.int (nI (eatK s p))) ∧ ((eatK s p = 0 ∧ u.1.1.1 = eatS s (kn p) ∧ u.2 0 = (feS s (kn p)).toInt64) ∨ (eatK s p ≠ 0 ∧ u.1.1.1 = s)) ∧ SR u.1.1.1 u.1.1.2) (fun u => (h, .inr (3, [.ref (a 0), .ref (b 0)])) :: (wSt D a u.1.1.1 u.1.1.2 ++ (wSt D b u.1.2.1 u.1.2.2 ++ [(q, .inl (D.1 6, 1, .inr (.inl u.2)))]))) 3 18 := by
  refine MH.enter hfl (by decide) [(0, .ref h), (1, .int p), (2, .ref q)] rfl (Nat.le_of_ble_eq_true rfl) (fun G hC hE hX htab => ?_)
  have hC : CX G D cL_eat RL 4 := hC
  refine k_aload_n hC 0 dL_eat_0 rfl ?_
  refine k_iconst hC 1 dL_eat_1 (nI 0) (by decide) ?_
  refine k_aload_n hC 2 dL_eat_2 rfl ?_
  refine k_iload_n hC 3 dL_eat_3 rfl ?_
  refine g_callV hC hX 4 0 ([]) ((q, .inl (D.1 6, 1, .inr (.inl f))) :: []) (fun u => ((h, .inr (3, [.ref (a 0), .ref (b 0)])) :: (wSt D a u.1.1 u.1.2 ++ (wSt D b u.2.1 u.2.2 ++ ((q, .inl (D.1 6, 1, .inr (.inl f))) :: []))))) (c_X3_eat l hfl D h a b s s2 g g2 p hS hW) cw_RL_29 dL_eat_4 ⟨Nat.le_of_ble_eq_true rfl, Nat.le_of_ble_eq_true rfl, Nat.le_of_ble_eq_true rfl, Nat.le_of_ble_eq_true rfl⟩ rfl (Nat.le_of_ble_eq_true rfl) rfl rfl rfl (by simp only [List.append_assoc, List.cons_append, List.nil_append]) (fun _ => rfl) (fun _ => by simp only [List.append_assoc, List.cons_append, List.nil_append]) _ rfl (fun v u hp => ?_) (fun E hx => ?_)
  obtain ⟨hK, rfl, eu, hSu⟩ := hp
  refine KJ.eqs (st' := .int (feS s (kn p)) :: .int (nI 0) :: .ref q :: []) rfl ?_
  refine k_i2l hC 7 dL_eat_7 ((feS s (kn p)).toInt64) rfl ?_
  refine n_last hC 8 31 ((h, .inr (3, [.ref (a 0), .ref (b 0)])) :: (wSt D a u.1.1 u.1.2 ++ (wSt D b u.2.1 u.2.2 ++ ((q, .inl (D.1 6, 1, .inr (.inl (vp_updL f 0 ((feS s (kn p)).toInt64))))) :: [])))) dL_eat_8 rfl (by omega) (by decide) rfl ?_
  refine k_goto hC 9 18 dL_eat_9 (by decide) ?_
  refine k_iconst hC 18 dL_eat_18 (nI 0) (by decide) ?_
  exact k_iret hC hE 19 (((u.1.1, u.1.2), (u.2.1, u.2.2)), vp_updL f 0 ((feS s (kn p)).toInt64)) dL_eat_19 rfl (⟨by rw [hK], Or.inl ⟨hK, eu, rfl⟩, hSu⟩) rfl ⟨Nat.le_of_ble_eq_true rfl, Nat.le_of_ble_eq_true rfl⟩
  rcases hx with ⟨hK, rfl⟩ | ⟨hK, rfl⟩
  · skip
    refine x_catch (name := eB) hC htab 4 [] ⟨0, 9, 12, 13⟩ [⟨0, 9, 15, 15⟩] rfl (fun z hz => absurd hz List.not_mem_nil) (by decide) (by decide) wq_3_12 hX.2.1.1.2.2.2.2.1 (fun z => ?_)
    refine k_astore_n hC 12 3 [(3, .ref z), (0, .ref h), (1, .int p), (2, .ref q)] dL_eat_12 rfl (by decide) rfl ?_
    refine k_iconst hC 13 dL_eat_13 (nI 1) (by decide) ?_
    exact k_iret hC hE 14 (((s, g), (s2, g2)), f) dL_eat_14 rfl (⟨by rw [hK], Or.inr ⟨by rw [hK]; decide, rfl⟩, hS⟩) rfl ⟨Nat.le_of_ble_eq_true rfl, Nat.le_of_ble_eq_true rfl⟩
  · skip
    refine x_catch (name := eS) hC htab 4 [⟨0, 9, 12, 13⟩] ⟨0, 9, 15, 15⟩ [] rfl (fun z hz => by rcases List.mem_singleton.mp hz with rfl; exact Or.inr ⟨by decide, eB, wq_3_12, hX.2.1.2.2.1⟩) (by decide) (by decide) wq_3_13 hX.2.1.1.2.2.2.1 (fun z => ?_)
    refine k_astore_n hC 15 3 [(3, .ref z), (0, .ref h), (1, .int p), (2, .ref q)] dL_eat_15 rfl (by decide) rfl ?_
    refine k_iconst hC 16 dL_eat_16 (nI 2) (by decide) ?_
    exact k_iret hC hE 17 (((s, g), (s2, g2)), f) dL_eat_17 rfl (⟨by rw [hK], Or.inr ⟨by rw [hK]; decide, rfl⟩, hS⟩) rfl ⟨Nat.le_of_ble_eq_true rfl, Nat.le_of_ble_eq_true rfl⟩
set_option maxHeartbeats 400000 in
set_option maxRecDepth 100000 in
theorem h_setPlaces (l : Launch) (hfl : l.stackTraces = false) (D : va_G) (h : Nat) (a b : Nat → Nat) (s s2 : PS) (g g2 : PG) (q : Nat) (f : Nat → Int64) (p : Int32) (hS : SR s g) (hW : WF s) : MH l yL_setPlaces cL_setPlaces 4 (some .int) [(0, 9, 12, 21), (0, 9, 15, 15)] 7 135 D [.ref h, .int p, .ref q] ((h, .inr (3, [.ref (a 0), .ref (b 0)])) :: (wSt D a s g ++ (wSt D b s2 g2 ++ ((q, .inl (D.1 6, 1, .inr (.inl f))) :: [])))) (fun v (u : ((PS × PG) × PS × PG) × (Nat → Int64)) => v = some (.int (nI (setPlacesK s p))) ∧ ((setPlacesK s p = 0 ∧ u.1.1.1 = rsz (kn p) s ∧ u.2 0 = (nI (plS s)).toInt64) ∨ (setPlacesK s p ≠ 0 ∧ u.1.1.1 = s)) ∧ SR u.1.1.1 u.1.1.2) (fun u => (h, .inr (3, [.ref (a 0), .ref (b 0)])) :: (wSt D a u.1.1.1 u.1.1.2 ++ (wSt D b u.1.2.1 u.1.2.2 ++ [(q, .inl (D.1 6, 1, .inr (.inl u.2)))]))) 1 6 := by
  refine MH.enter hfl (by decide) [(0, .ref h), (1, .int p), (2, .ref q)] rfl (Nat.le_of_ble_eq_true rfl) (fun G hC hE hX htab => ?_)
  have hC : CX G D cL_setPlaces RL 4 := hC
  refine k_aload_n hC 0 dL_setPlaces_0 rfl ?_
  refine k_iconst hC 1 dL_setPlaces_1 (nI 0) (by decide) ?_
  refine k_aload_n hC 2 dL_setPlaces_2 rfl ?_
  refine k_iload_n hC 3 dL_setPlaces_3 rfl ?_
  refine g_callV hC hX 4 0 ([]) ((q, .inl (D.1 6, 1, .inr (.inl f))) :: []) (fun u => ((h, .inr (3, [.ref (a 0), .ref (b 0)])) :: (wSt D a u.1.1 u.1.2 ++ (wSt D b u.2.1 u.2.2 ++ ((q, .inl (D.1 6, 1, .inr (.inl f))) :: []))))) (c_X3_setPlaces l hfl D h a b s s2 g g2 p hS hW) cw_RL_32 dL_setPlaces_4 ⟨Nat.le_of_ble_eq_true rfl, Nat.le_of_ble_eq_true rfl, Nat.le_of_ble_eq_true rfl, Nat.le_of_ble_eq_true rfl⟩ rfl (Nat.le_of_ble_eq_true rfl) rfl rfl rfl (by simp only [List.append_assoc, List.cons_append, List.nil_append]) (fun _ => rfl) (fun _ => by simp only [List.append_assoc, List.cons_append, List.nil_append]) _ rfl (fun v u hp => ?_) (fun E hx => ?_)
  obtain ⟨hK, rfl, eu, hSu⟩ := hp
  refine KJ.eqs (st' := .int (nI (plS s)) :: .int (nI 0) :: .ref q :: []) rfl ?_
  refine k_i2l hC 7 dL_setPlaces_7 ((nI (plS s)).toInt64) rfl ?_
  refine n_last hC 8 31 ((h, .inr (3, [.ref (a 0), .ref (b 0)])) :: (wSt D a u.1.1 u.1.2 ++ (wSt D b u.2.1 u.2.2 ++ ((q, .inl (D.1 6, 1, .inr (.inl (vp_updL f 0 ((nI (plS s)).toInt64))))) :: [])))) dL_setPlaces_8 rfl (by omega) (by decide) rfl ?_
  refine k_goto hC 9 18 dL_setPlaces_9 (by decide) ?_
  refine k_iconst hC 18 dL_setPlaces_18 (nI 0) (by decide) ?_
  exact k_iret hC hE 19 (((u.1.1, u.1.2), (u.2.1, u.2.2)), vp_updL f 0 ((nI (plS s)).toInt64)) dL_setPlaces_19 rfl (⟨by rw [hK], Or.inl ⟨hK, eu, rfl⟩, hSu⟩) rfl ⟨Nat.le_of_ble_eq_true rfl, Nat.le_of_ble_eq_true rfl⟩
  rcases hx with ⟨hK, rfl⟩ | ⟨hK, rfl⟩
  · skip
    refine x_catch (name := eA) hC htab 4 [] ⟨0, 9, 12, 21⟩ [⟨0, 9, 15, 15⟩] rfl (fun z hz => absurd hz List.not_mem_nil) (by decide) (by decide) wq_12_11 hX.2.1.1.2.2.2.2.2 (fun z => ?_)
    refine k_astore_n hC 12 3 [(3, .ref z), (0, .ref h), (1, .int p), (2, .ref q)] dL_setPlaces_12 rfl (by decide) rfl ?_
    refine k_iconst hC 13 dL_setPlaces_13 (nI 1) (by decide) ?_
    exact k_iret hC hE 14 (((s, g), (s2, g2)), f) dL_setPlaces_14 rfl (⟨by rw [hK], Or.inr ⟨by rw [hK]; decide, rfl⟩, hS⟩) rfl ⟨Nat.le_of_ble_eq_true rfl, Nat.le_of_ble_eq_true rfl⟩
  · skip
    refine x_catch (name := eS) hC htab 4 [⟨0, 9, 12, 21⟩] ⟨0, 9, 15, 15⟩ [] rfl (fun z hz => by rcases List.mem_singleton.mp hz with rfl; exact Or.inr ⟨by decide, eA, wq_12_11, hX.2.1.2.2.2.2⟩) (by decide) (by decide) wq_3_13 hX.2.1.1.2.2.2.1 (fun z => ?_)
    refine k_astore_n hC 15 3 [(3, .ref z), (0, .ref h), (1, .int p), (2, .ref q)] dL_setPlaces_15 rfl (by decide) rfl ?_
    refine k_iconst hC 16 dL_setPlaces_16 (nI 2) (by decide) ?_
    exact k_iret hC hE 17 (((s, g), (s2, g2)), f) dL_setPlaces_17 rfl (⟨by rw [hK], Or.inr ⟨by rw [hK]; decide, rfl⟩, hS⟩) rfl ⟨Nat.le_of_ble_eq_true rfl, Nat.le_of_ble_eq_true rfl⟩
set_option maxHeartbeats 400000 in
set_option maxRecDepth 100000 in
theorem h_setGoal (l : Launch) (hfl : l.stackTraces = false) (D : va_G) (h : Nat) (a b : Nat → Nat) (s s2 : PS) (g g2 : PG) (q : Nat) (f : Nat → Int64) (p : Int32) (hS : SR s g) (hW : WF s) : MH l yL_setGoal cL_setGoal 4 (some .int) [(0, 9, 12, 21)] 7 104 D [.ref h, .int p, .ref q] ((h, .inr (3, [.ref (a 0), .ref (b 0)])) :: (wSt D a s g ++ (wSt D b s2 g2 ++ ((q, .inl (D.1 6, 1, .inr (.inl f))) :: [])))) (fun v (u : ((PS × PG) × PS × PG) × (Nat → Int64)) => v = some (.int (nI (setGoalK s p))) ∧ ((setGoalK s p = 0 ∧ u.1.1.1 = goTo s (kn p) ∧ u.2 0 = (nI (goS s)).toInt64) ∨ (setGoalK s p ≠ 0 ∧ u.1.1.1 = s)) ∧ SR u.1.1.1 u.1.1.2) (fun u => (h, .inr (3, [.ref (a 0), .ref (b 0)])) :: (wSt D a u.1.1.1 u.1.1.2 ++ (wSt D b u.1.2.1 u.1.2.2 ++ [(q, .inl (D.1 6, 1, .inr (.inl u.2)))]))) 1 6 := by
  refine MH.enter hfl (by decide) [(0, .ref h), (1, .int p), (2, .ref q)] rfl (Nat.le_of_ble_eq_true rfl) (fun G hC hE hX htab => ?_)
  have hC : CX G D cL_setGoal RL 4 := hC
  refine k_aload_n hC 0 dL_setGoal_0 rfl ?_
  refine k_iconst hC 1 dL_setGoal_1 (nI 0) (by decide) ?_
  refine k_aload_n hC 2 dL_setGoal_2 rfl ?_
  refine k_iload_n hC 3 dL_setGoal_3 rfl ?_
  refine g_callV hC hX 4 0 ([]) ((q, .inl (D.1 6, 1, .inr (.inl f))) :: []) (fun u => ((h, .inr (3, [.ref (a 0), .ref (b 0)])) :: (wSt D a u.1.1 u.1.2 ++ (wSt D b u.2.1 u.2.2 ++ ((q, .inl (D.1 6, 1, .inr (.inl f))) :: []))))) (c_X3_setGoal l hfl D h a b s s2 g g2 p hS hW) cw_RL_35 dL_setGoal_4 ⟨Nat.le_of_ble_eq_true rfl, Nat.le_of_ble_eq_true rfl, Nat.le_of_ble_eq_true rfl, Nat.le_of_ble_eq_true rfl⟩ rfl (Nat.le_of_ble_eq_true rfl) rfl rfl rfl (by simp only [List.append_assoc, List.cons_append, List.nil_append]) (fun _ => rfl) (fun _ => by simp only [List.append_assoc, List.cons_append, List.nil_append]) _ rfl (fun v u hp => ?_) (fun E hx => ?_)
  obtain ⟨hK, rfl, eu, hSu⟩ := hp
  refine KJ.eqs (st' := .int (nI (goS s)) :: .int (nI 0) :: .ref q :: []) rfl ?_
  refine k_i2l hC 7 dL_setGoal_7 ((nI (goS s)).toInt64) rfl ?_
  refine n_last hC 8 31 ((h, .inr (3, [.ref (a 0), .ref (b 0)])) :: (wSt D a u.1.1 u.1.2 ++ (wSt D b u.2.1 u.2.2 ++ ((q, .inl (D.1 6, 1, .inr (.inl (vp_updL f 0 ((nI (goS s)).toInt64))))) :: [])))) dL_setGoal_8 rfl (by omega) (by decide) rfl ?_
  refine k_goto hC 9 15 dL_setGoal_9 (by decide) ?_
  refine k_iconst hC 15 dL_setGoal_15 (nI 0) (by decide) ?_
  exact k_iret hC hE 16 (((u.1.1, u.1.2), (u.2.1, u.2.2)), vp_updL f 0 ((nI (goS s)).toInt64)) dL_setGoal_16 rfl (⟨by rw [hK], Or.inl ⟨hK, eu, rfl⟩, hSu⟩) rfl ⟨Nat.le_of_ble_eq_true rfl, Nat.le_of_ble_eq_true rfl⟩
  rcases hx with ⟨hK, rfl⟩ | ⟨hK, rfl⟩
  · skip
    refine x_catch (name := eA) hC htab 4 [] ⟨0, 9, 12, 21⟩ [] rfl (fun z hz => absurd hz List.not_mem_nil) (by decide) (by decide) wq_12_11 hX.2.1.1.2.2.2.2.2 (fun z => ?_)
    refine k_astore_n hC 12 3 [(3, .ref z), (0, .ref h), (1, .int p), (2, .ref q)] dL_setGoal_12 rfl (by decide) rfl ?_
    refine k_iconst hC 13 dL_setGoal_13 (nI 1) (by decide) ?_
    exact k_iret hC hE 14 (((s, g), (s2, g2)), f) dL_setGoal_14 rfl (⟨by rw [hK], Or.inr ⟨by rw [hK]; decide, rfl⟩, hS⟩) rfl ⟨Nat.le_of_ble_eq_true rfl, Nat.le_of_ble_eq_true rfl⟩
  · skip
    exact absurd hK kK_n2
set_option maxHeartbeats 400000 in
set_option maxRecDepth 100000 in
theorem h_jar (l : Launch) (hfl : l.stackTraces = false) (D : va_G) (h : Nat) (a b : Nat → Nat) (s s2 : PS) (g g2 : PG) (q : Nat) (f : Nat → Int64) (p0 p1 : Int32) (hS : SR s g) (hW : WF s) : MH l yL_jar cL_jar 5 (some .int) [(0, 10, 13, 13)] 8 124 D [.ref h, .int p0, .int p1, .ref q] ((h, .inr (3, [.ref (a 0), .ref (b 0)])) :: (wSt D a s g ++ (wSt D b s2 g2 ++ ((q, .inl (D.1 6, 1, .inr (.inl f))) :: [])))) (fun v (u : ((PS × PG) × PS × PG) × (Nat → Int64)) => v = some (.int (nI (jarK p0 p1))) ∧ ((jarK p0 p1 = 0 ∧ u.1.1.1 = s ∧ u.2 0 = (dtl s (kn p0) (kn p1)).toInt64) ∨ (jarK p0 p1 ≠ 0 ∧ u.1.1.1 = s)) ∧ SR u.1.1.1 u.1.1.2) (fun u => (h, .inr (3, [.ref (a 0), .ref (b 0)])) :: (wSt D a u.1.1.1 u.1.1.2 ++ (wSt D b u.1.2.1 u.1.2.2 ++ [(q, .inl (D.1 6, 1, .inr (.inl u.2)))]))) 2 12 := by
  refine MH.enter hfl (by decide) [(0, .ref h), (1, .int p0), (2, .int p1), (3, .ref q)] rfl (Nat.le_of_ble_eq_true rfl) (fun G hC hE hX htab => ?_)
  have hC : CX G D cL_jar RL 5 := hC
  refine k_aload_n hC 0 dL_jar_0 rfl ?_
  refine k_iconst hC 1 dL_jar_1 (nI 0) (by decide) ?_
  refine k_aload_n hC 2 dL_jar_2 rfl ?_
  refine k_iload_n hC 3 dL_jar_3 rfl ?_
  refine k_iload_n hC 4 dL_jar_4 rfl ?_
  refine g_callV hC hX 5 0 ([]) ((q, .inl (D.1 6, 1, .inr (.inl f))) :: []) (fun u => ((h, .inr (3, [.ref (a 0), .ref (b 0)])) :: (wSt D a u.1.1 u.1.2 ++ (wSt D b u.2.1 u.2.2 ++ ((q, .inl (D.1 6, 1, .inr (.inl f))) :: []))))) (c_X3_jar l hfl D h a b s s2 g g2 p0 p1 hS hW) cw_RL_38 dL_jar_5 ⟨Nat.le_of_ble_eq_true rfl, Nat.le_of_ble_eq_true rfl, Nat.le_of_ble_eq_true rfl, Nat.le_of_ble_eq_true rfl⟩ rfl (Nat.le_of_ble_eq_true rfl) rfl rfl rfl (by simp only [List.append_assoc, List.cons_append, List.nil_append]) (fun _ => rfl) (fun _ => by simp only [List.append_assoc, List.cons_append, List.nil_append]) _ rfl (fun v u hp => ?_) (fun E hx => ?_)
  obtain ⟨hK, rfl, eu, hSu⟩ := hp
  refine KJ.eqs (st' := .int (dtl s (kn p0) (kn p1)) :: .int (nI 0) :: .ref q :: []) rfl ?_
  refine k_i2l hC 8 dL_jar_8 ((dtl s (kn p0) (kn p1)).toInt64) rfl ?_
  refine n_last hC 9 31 ((h, .inr (3, [.ref (a 0), .ref (b 0)])) :: (wSt D a u.1.1 u.1.2 ++ (wSt D b u.2.1 u.2.2 ++ ((q, .inl (D.1 6, 1, .inr (.inl (vp_updL f 0 ((dtl s (kn p0) (kn p1)).toInt64))))) :: [])))) dL_jar_9 rfl (by omega) (by decide) rfl ?_
  refine k_goto hC 10 17 dL_jar_10 (by decide) ?_
  refine k_iconst hC 17 dL_jar_17 (nI 0) (by decide) ?_
  exact k_iret hC hE 18 (((u.1.1, u.1.2), (u.2.1, u.2.2)), vp_updL f 0 ((dtl s (kn p0) (kn p1)).toInt64)) dL_jar_18 rfl (⟨by rw [hK], Or.inl ⟨hK, eu, rfl⟩, hSu⟩) rfl ⟨Nat.le_of_ble_eq_true rfl, Nat.le_of_ble_eq_true rfl⟩
  rcases hx with ⟨hK, rfl⟩ | ⟨hK, rfl⟩
  · skip
    refine x_catch (name := eB) hC htab 5 [] ⟨0, 10, 13, 13⟩ [] rfl (fun z hz => absurd hz List.not_mem_nil) (by decide) (by decide) wq_3_12 hX.2.1.1.2.2.2.2.1 (fun z => ?_)
    refine k_astore hC 13 4 [(4, .ref z), (0, .ref h), (1, .int p0), (2, .int p1), (3, .ref q)] dL_jar_13 (by decide) rfl ?_
    refine k_iconst hC 15 dL_jar_15 (nI 1) (by decide) ?_
    exact k_iret hC hE 16 (((s, g), (s2, g2)), f) dL_jar_16 rfl (⟨by rw [hK], Or.inr ⟨by rw [hK]; decide, rfl⟩, hS⟩) rfl ⟨Nat.le_of_ble_eq_true rfl, Nat.le_of_ble_eq_true rfl⟩
  · skip
    exact absurd hK kK_n2
set_option maxHeartbeats 400000 in
set_option maxRecDepth 100000 in
theorem h_shelf (l : Launch) (hfl : l.stackTraces = false) (D : va_G) (h : Nat) (a b : Nat → Nat) (s s2 : PS) (g g2 : PG) (q : Nat) (f : Nat → Int64) (p0 p1 : Int32) (hS : SR s g) (hW : WF s) : MH l yL_shelf cL_shelf 5 (some .int) [(0, 10, 13, 13)] 8 126 D [.ref h, .int p0, .int p1, .ref q] ((h, .inr (3, [.ref (a 0), .ref (b 0)])) :: (wSt D a s g ++ (wSt D b s2 g2 ++ ((q, .inl (D.1 6, 1, .inr (.inl f))) :: [])))) (fun v (u : ((PS × PG) × PS × PG) × (Nat → Int64)) => v = some (.int (nI (rowK s.1 s.2.1 p0 p1))) ∧ ((rowK s.1 s.2.1 p0 p1 = 0 ∧ u.1.1.1 = s ∧ u.2 0 = (rowV s.1 s.2.1 p0 p1).toInt64) ∨ (rowK s.1 s.2.1 p0 p1 ≠ 0 ∧ u.1.1.1 = s)) ∧ SR u.1.1.1 u.1.1.2) (fun u => (h, .inr (3, [.ref (a 0), .ref (b 0)])) :: (wSt D a u.1.1.1 u.1.1.2 ++ (wSt D b u.1.2.1 u.1.2.2 ++ [(q, .inl (D.1 6, 1, .inr (.inl u.2)))]))) 2 12 := by
  refine MH.enter hfl (by decide) [(0, .ref h), (1, .int p0), (2, .int p1), (3, .ref q)] rfl (Nat.le_of_ble_eq_true rfl) (fun G hC hE hX htab => ?_)
  have hC : CX G D cL_shelf RL 5 := hC
  refine k_aload_n hC 0 dL_shelf_0 rfl ?_
  refine k_iconst hC 1 dL_shelf_1 (nI 0) (by decide) ?_
  refine k_aload_n hC 2 dL_shelf_2 rfl ?_
  refine k_iload_n hC 3 dL_shelf_3 rfl ?_
  refine k_iload_n hC 4 dL_shelf_4 rfl ?_
  refine g_callV hC hX 5 0 ([]) ((q, .inl (D.1 6, 1, .inr (.inl f))) :: []) (fun u => ((h, .inr (3, [.ref (a 0), .ref (b 0)])) :: (wSt D a u.1.1 u.1.2 ++ (wSt D b u.2.1 u.2.2 ++ ((q, .inl (D.1 6, 1, .inr (.inl f))) :: []))))) (c_X3_shelf l hfl D h a b s s2 g g2 p0 p1 hS hW) cw_RL_42 dL_shelf_5 ⟨Nat.le_of_ble_eq_true rfl, Nat.le_of_ble_eq_true rfl, Nat.le_of_ble_eq_true rfl, Nat.le_of_ble_eq_true rfl⟩ rfl (Nat.le_of_ble_eq_true rfl) rfl rfl rfl (by simp only [List.append_assoc, List.cons_append, List.nil_append]) (fun _ => rfl) (fun _ => by simp only [List.append_assoc, List.cons_append, List.nil_append]) _ rfl (fun v u hp => ?_) (fun E hx => ?_)
  obtain ⟨hK, rfl, eu, hSu⟩ := hp
  refine KJ.eqs (st' := .int (rowV s.1 s.2.1 p0 p1) :: .int (nI 0) :: .ref q :: []) rfl ?_
  refine k_i2l hC 8 dL_shelf_8 ((rowV s.1 s.2.1 p0 p1).toInt64) rfl ?_
  refine n_last hC 9 31 ((h, .inr (3, [.ref (a 0), .ref (b 0)])) :: (wSt D a u.1.1 u.1.2 ++ (wSt D b u.2.1 u.2.2 ++ ((q, .inl (D.1 6, 1, .inr (.inl (vp_updL f 0 ((rowV s.1 s.2.1 p0 p1).toInt64))))) :: [])))) dL_shelf_9 rfl (by omega) (by decide) rfl ?_
  refine k_goto hC 10 17 dL_shelf_10 (by decide) ?_
  refine k_iconst hC 17 dL_shelf_17 (nI 0) (by decide) ?_
  exact k_iret hC hE 18 (((u.1.1, u.1.2), (u.2.1, u.2.2)), vp_updL f 0 ((rowV s.1 s.2.1 p0 p1).toInt64)) dL_shelf_18 rfl (⟨by rw [hK], Or.inl ⟨hK, eu, rfl⟩, hSu⟩) rfl ⟨Nat.le_of_ble_eq_true rfl, Nat.le_of_ble_eq_true rfl⟩
  rcases hx with ⟨hK, rfl⟩ | ⟨hK, rfl⟩
  · skip
    refine x_catch (name := eB) hC htab 5 [] ⟨0, 10, 13, 13⟩ [] rfl (fun z hz => absurd hz List.not_mem_nil) (by decide) (by decide) wq_3_12 hX.2.1.1.2.2.2.2.1 (fun z => ?_)
    refine k_astore hC 13 4 [(4, .ref z), (0, .ref h), (1, .int p0), (2, .int p1), (3, .ref q)] dL_shelf_13 (by decide) rfl ?_
    refine k_iconst hC 15 dL_shelf_15 (nI 1) (by decide) ?_
    exact k_iret hC hE 16 (((s, g), (s2, g2)), f) dL_shelf_16 rfl (⟨by rw [hK], Or.inr ⟨by rw [hK]; decide, rfl⟩, hS⟩) rfl ⟨Nat.le_of_ble_eq_true rfl, Nat.le_of_ble_eq_true rfl⟩
  · skip
    exact absurd hK kK_n2
set_option maxHeartbeats 400000 in
set_option maxRecDepth 100000 in
theorem h_ghost (l : Launch) (hfl : l.stackTraces = false) (D : va_G) (h : Nat) (a b : Nat → Nat) (s s2 : PS) (g g2 : PG) (q : Nat) (f : Nat → Int64) (p0 p1 : Int32) (hS : SR s g) (hW : WF s) : MH l yL_ghost cL_ghost 5 (some .int) [(0, 10, 13, 13)] 8 126 D [.ref h, .int p0, .int p1, .ref q] ((h, .inr (3, [.ref (a 0), .ref (b 0)])) :: (wSt D a s g ++ (wSt D b s2 g2 ++ ((q, .inl (D.1 6, 1, .inr (.inl f))) :: [])))) (fun v (u : ((PS × PG) × PS × PG) × (Nat → Int64)) => v = some (.int (nI (rowK s.2.2.1 s.2.2.2.1 p0 p1))) ∧ ((rowK s.2.2.1 s.2.2.2.1 p0 p1 = 0 ∧ u.1.1.1 = s ∧ u.2 0 = (rowV s.2.2.1 s.2.2.2.1 p0 p1).toInt64) ∨ (rowK s.2.2.1 s.2.2.2.1 p0 p1 ≠ 0 ∧ u.1.1.1 = s)) ∧ SR u.1.1.1 u.1.1.2) (fun u => (h, .inr (3, [.ref (a 0), .ref (b 0)])) :: (wSt D a u.1.1.1 u.1.1.2 ++ (wSt D b u.1.2.1 u.1.2.2 ++ [(q, .inl (D.1 6, 1, .inr (.inl u.2)))]))) 2 12 := by
  refine MH.enter hfl (by decide) [(0, .ref h), (1, .int p0), (2, .int p1), (3, .ref q)] rfl (Nat.le_of_ble_eq_true rfl) (fun G hC hE hX htab => ?_)
  have hC : CX G D cL_ghost RL 5 := hC
  refine k_aload_n hC 0 dL_ghost_0 rfl ?_
  refine k_iconst hC 1 dL_ghost_1 (nI 0) (by decide) ?_
  refine k_aload_n hC 2 dL_ghost_2 rfl ?_
  refine k_iload_n hC 3 dL_ghost_3 rfl ?_
  refine k_iload_n hC 4 dL_ghost_4 rfl ?_
  refine g_callV hC hX 5 0 ([]) ((q, .inl (D.1 6, 1, .inr (.inl f))) :: []) (fun u => ((h, .inr (3, [.ref (a 0), .ref (b 0)])) :: (wSt D a u.1.1 u.1.2 ++ (wSt D b u.2.1 u.2.2 ++ ((q, .inl (D.1 6, 1, .inr (.inl f))) :: []))))) (c_X3_ghost l hfl D h a b s s2 g g2 p0 p1 hS hW) cw_RL_45 dL_ghost_5 ⟨Nat.le_of_ble_eq_true rfl, Nat.le_of_ble_eq_true rfl, Nat.le_of_ble_eq_true rfl, Nat.le_of_ble_eq_true rfl⟩ rfl (Nat.le_of_ble_eq_true rfl) rfl rfl rfl (by simp only [List.append_assoc, List.cons_append, List.nil_append]) (fun _ => rfl) (fun _ => by simp only [List.append_assoc, List.cons_append, List.nil_append]) _ rfl (fun v u hp => ?_) (fun E hx => ?_)
  obtain ⟨hK, rfl, eu, hSu⟩ := hp
  refine KJ.eqs (st' := .int (rowV s.2.2.1 s.2.2.2.1 p0 p1) :: .int (nI 0) :: .ref q :: []) rfl ?_
  refine k_i2l hC 8 dL_ghost_8 ((rowV s.2.2.1 s.2.2.2.1 p0 p1).toInt64) rfl ?_
  refine n_last hC 9 31 ((h, .inr (3, [.ref (a 0), .ref (b 0)])) :: (wSt D a u.1.1 u.1.2 ++ (wSt D b u.2.1 u.2.2 ++ ((q, .inl (D.1 6, 1, .inr (.inl (vp_updL f 0 ((rowV s.2.2.1 s.2.2.2.1 p0 p1).toInt64))))) :: [])))) dL_ghost_9 rfl (by omega) (by decide) rfl ?_
  refine k_goto hC 10 17 dL_ghost_10 (by decide) ?_
  refine k_iconst hC 17 dL_ghost_17 (nI 0) (by decide) ?_
  exact k_iret hC hE 18 (((u.1.1, u.1.2), (u.2.1, u.2.2)), vp_updL f 0 ((rowV s.2.2.1 s.2.2.2.1 p0 p1).toInt64)) dL_ghost_18 rfl (⟨by rw [hK], Or.inl ⟨hK, eu, rfl⟩, hSu⟩) rfl ⟨Nat.le_of_ble_eq_true rfl, Nat.le_of_ble_eq_true rfl⟩
  rcases hx with ⟨hK, rfl⟩ | ⟨hK, rfl⟩
  · skip
    refine x_catch (name := eB) hC htab 5 [] ⟨0, 10, 13, 13⟩ [] rfl (fun z hz => absurd hz List.not_mem_nil) (by decide) (by decide) wq_3_12 hX.2.1.1.2.2.2.2.1 (fun z => ?_)
    refine k_astore hC 13 4 [(4, .ref z), (0, .ref h), (1, .int p0), (2, .int p1), (3, .ref q)] dL_ghost_13 (by decide) rfl ?_
    refine k_iconst hC 15 dL_ghost_15 (nI 1) (by decide) ?_
    exact k_iret hC hE 16 (((s, g), (s2, g2)), f) dL_ghost_16 rfl (⟨by rw [hK], Or.inr ⟨by rw [hK]; decide, rfl⟩, hS⟩) rfl ⟨Nat.le_of_ble_eq_true rfl, Nat.le_of_ble_eq_true rfl⟩
  · skip
    exact absurd hK kK_n2
set_option maxHeartbeats 400000 in
set_option maxRecDepth 100000 in
theorem h_count (l : Launch) (hfl : l.stackTraces = false) (D : va_G) (h : Nat) (a b : Nat → Nat) (s s2 : PS) (g g2 : PG) (q : Nat) (f : Nat → Int64) (p : Int32) (hS : SR s g) (hW : WF s) : MH l yL_count cL_count 4 (some .int) [(0, 9, 12, 13)] 7 106 D [.ref h, .int p, .ref q] ((h, .inr (3, [.ref (a 0), .ref (b 0)])) :: (wSt D a s g ++ (wSt D b s2 g2 ++ ((q, .inl (D.1 6, 1, .inr (.inl f))) :: [])))) (fun v (u : ((PS × PG) × PS × PG) × (Nat → Int64)) => v = some (.int (nI (countK p))) ∧ ((countK p = 0 ∧ u.1.1.1 = s ∧ u.2 0 = (ct s (kn p)).toInt64) ∨ (countK p ≠ 0 ∧ u.1.1.1 = s)) ∧ SR u.1.1.1 u.1.1.2) (fun u => (h, .inr (3, [.ref (a 0), .ref (b 0)])) :: (wSt D a u.1.1.1 u.1.1.2 ++ (wSt D b u.1.2.1 u.1.2.2 ++ [(q, .inl (D.1 6, 1, .inr (.inl u.2)))]))) 1 6 := by
  refine MH.enter hfl (by decide) [(0, .ref h), (1, .int p), (2, .ref q)] rfl (Nat.le_of_ble_eq_true rfl) (fun G hC hE hX htab => ?_)
  have hC : CX G D cL_count RL 4 := hC
  refine k_aload_n hC 0 dL_count_0 rfl ?_
  refine k_iconst hC 1 dL_count_1 (nI 0) (by decide) ?_
  refine k_aload_n hC 2 dL_count_2 rfl ?_
  refine k_iload_n hC 3 dL_count_3 rfl ?_
  refine g_callV hC hX 4 0 ([]) ((q, .inl (D.1 6, 1, .inr (.inl f))) :: []) (fun u => ((h, .inr (3, [.ref (a 0), .ref (b 0)])) :: (wSt D a u.1.1 u.1.2 ++ (wSt D b u.2.1 u.2.2 ++ ((q, .inl (D.1 6, 1, .inr (.inl f))) :: []))))) (c_X3_count l hfl D h a b s s2 g g2 p hS hW) cw_RL_48 dL_count_4 ⟨Nat.le_of_ble_eq_true rfl, Nat.le_of_ble_eq_true rfl, Nat.le_of_ble_eq_true rfl, Nat.le_of_ble_eq_true rfl⟩ rfl (Nat.le_of_ble_eq_true rfl) rfl rfl rfl (by simp only [List.append_assoc, List.cons_append, List.nil_append]) (fun _ => rfl) (fun _ => by simp only [List.append_assoc, List.cons_append, List.nil_append]) _ rfl (fun v u hp => ?_) (fun E hx => ?_)
  obtain ⟨hK, rfl, eu, hSu⟩ := hp
  refine KJ.eqs (st' := .int (ct s (kn p)) :: .int (nI 0) :: .ref q :: []) rfl ?_
  refine k_i2l hC 7 dL_count_7 ((ct s (kn p)).toInt64) rfl ?_
  refine n_last hC 8 31 ((h, .inr (3, [.ref (a 0), .ref (b 0)])) :: (wSt D a u.1.1 u.1.2 ++ (wSt D b u.2.1 u.2.2 ++ ((q, .inl (D.1 6, 1, .inr (.inl (vp_updL f 0 ((ct s (kn p)).toInt64))))) :: [])))) dL_count_8 rfl (by omega) (by decide) rfl ?_
  refine k_goto hC 9 15 dL_count_9 (by decide) ?_
  refine k_iconst hC 15 dL_count_15 (nI 0) (by decide) ?_
  exact k_iret hC hE 16 (((u.1.1, u.1.2), (u.2.1, u.2.2)), vp_updL f 0 ((ct s (kn p)).toInt64)) dL_count_16 rfl (⟨by rw [hK], Or.inl ⟨hK, eu, rfl⟩, hSu⟩) rfl ⟨Nat.le_of_ble_eq_true rfl, Nat.le_of_ble_eq_true rfl⟩
  rcases hx with ⟨hK, rfl⟩ | ⟨hK, rfl⟩
  · skip
    refine x_catch (name := eB) hC htab 4 [] ⟨0, 9, 12, 13⟩ [] rfl (fun z hz => absurd hz List.not_mem_nil) (by decide) (by decide) wq_3_12 hX.2.1.1.2.2.2.2.1 (fun z => ?_)
    refine k_astore_n hC 12 3 [(3, .ref z), (0, .ref h), (1, .int p), (2, .ref q)] dL_count_12 rfl (by decide) rfl ?_
    refine k_iconst hC 13 dL_count_13 (nI 1) (by decide) ?_
    exact k_iret hC hE 14 (((s, g), (s2, g2)), f) dL_count_14 rfl (⟨by rw [hK], Or.inr ⟨by rw [hK]; decide, rfl⟩, hS⟩) rfl ⟨Nat.le_of_ble_eq_true rfl, Nat.le_of_ble_eq_true rfl⟩
  · skip
    exact absurd hK kK_n2
set_option maxHeartbeats 400000 in
set_option maxRecDepth 100000 in
theorem h_would (l : Launch) (hfl : l.stackTraces = false) (D : va_G) (h : Nat) (a b : Nat → Nat) (s s2 : PS) (g g2 : PG) (q : Nat) (f : Nat → Int64) (p : Int32) (hS : SR s g) (hW : WF s) : MH l yL_would cL_would 4 (some .int) [(0, 9, 12, 13)] 8 123 D [.ref h, .int p, .ref q] ((h, .inr (3, [.ref (a 0), .ref (b 0)])) :: (wSt D a s g ++ (wSt D b s2 g2 ++ ((q, .inl (D.1 6, 1, .inr (.inl f))) :: [])))) (fun v (u : ((PS × PG) × PS × PG) × (Nat → Int64)) => v = some (.int (nI (wouldK p))) ∧ ((wouldK p = 0 ∧ u.1.1.1 = s ∧ u.2 0 = (ocI (oc s (kn p))).toInt64) ∨ (wouldK p ≠ 0 ∧ u.1.1.1 = s)) ∧ SR u.1.1.1 u.1.1.2) (fun u => (h, .inr (3, [.ref (a 0), .ref (b 0)])) :: (wSt D a u.1.1.1 u.1.1.2 ++ (wSt D b u.1.2.1 u.1.2.2 ++ [(q, .inl (D.1 6, 1, .inr (.inl u.2)))]))) 1 6 := by
  refine MH.enter hfl (by decide) [(0, .ref h), (1, .int p), (2, .ref q)] rfl (Nat.le_of_ble_eq_true rfl) (fun G hC hE hX htab => ?_)
  have hC : CX G D cL_would RL 4 := hC
  refine k_aload_n hC 0 dL_would_0 rfl ?_
  refine k_iconst hC 1 dL_would_1 (nI 0) (by decide) ?_
  refine k_aload_n hC 2 dL_would_2 rfl ?_
  refine k_iload_n hC 3 dL_would_3 rfl ?_
  refine g_callV hC hX 4 0 ([]) ((q, .inl (D.1 6, 1, .inr (.inl f))) :: []) (fun u => ((h, .inr (3, [.ref (a 0), .ref (b 0)])) :: (wSt D a u.1.1 u.1.2 ++ (wSt D b u.2.1 u.2.2 ++ ((q, .inl (D.1 6, 1, .inr (.inl f))) :: []))))) (c_X3_would l hfl D h a b s s2 g g2 p hS hW) cw_RL_51 dL_would_4 ⟨Nat.le_of_ble_eq_true rfl, Nat.le_of_ble_eq_true rfl, Nat.le_of_ble_eq_true rfl, Nat.le_of_ble_eq_true rfl⟩ rfl (Nat.le_of_ble_eq_true rfl) rfl rfl rfl (by simp only [List.append_assoc, List.cons_append, List.nil_append]) (fun _ => rfl) (fun _ => by simp only [List.append_assoc, List.cons_append, List.nil_append]) _ rfl (fun v u hp => ?_) (fun E hx => ?_)
  obtain ⟨hK, rfl, eu, hSu⟩ := hp
  refine KJ.eqs (st' := .int (ocI (oc s (kn p))) :: .int (nI 0) :: .ref q :: []) rfl ?_
  refine k_i2l hC 7 dL_would_7 ((ocI (oc s (kn p))).toInt64) rfl ?_
  refine n_last hC 8 31 ((h, .inr (3, [.ref (a 0), .ref (b 0)])) :: (wSt D a u.1.1 u.1.2 ++ (wSt D b u.2.1 u.2.2 ++ ((q, .inl (D.1 6, 1, .inr (.inl (vp_updL f 0 ((ocI (oc s (kn p))).toInt64))))) :: [])))) dL_would_8 rfl (by omega) (by decide) rfl ?_
  refine k_goto hC 9 15 dL_would_9 (by decide) ?_
  refine k_iconst hC 15 dL_would_15 (nI 0) (by decide) ?_
  exact k_iret hC hE 16 (((u.1.1, u.1.2), (u.2.1, u.2.2)), vp_updL f 0 ((ocI (oc s (kn p))).toInt64)) dL_would_16 rfl (⟨by rw [hK], Or.inl ⟨hK, eu, rfl⟩, hSu⟩) rfl ⟨Nat.le_of_ble_eq_true rfl, Nat.le_of_ble_eq_true rfl⟩
  rcases hx with ⟨hK, rfl⟩ | ⟨hK, rfl⟩
  · skip
    refine x_catch (name := eB) hC htab 4 [] ⟨0, 9, 12, 13⟩ [] rfl (fun z hz => absurd hz List.not_mem_nil) (by decide) (by decide) wq_3_12 hX.2.1.1.2.2.2.2.1 (fun z => ?_)
    refine k_astore_n hC 12 3 [(3, .ref z), (0, .ref h), (1, .int p), (2, .ref q)] dL_would_12 rfl (by decide) rfl ?_
    refine k_iconst hC 13 dL_would_13 (nI 1) (by decide) ?_
    exact k_iret hC hE 14 (((s, g), (s2, g2)), f) dL_would_14 rfl (⟨by rw [hK], Or.inr ⟨by rw [hK]; decide, rfl⟩, hS⟩) rfl ⟨Nat.le_of_ble_eq_true rfl, Nat.le_of_ble_eq_true rfl⟩
  · skip
    exact absurd hK kK_n2
set_option maxHeartbeats 400000 in
set_option maxRecDepth 100000 in
theorem h_trial (l : Launch) (hfl : l.stackTraces = false) (D : va_G) (h : Nat) (a b : Nat → Nat) (s s2 : PS) (g g2 : PG) (q : Nat) (f : Nat → Int64) (p0 p1 p2 : Int32) (hS : SR s g) (hW : WF s) : MH l yL_trial cL_trial 6 (some .int) [(0, 12, 15, 13), (0, 12, 19, 21)] 9 161 D [.ref h, .int p0, .int p1, .int p2, .ref q] ((h, .inr (3, [.ref (a 0), .ref (b 0)])) :: (wSt D a s g ++ (wSt D b s2 g2 ++ ((q, .inl (D.1 6, 1, .inr (.inl f))) :: [])))) (fun v (u : ((PS × PG) × PS × PG) × (Nat → Int64)) => v = some (.int (nI (serK p0 p1 p2))) ∧ ((serK p0 p1 p2 = 0 ∧ u.1.1.1 = s ∧ u.2 0 = (serV s p0 p1 p2).toInt64) ∨ (serK p0 p1 p2 ≠ 0 ∧ u.1.1.1 = s)) ∧ SR u.1.1.1 u.1.1.2) (fun u => (h, .inr (3, [.ref (a 0), .ref (b 0)])) :: (wSt D a u.1.1.1 u.1.1.2 ++ (wSt D b u.1.2.1 u.1.2.2 ++ [(q, .inl (D.1 6, 1, .inr (.inl u.2)))]))) 2 12 := by
  refine MH.enter hfl (by decide) [(0, .ref h), (1, .int p0), (2, .int p1), (3, .int p2), (4, .ref q)] rfl (Nat.le_of_ble_eq_true rfl) (fun G hC hE hX htab => ?_)
  have hC : CX G D cL_trial RL 6 := hC
  refine k_aload hC 0 dL_trial_0 rfl ?_
  refine k_iconst hC 2 dL_trial_2 (nI 0) (by decide) ?_
  refine k_aload_n hC 3 dL_trial_3 rfl ?_
  refine k_iload_n hC 4 dL_trial_4 rfl ?_
  refine k_iload_n hC 5 dL_trial_5 rfl ?_
  refine k_iload_n hC 6 dL_trial_6 rfl ?_
  refine g_callV hC hX 7 0 ([]) ((q, .inl (D.1 6, 1, .inr (.inl f))) :: []) (fun u => ((h, .inr (3, [.ref (a 0), .ref (b 0)])) :: (wSt D a u.1.1 u.1.2 ++ (wSt D b u.2.1 u.2.2 ++ ((q, .inl (D.1 6, 1, .inr (.inl f))) :: []))))) (c_X3_trial l hfl D h a b s s2 g g2 p0 p1 p2 hS hW) cw_RL_54 dL_trial_7 ⟨Nat.le_of_ble_eq_true rfl, Nat.le_of_ble_eq_true rfl, Nat.le_of_ble_eq_true rfl, Nat.le_of_ble_eq_true rfl⟩ rfl (Nat.le_of_ble_eq_true rfl) rfl rfl rfl (by simp only [List.append_assoc, List.cons_append, List.nil_append]) (fun _ => rfl) (fun _ => by simp only [List.append_assoc, List.cons_append, List.nil_append]) _ rfl (fun v u hp => ?_) (fun E hx => ?_)
  obtain ⟨hK, rfl, eu, hSu⟩ := hp
  refine KJ.eqs (st' := .int (serV s p0 p1 p2) :: .int (nI 0) :: .ref q :: []) rfl ?_
  refine k_i2l hC 10 dL_trial_10 ((serV s p0 p1 p2).toInt64) rfl ?_
  refine n_last hC 11 31 ((h, .inr (3, [.ref (a 0), .ref (b 0)])) :: (wSt D a u.1.1 u.1.2 ++ (wSt D b u.2.1 u.2.2 ++ ((q, .inl (D.1 6, 1, .inr (.inl (vp_updL f 0 ((serV s p0 p1 p2).toInt64))))) :: [])))) dL_trial_11 rfl (by omega) (by decide) rfl ?_
  refine k_goto hC 12 23 dL_trial_12 (by decide) ?_
  refine k_iconst hC 23 dL_trial_23 (nI 0) (by decide) ?_
  exact k_iret hC hE 24 (((u.1.1, u.1.2), (u.2.1, u.2.2)), vp_updL f 0 ((serV s p0 p1 p2).toInt64)) dL_trial_24 rfl (⟨by rw [hK], Or.inl ⟨hK, eu, rfl⟩, hSu⟩) rfl ⟨Nat.le_of_ble_eq_true rfl, Nat.le_of_ble_eq_true rfl⟩
  rcases hx with ⟨hK, rfl⟩ | ⟨hK, rfl⟩
  · skip
    refine x_catch (name := eB) hC htab 7 [] ⟨0, 12, 15, 13⟩ [⟨0, 12, 19, 21⟩] rfl (fun z hz => absurd hz List.not_mem_nil) (by decide) (by decide) wq_3_12 hX.2.1.1.2.2.2.2.1 (fun z => ?_)
    refine k_astore hC 15 5 [(5, .ref z), (0, .ref h), (1, .int p0), (2, .int p1), (3, .int p2), (4, .ref q)] dL_trial_15 (by decide) rfl ?_
    refine k_iconst hC 17 dL_trial_17 (nI 1) (by decide) ?_
    exact k_iret hC hE 18 (((s, g), (s2, g2)), f) dL_trial_18 rfl (⟨by rw [hK], Or.inr ⟨by rw [hK]; decide, rfl⟩, hS⟩) rfl ⟨Nat.le_of_ble_eq_true rfl, Nat.le_of_ble_eq_true rfl⟩
  · skip
    refine x_catch (name := eA) hC htab 7 [⟨0, 12, 15, 13⟩] ⟨0, 12, 19, 21⟩ [] rfl (fun z hz => by rcases List.mem_singleton.mp hz with rfl; exact Or.inr ⟨by decide, eB, wq_3_12, hX.2.1.2.2.2.1⟩) (by decide) (by decide) wq_12_11 hX.2.1.1.2.2.2.2.2 (fun z => ?_)
    refine k_astore hC 19 5 [(5, .ref z), (0, .ref h), (1, .int p0), (2, .int p1), (3, .int p2), (4, .ref q)] dL_trial_19 (by decide) rfl ?_
    refine k_iconst hC 21 dL_trial_21 (nI 2) (by decide) ?_
    exact k_iret hC hE 22 (((s, g), (s2, g2)), f) dL_trial_22 rfl (⟨by rw [hK], Or.inr ⟨by rw [hK]; decide, rfl⟩, hS⟩) rfl ⟨Nat.le_of_ble_eq_true rfl, Nat.le_of_ble_eq_true rfl⟩
set_option maxHeartbeats 400000 in
set_option maxRecDepth 100000 in
theorem h_advise (l : Launch) (hfl : l.stackTraces = false) (D : va_G) (h : Nat) (a b : Nat → Nat) (s s2 : PS) (g g2 : PG) (q : Nat) (f : Nat → Int64) (p0 p1 p2 : Int32) (hS : SR s g) (hW : WF s) : MH l yL_advise cL_advise 6 (some .int) [(0, 12, 15, 13), (0, 12, 19, 21)] 9 165 D [.ref h, .int p0, .int p1, .int p2, .ref q] ((h, .inr (3, [.ref (a 0), .ref (b 0)])) :: (wSt D a s g ++ (wSt D b s2 g2 ++ ((q, .inl (D.1 6, 1, .inr (.inl f))) :: [])))) (fun v (u : ((PS × PG) × PS × PG) × (Nat → Int64)) => v = some (.int (nI (serK p0 p1 p2))) ∧ ((serK p0 p1 p2 = 0 ∧ u.1.1.1 = s ∧ u.2 0 = (advV s p0 p1 p2).toInt64) ∨ (serK p0 p1 p2 ≠ 0 ∧ u.1.1.1 = s)) ∧ SR u.1.1.1 u.1.1.2) (fun u => (h, .inr (3, [.ref (a 0), .ref (b 0)])) :: (wSt D a u.1.1.1 u.1.1.2 ++ (wSt D b u.1.2.1 u.1.2.2 ++ [(q, .inl (D.1 6, 1, .inr (.inl u.2)))]))) 2 12 := by
  refine MH.enter hfl (by decide) [(0, .ref h), (1, .int p0), (2, .int p1), (3, .int p2), (4, .ref q)] rfl (Nat.le_of_ble_eq_true rfl) (fun G hC hE hX htab => ?_)
  have hC : CX G D cL_advise RL 6 := hC
  refine k_aload hC 0 dL_advise_0 rfl ?_
  refine k_iconst hC 2 dL_advise_2 (nI 0) (by decide) ?_
  refine k_aload_n hC 3 dL_advise_3 rfl ?_
  refine k_iload_n hC 4 dL_advise_4 rfl ?_
  refine k_iload_n hC 5 dL_advise_5 rfl ?_
  refine k_iload_n hC 6 dL_advise_6 rfl ?_
  refine g_callV hC hX 7 0 ([]) ((q, .inl (D.1 6, 1, .inr (.inl f))) :: []) (fun u => ((h, .inr (3, [.ref (a 0), .ref (b 0)])) :: (wSt D a u.1.1 u.1.2 ++ (wSt D b u.2.1 u.2.2 ++ ((q, .inl (D.1 6, 1, .inr (.inl f))) :: []))))) (c_X3_advise l hfl D h a b s s2 g g2 p0 p1 p2 hS hW) cw_RL_57 dL_advise_7 ⟨Nat.le_of_ble_eq_true rfl, Nat.le_of_ble_eq_true rfl, Nat.le_of_ble_eq_true rfl, Nat.le_of_ble_eq_true rfl⟩ rfl (Nat.le_of_ble_eq_true rfl) rfl rfl rfl (by simp only [List.append_assoc, List.cons_append, List.nil_append]) (fun _ => rfl) (fun _ => by simp only [List.append_assoc, List.cons_append, List.nil_append]) _ rfl (fun v u hp => ?_) (fun E hx => ?_)
  obtain ⟨hK, rfl, eu, hSu⟩ := hp
  refine KJ.eqs (st' := .int (advV s p0 p1 p2) :: .int (nI 0) :: .ref q :: []) rfl ?_
  refine k_i2l hC 10 dL_advise_10 ((advV s p0 p1 p2).toInt64) rfl ?_
  refine n_last hC 11 31 ((h, .inr (3, [.ref (a 0), .ref (b 0)])) :: (wSt D a u.1.1 u.1.2 ++ (wSt D b u.2.1 u.2.2 ++ ((q, .inl (D.1 6, 1, .inr (.inl (vp_updL f 0 ((advV s p0 p1 p2).toInt64))))) :: [])))) dL_advise_11 rfl (by omega) (by decide) rfl ?_
  refine k_goto hC 12 23 dL_advise_12 (by decide) ?_
  refine k_iconst hC 23 dL_advise_23 (nI 0) (by decide) ?_
  exact k_iret hC hE 24 (((u.1.1, u.1.2), (u.2.1, u.2.2)), vp_updL f 0 ((advV s p0 p1 p2).toInt64)) dL_advise_24 rfl (⟨by rw [hK], Or.inl ⟨hK, eu, rfl⟩, hSu⟩) rfl ⟨Nat.le_of_ble_eq_true rfl, Nat.le_of_ble_eq_true rfl⟩
  rcases hx with ⟨hK, rfl⟩ | ⟨hK, rfl⟩
  · skip
    refine x_catch (name := eB) hC htab 7 [] ⟨0, 12, 15, 13⟩ [⟨0, 12, 19, 21⟩] rfl (fun z hz => absurd hz List.not_mem_nil) (by decide) (by decide) wq_3_12 hX.2.1.1.2.2.2.2.1 (fun z => ?_)
    refine k_astore hC 15 5 [(5, .ref z), (0, .ref h), (1, .int p0), (2, .int p1), (3, .int p2), (4, .ref q)] dL_advise_15 (by decide) rfl ?_
    refine k_iconst hC 17 dL_advise_17 (nI 1) (by decide) ?_
    exact k_iret hC hE 18 (((s, g), (s2, g2)), f) dL_advise_18 rfl (⟨by rw [hK], Or.inr ⟨by rw [hK]; decide, rfl⟩, hS⟩) rfl ⟨Nat.le_of_ble_eq_true rfl, Nat.le_of_ble_eq_true rfl⟩
  · skip
    refine x_catch (name := eA) hC htab 7 [⟨0, 12, 15, 13⟩] ⟨0, 12, 19, 21⟩ [] rfl (fun z hz => by rcases List.mem_singleton.mp hz with rfl; exact Or.inr ⟨by decide, eB, wq_3_12, hX.2.1.2.2.2.1⟩) (by decide) (by decide) wq_12_11 hX.2.1.1.2.2.2.2.2 (fun z => ?_)
    refine k_astore hC 19 5 [(5, .ref z), (0, .ref h), (1, .int p0), (2, .int p1), (3, .int p2), (4, .ref q)] dL_advise_19 (by decide) rfl ?_
    refine k_iconst hC 21 dL_advise_21 (nI 2) (by decide) ?_
    exact k_iret hC hE 22 (((s, g), (s2, g2)), f) dL_advise_22 rfl (⟨by rw [hK], Or.inr ⟨by rw [hK]; decide, rfl⟩, hS⟩) rfl ⟨Nat.le_of_ble_eq_true rfl, Nat.le_of_ble_eq_true rfl⟩
