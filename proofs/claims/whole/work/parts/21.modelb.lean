/-! PinnedPantryModel: what its rows are asked -/
set_option maxHeartbeats 4000000 in
set_option maxRecDepth 100000 in
/-- m_thrown -/
theorem m_thrown (l : Launch) (D : va_G) (o : Nat → Nat) (th : Int32) (fj fs fl fn : Nat → Int32)  : MU l yX4_thrown cX4_thrown 1 (some .int) 0 0 D [.ref (o 0)] [((o 0), .inr (4, [.int th, .ref (o 1), .ref (o 2), .ref (o 3), .ref (o 4)])), ((o 1), .inl (D.1 5, 160, .inl fj)), ((o 2), .inl (D.1 5, 24, .inl fs)), ((o 3), .inl (D.1 5, 26, .inl fl)), ((o 4), .inl (D.1 5, 10, .inl fn))] (fun v (_ : Unit) => v = some (.int th)) (fun _ => [((o 0), .inr (4, [.int th, .ref (o 1), .ref (o 2), .ref (o 3), .ref (o 4)])), ((o 1), .inl (D.1 5, 160, .inl fj)), ((o 2), .inl (D.1 5, 24, .inl fs)), ((o 3), .inl (D.1 5, 26, .inl fl)), ((o 4), .inl (D.1 5, 10, .inl fn))]) 0 0 := by
  refine MU.enter (by decide) [(0, .ref (o 0))] rfl (Nat.le_of_ble_eq_true rfl) (fun G hC hE => ?_)
  have hC : CX G D cX4_thrown RX4 1 := hC
  refine k_aload_n hC 0 dX4_thrown_0 rfl ?_
  refine k_getf hC 1 0 0 dX4_thrown_1 rfl rfl inlX4 (by decide) wq_8_7 rfl ?_
  exact k_iret hC hE 4 () dX4_thrown_4 rfl rfl rfl ⟨Nat.zero_le _, Nat.zero_le _⟩
set_option maxHeartbeats 4000000 in
set_option maxRecDepth 100000 in
/-- m_fail -/
theorem m_fail (l : Launch) (D : va_G) (o : Nat → Nat) (th : Int32) (fj fs fl fn : Nat → Int32) (x : Nat)  : MU l yX4_fail cX4_fail 2 (some .int) 0 0 D [.ref (o 0), .int (nI x)] [((o 0), .inr (4, [.int th, .ref (o 1), .ref (o 2), .ref (o 3), .ref (o 4)])), ((o 1), .inl (D.1 5, 160, .inl fj)), ((o 2), .inl (D.1 5, 24, .inl fs)), ((o 3), .inl (D.1 5, 26, .inl fl)), ((o 4), .inl (D.1 5, 10, .inl fn))] (fun v (_ : Unit) => v = some (.int 0)) (fun _ => [((o 0), .inr (4, [.int (nI x), .ref (o 1), .ref (o 2), .ref (o 3), .ref (o 4)])), ((o 1), .inl (D.1 5, 160, .inl fj)), ((o 2), .inl (D.1 5, 24, .inl fs)), ((o 3), .inl (D.1 5, 26, .inl fl)), ((o 4), .inl (D.1 5, 10, .inl fn))]) 0 0 := by
  refine MU.enter (by decide) [(0, .ref (o 0)), (1, .int (nI x))] rfl (Nat.le_of_ble_eq_true rfl) (fun G hC hE => ?_)
  have hC : CX G D cX4_fail RX4 2 := hC
  refine k_aload_n hC 0 dX4_fail_0 rfl ?_
  refine k_iload_n hC 1 dX4_fail_1 rfl ?_
  refine k_putf hC 2 (ty0 := tyX4) 0 0 [((o 0), .inr (4, [.int (nI x), .ref (o 1), .ref (o 2), .ref (o 3), .ref (o 4)])), ((o 1), .inl (D.1 5, 160, .inl fj)), ((o 2), .inl (D.1 5, 24, .inl fs)), ((o 3), .inl (D.1 5, 26, .inl fl)), ((o 4), .inl (D.1 5, 10, .inl fn))] dX4_fail_2 rfl rfl inlX4 tyX4_ok nmX4 (by decide) wq_8_7 rfl rfl rfl (Nat.le_of_ble_eq_true rfl) rfl ?_
  refine k_iconst hC 5 dX4_fail_5 (nI 0) (by decide) ?_
  exact k_iret hC hE 6 () dX4_fail_6 rfl rfl rfl ⟨Nat.zero_le _, Nat.zero_le _⟩
set_option maxHeartbeats 4000000 in
set_option maxRecDepth 100000 in
/-- m_ja -/
theorem m_ja (l : Launch) (D : va_G) (o : Nat → Nat) (th : Int32) (fj fs fl fn : Nat → Int32) (k w : Nat)  (hk : k < 40) (hw : w < 4) : MU l yX4_ja cX4_ja 3 (some .int) 0 0 D [.ref (o 0), .int (nI k), .int (nI w)] [((o 0), .inr (4, [.int th, .ref (o 1), .ref (o 2), .ref (o 3), .ref (o 4)])), ((o 1), .inl (D.1 5, 160, .inl fj)), ((o 2), .inl (D.1 5, 24, .inl fs)), ((o 3), .inl (D.1 5, 26, .inl fl)), ((o 4), .inl (D.1 5, 10, .inl fn))] (fun v (_ : Unit) => v = some (.int (fj (4 * k + w)))) (fun _ => [((o 0), .inr (4, [.int th, .ref (o 1), .ref (o 2), .ref (o 3), .ref (o 4)])), ((o 1), .inl (D.1 5, 160, .inl fj)), ((o 2), .inl (D.1 5, 24, .inl fs)), ((o 3), .inl (D.1 5, 26, .inl fl)), ((o 4), .inl (D.1 5, 10, .inl fn))]) 0 0 := by
  refine MU.enter (by decide) [(0, .ref (o 0)), (1, .int (nI k)), (2, .int (nI w))] rfl (Nat.le_of_ble_eq_true rfl) (fun G hC hE => ?_)
  have hC : CX G D cX4_ja RX4 3 := hC
  refine k_aload_n hC 0 dX4_ja_0 rfl ?_
  refine k_getf hC 1 0 1 dX4_ja_1 rfl rfl inlX4 (by decide) wq_3_4 rfl ?_
  refine k_iconst hC 4 dX4_ja_4 (nI 4) (by decide) ?_
  refine k_iload_n hC 5 dX4_ja_5 rfl ?_
  refine n_imul hC 6 (4 * k) dX4_ja_6 rfl ?_
  refine k_iload_n hC 7 dX4_ja_7 rfl ?_
  refine n_iadd hC 8 ((4 * k) + w) dX4_ja_8 rfl ?_
  refine n_iald hC 9 1 (fj ((4 * k) + w)) dX4_ja_9 rfl (by omega) (by decide) rfl ?_
  exact k_iret hC hE 10 () dX4_ja_10 rfl rfl rfl ⟨Nat.zero_le _, Nat.zero_le _⟩
set_option maxHeartbeats 4000000 in
set_option maxRecDepth 100000 in
/-- m_many -/
theorem m_many (l : Launch) (D : va_G) (o : Nat → Nat) (th : Int32) (fj fs fl fn : Nat → Int32) (sh : Nat)  (hs : sh < 2) : MU l yX4_many cX4_many 2 (some .int) 0 0 D [.ref (o 0), .int (nI sh)] [((o 0), .inr (4, [.int th, .ref (o 1), .ref (o 2), .ref (o 3), .ref (o 4)])), ((o 1), .inl (D.1 5, 160, .inl fj)), ((o 2), .inl (D.1 5, 24, .inl fs)), ((o 3), .inl (D.1 5, 26, .inl fl)), ((o 4), .inl (D.1 5, 10, .inl fn))] (fun v (_ : Unit) => v = some (.int (fn (6 + sh)))) (fun _ => [((o 0), .inr (4, [.int th, .ref (o 1), .ref (o 2), .ref (o 3), .ref (o 4)])), ((o 1), .inl (D.1 5, 160, .inl fj)), ((o 2), .inl (D.1 5, 24, .inl fs)), ((o 3), .inl (D.1 5, 26, .inl fl)), ((o 4), .inl (D.1 5, 10, .inl fn))]) 0 0 := by
  refine MU.enter (by decide) [(0, .ref (o 0)), (1, .int (nI sh))] rfl (Nat.le_of_ble_eq_true rfl) (fun G hC hE => ?_)
  have hC : CX G D cX4_many RX4 2 := hC
  refine k_aload_n hC 0 dX4_many_0 rfl ?_
  refine k_getf hC 1 0 4 dX4_many_1 rfl rfl inlX4 (by decide) wq_3_7 rfl ?_
  refine k_bipush hC 4 dX4_many_4 (nI 6) (by decide) ?_
  refine k_iload_n hC 6 dX4_many_6 rfl ?_
  refine n_iadd hC 7 (6 + sh) dX4_many_7 rfl ?_
  refine n_iald hC 8 4 (fn (6 + sh)) dX4_many_8 rfl (by omega) (by decide) rfl ?_
  exact k_iret hC hE 9 () dX4_many_9 rfl rfl rfl ⟨Nat.zero_le _, Nat.zero_le _⟩
set_option maxHeartbeats 4000000 in
set_option maxRecDepth 100000 in
/-- m_listed -/
theorem m_listed (l : Launch) (D : va_G) (o : Nat → Nat) (th : Int32) (fj fs fl fn : Nat → Int32) (sh : Nat)  (hs : sh < 2) : MU l yX4_listed cX4_listed 2 (some .int) 0 0 D [.ref (o 0), .int (nI sh)] [((o 0), .inr (4, [.int th, .ref (o 1), .ref (o 2), .ref (o 3), .ref (o 4)])), ((o 1), .inl (D.1 5, 160, .inl fj)), ((o 2), .inl (D.1 5, 24, .inl fs)), ((o 3), .inl (D.1 5, 26, .inl fl)), ((o 4), .inl (D.1 5, 10, .inl fn))] (fun v (_ : Unit) => v = some (.int (fn (8 + sh)))) (fun _ => [((o 0), .inr (4, [.int th, .ref (o 1), .ref (o 2), .ref (o 3), .ref (o 4)])), ((o 1), .inl (D.1 5, 160, .inl fj)), ((o 2), .inl (D.1 5, 24, .inl fs)), ((o 3), .inl (D.1 5, 26, .inl fl)), ((o 4), .inl (D.1 5, 10, .inl fn))]) 0 0 := by
  refine MU.enter (by decide) [(0, .ref (o 0)), (1, .int (nI sh))] rfl (Nat.le_of_ble_eq_true rfl) (fun G hC hE => ?_)
  have hC : CX G D cX4_listed RX4 2 := hC
  refine k_aload_n hC 0 dX4_listed_0 rfl ?_
  refine k_getf hC 1 0 4 dX4_listed_1 rfl rfl inlX4 (by decide) wq_3_7 rfl ?_
  refine k_bipush hC 4 dX4_listed_4 (nI 8) (by decide) ?_
  refine k_iload_n hC 6 dX4_listed_6 rfl ?_
  refine n_iadd hC 7 (8 + sh) dX4_listed_7 rfl ?_
  refine n_iald hC 8 4 (fn (8 + sh)) dX4_listed_8 rfl (by omega) (by decide) rfl ?_
  exact k_iret hC hE 9 () dX4_listed_9 rfl rfl rfl ⟨Nat.zero_le _, Nat.zero_le _⟩
set_option maxHeartbeats 4000000 in
set_option maxRecDepth 100000 in
/-- m_kindAt -/
theorem m_kindAt (l : Launch) (D : va_G) (o : Nat → Nat) (th : Int32) (fj fs fl fn : Nat → Int32) (sh p : Nat)  (hp : 12 * sh + p < 24) : MU l yX4_kindAt cX4_kindAt 3 (some .int) 0 0 D [.ref (o 0), .int (nI sh), .int (nI p)] [((o 0), .inr (4, [.int th, .ref (o 1), .ref (o 2), .ref (o 3), .ref (o 4)])), ((o 1), .inl (D.1 5, 160, .inl fj)), ((o 2), .inl (D.1 5, 24, .inl fs)), ((o 3), .inl (D.1 5, 26, .inl fl)), ((o 4), .inl (D.1 5, 10, .inl fn))] (fun v (_ : Unit) => v = some (.int (fs (12 * sh + p)))) (fun _ => [((o 0), .inr (4, [.int th, .ref (o 1), .ref (o 2), .ref (o 3), .ref (o 4)])), ((o 1), .inl (D.1 5, 160, .inl fj)), ((o 2), .inl (D.1 5, 24, .inl fs)), ((o 3), .inl (D.1 5, 26, .inl fl)), ((o 4), .inl (D.1 5, 10, .inl fn))]) 0 0 := by
  refine MU.enter (by decide) [(0, .ref (o 0)), (1, .int (nI sh)), (2, .int (nI p))] rfl (Nat.le_of_ble_eq_true rfl) (fun G hC hE => ?_)
  have hC : CX G D cX4_kindAt RX4 3 := hC
  refine k_aload_n hC 0 dX4_kindAt_0 rfl ?_
  refine k_getf hC 1 0 2 dX4_kindAt_1 rfl rfl inlX4 (by decide) wq_3_5 rfl ?_
  refine k_bipush hC 4 dX4_kindAt_4 (nI 12) (by decide) ?_
  refine k_iload_n hC 6 dX4_kindAt_6 rfl ?_
  refine n_imul hC 7 (12 * sh) dX4_kindAt_7 rfl ?_
  refine k_iload_n hC 8 dX4_kindAt_8 rfl ?_
  refine n_iadd hC 9 ((12 * sh) + p) dX4_kindAt_9 rfl ?_
  refine n_iald hC 10 2 (fs ((12 * sh) + p)) dX4_kindAt_10 rfl (by omega) (by decide) rfl ?_
  exact k_iret hC hE 11 () dX4_kindAt_11 rfl rfl rfl ⟨Nat.zero_le _, Nat.zero_le _⟩
set_option maxHeartbeats 4000000 in
set_option maxRecDepth 100000 in
/-- m_listedAt -/
theorem m_listedAt (l : Launch) (D : va_G) (o : Nat → Nat) (th : Int32) (fj fs fl fn : Nat → Int32) (sh p : Nat)  (hp : 13 * sh + p < 26) : MU l yX4_listedAt cX4_listedAt 3 (some .int) 0 0 D [.ref (o 0), .int (nI sh), .int (nI p)] [((o 0), .inr (4, [.int th, .ref (o 1), .ref (o 2), .ref (o 3), .ref (o 4)])), ((o 1), .inl (D.1 5, 160, .inl fj)), ((o 2), .inl (D.1 5, 24, .inl fs)), ((o 3), .inl (D.1 5, 26, .inl fl)), ((o 4), .inl (D.1 5, 10, .inl fn))] (fun v (_ : Unit) => v = some (.int (fl (13 * sh + p)))) (fun _ => [((o 0), .inr (4, [.int th, .ref (o 1), .ref (o 2), .ref (o 3), .ref (o 4)])), ((o 1), .inl (D.1 5, 160, .inl fj)), ((o 2), .inl (D.1 5, 24, .inl fs)), ((o 3), .inl (D.1 5, 26, .inl fl)), ((o 4), .inl (D.1 5, 10, .inl fn))]) 0 0 := by
  refine MU.enter (by decide) [(0, .ref (o 0)), (1, .int (nI sh)), (2, .int (nI p))] rfl (Nat.le_of_ble_eq_true rfl) (fun G hC hE => ?_)
  have hC : CX G D cX4_listedAt RX4 3 := hC
  refine k_aload_n hC 0 dX4_listedAt_0 rfl ?_
  refine k_getf hC 1 0 3 dX4_listedAt_1 rfl rfl inlX4 (by decide) wq_3_6 rfl ?_
  refine k_bipush hC 4 dX4_listedAt_4 (nI 13) (by decide) ?_
  refine k_iload_n hC 6 dX4_listedAt_6 rfl ?_
  refine n_imul hC 7 (13 * sh) dX4_listedAt_7 rfl ?_
  refine k_iload_n hC 8 dX4_listedAt_8 rfl ?_
  refine n_iadd hC 9 ((13 * sh) + p) dX4_listedAt_9 rfl ?_
  refine n_iald hC 10 3 (fl ((13 * sh) + p)) dX4_listedAt_10 rfl (by omega) (by decide) rfl ?_
  exact k_iret hC hE 11 () dX4_listedAt_11 rfl rfl rfl ⟨Nat.zero_le _, Nat.zero_le _⟩
set_option maxHeartbeats 4000000 in
set_option maxRecDepth 100000 in
/-- m_isThere -/
theorem m_isThere (l : Launch) (D : va_G) (o : Nat → Nat) (th : Int32) (fj fs fl fn : Nat → Int32) (N T : List Nat) (k : Nat)  (hk : k < 40) (hf : fj (4 * k) = sfI N T k) : MU l yX4_isThere cX4_isThere 2 (some .boolean) 1 22 D [.ref (o 0), .int (nI k)] [((o 0), .inr (4, [.int th, .ref (o 1), .ref (o 2), .ref (o 3), .ref (o 4)])), ((o 1), .inl (D.1 5, 160, .inl fj)), ((o 2), .inl (D.1 5, 24, .inl fs)), ((o 3), .inl (D.1 5, 26, .inl fl)), ((o 4), .inl (D.1 5, 10, .inl fn))] (fun v (_ : Unit) => v = some (.int (nI (yn (k ∈ N ∨ k ∈ T))))) (fun _ => [((o 0), .inr (4, [.int th, .ref (o 1), .ref (o 2), .ref (o 3), .ref (o 4)])), ((o 1), .inl (D.1 5, 160, .inl fj)), ((o 2), .inl (D.1 5, 24, .inl fs)), ((o 3), .inl (D.1 5, 26, .inl fl)), ((o 4), .inl (D.1 5, 10, .inl fn))]) 0 0 := by
  refine MU.enter (by decide) [(0, .ref (o 0)), (1, .int (nI k))] rfl (Nat.le_of_ble_eq_true rfl) (fun G hC hE => ?_)
  have hC : CX G D cX4_isThere RX4 2 := hC
  refine k_aload_n hC 0 dX4_isThere_0 rfl ?_
  refine k_iload_n hC 1 dX4_isThere_1 rfl ?_
  refine k_iconst hC 2 dX4_isThere_2 (nI 0) (by decide) ?_
  refine k_callVr hC 3 0 [0, 1, 2, 3, 4] (m_ja l D o th fj fs fl fn k 0 hk (by decide)) cw_RX4_30 dX4_isThere_3 ⟨Nat.le_of_ble_eq_true rfl, Nat.le_of_ble_eq_true rfl, Nat.le_of_ble_eq_true rfl, Nat.le_of_ble_eq_true rfl⟩ rfl (Nat.le_of_ble_eq_true rfl) rfl rfl rfl (by decide) rfl (fun _ => Nat.le_of_ble_eq_true rfl) (fun _ => rfl) _ rfl (fun v u hp => ?_)
  obtain rfl := hp
  refine KJ.eqs (st' := .int (fj (4 * k + 0)) :: []) rfl ?_
  refine KJ.topi (y := (sfI N T k)) hf ?_
  refine k_iconst hC 6 dX4_isThere_6 (-1) (by decide) ?_
  refine k_icmp_eq hC 7 14 dX4_isThere_7 (by decide) (fun h7 => ?_) (fun h7 => ?_)
  · skip
    refine k_iconst hC 14 dX4_isThere_14 (nI 0) (by decide) ?_
    exact k_iret hC hE 15 () dX4_isThere_15 rfl (by rw [yn_f (sfI_m1.mp h7)]) rfl ⟨Nat.zero_le _, Nat.zero_le _⟩
  · skip
    refine k_iconst hC 10 dX4_isThere_10 (nI 1) (by decide) ?_
    refine k_goto hC 11 15 dX4_isThere_11 (by decide) ?_
    exact k_iret hC hE 15 () dX4_isThere_15 rfl (by rw [yn_t (Classical.byContradiction (fun z => h7 (sfI_m1.mpr z)))]) rfl ⟨Nat.zero_le _, Nat.zero_le _⟩
set_option maxHeartbeats 4000000 in
set_option maxRecDepth 100000 in
/-- m_all -/
theorem m_all (l : Launch) (D : va_G) (o : Nat → Nat) (th : Int32) (fj fs fl fn : Nat → Int32) (a b : Nat)  (h6 : fn 6 = nI a) (h7 : fn 7 = nI b) : MU l yX4_all cX4_all 1 (some .int) 1 21 D [.ref (o 0)] [((o 0), .inr (4, [.int th, .ref (o 1), .ref (o 2), .ref (o 3), .ref (o 4)])), ((o 1), .inl (D.1 5, 160, .inl fj)), ((o 2), .inl (D.1 5, 24, .inl fs)), ((o 3), .inl (D.1 5, 26, .inl fl)), ((o 4), .inl (D.1 5, 10, .inl fn))] (fun v (_ : Unit) => v = some (.int (nI (a + b)))) (fun _ => [((o 0), .inr (4, [.int th, .ref (o 1), .ref (o 2), .ref (o 3), .ref (o 4)])), ((o 1), .inl (D.1 5, 160, .inl fj)), ((o 2), .inl (D.1 5, 24, .inl fs)), ((o 3), .inl (D.1 5, 26, .inl fl)), ((o 4), .inl (D.1 5, 10, .inl fn))]) 0 0 := by
  refine MU.enter (by decide) [(0, .ref (o 0))] rfl (Nat.le_of_ble_eq_true rfl) (fun G hC hE => ?_)
  have hC : CX G D cX4_all RX4 1 := hC
  refine k_aload_n hC 0 dX4_all_0 rfl ?_
  refine k_iconst hC 1 dX4_all_1 (nI 0) (by decide) ?_
  refine k_callVr hC 2 0 [0, 1, 2, 3, 4] (m_many l D o th fj fs fl fn 0 (by decide)) cw_RX4_34 dX4_all_2 ⟨Nat.le_of_ble_eq_true rfl, Nat.le_of_ble_eq_true rfl, Nat.le_of_ble_eq_true rfl, Nat.le_of_ble_eq_true rfl⟩ rfl (Nat.le_of_ble_eq_true rfl) rfl rfl rfl (by decide) rfl (fun _ => Nat.le_of_ble_eq_true rfl) (fun _ => rfl) _ rfl (fun v u hp => ?_)
  obtain rfl := hp
  refine KJ.eqs (st' := .int (fn (6 + 0)) :: []) rfl ?_
  refine KJ.topi (y := (nI a)) h6 ?_
  refine k_aload_n hC 5 dX4_all_5 rfl ?_
  refine k_iconst hC 6 dX4_all_6 (nI 1) (by decide) ?_
  refine k_callVr hC 7 0 [0, 1, 2, 3, 4] (m_many l D o th fj fs fl fn 1 (by decide)) cw_RX4_34 dX4_all_7 ⟨Nat.le_of_ble_eq_true rfl, Nat.le_of_ble_eq_true rfl, Nat.le_of_ble_eq_true rfl, Nat.le_of_ble_eq_true rfl⟩ rfl (Nat.le_of_ble_eq_true rfl) rfl rfl rfl (by decide) rfl (fun _ => Nat.le_of_ble_eq_true rfl) (fun _ => rfl) _ rfl (fun v u hp => ?_)
  obtain rfl := hp
  refine KJ.eqs (st' := .int (fn (6 + 1)) :: .int (nI a) :: []) rfl ?_
  refine KJ.topi (y := (nI b)) h7 ?_
  refine n_iadd hC 10 (a + b) dX4_all_10 rfl ?_
  exact k_iret hC hE 11 () dX4_all_11 rfl rfl rfl ⟨Nat.zero_le _, Nat.zero_le _⟩
set_option maxHeartbeats 4000000 in
set_option maxRecDepth 100000 in
/-- m_putLast -/
theorem m_putLast (l : Launch) (D : va_G) (o : Nat → Nat) (th : Int32) (fj fs fl fn : Nat → Int32) (sh c k : Nat)  (hs : sh < 2) (hc : fn (6 + sh) = nI c) (hcc : 12 * sh + c < 24) (hk : k < 40) : MU l yX4_putLast cX4_putLast 3 none 1 21 D [.ref (o 0), .int (nI sh), .int (nI k)] [((o 0), .inr (4, [.int th, .ref (o 1), .ref (o 2), .ref (o 3), .ref (o 4)])), ((o 1), .inl (D.1 5, 160, .inl fj)), ((o 2), .inl (D.1 5, 24, .inl fs)), ((o 3), .inl (D.1 5, 26, .inl fl)), ((o 4), .inl (D.1 5, 10, .inl fn))] (fun v (_ : Unit) => v = none) (fun _ => [((o 0), .inr (4, [.int th, .ref (o 1), .ref (o 2), .ref (o 3), .ref (o 4)])), ((o 1), .inl (D.1 5, 160, .inl (upd fj (4 * k) (nI sh)))), ((o 2), .inl (D.1 5, 24, .inl (upd fs (12 * sh + c) (nI k)))), ((o 3), .inl (D.1 5, 26, .inl fl)), ((o 4), .inl (D.1 5, 10, .inl (upd fn (6 + sh) (nI (c + 1)))))]) 0 0 := by
  refine MU.enter (by decide) [(0, .ref (o 0)), (1, .int (nI sh)), (2, .int (nI k))] rfl (Nat.le_of_ble_eq_true rfl) (fun G hC hE => ?_)
  have hC : CX G D cX4_putLast RX4 3 := hC
  refine k_aload_n hC 0 dX4_putLast_0 rfl ?_
  refine k_getf hC 1 0 2 dX4_putLast_1 rfl rfl inlX4 (by decide) wq_3_5 rfl ?_
  refine k_bipush hC 4 dX4_putLast_4 (nI 12) (by decide) ?_
  refine k_iload_n hC 6 dX4_putLast_6 rfl ?_
  refine n_imul hC 7 (12 * sh) dX4_putLast_7 rfl ?_
  refine k_aload_n hC 8 dX4_putLast_8 rfl ?_
  refine k_iload_n hC 9 dX4_putLast_9 rfl ?_
  refine k_callVr hC 10 0 [0, 1, 2, 3, 4] (m_many l D o th fj fs fl fn sh hs) cw_RX4_34 dX4_putLast_10 ⟨Nat.le_of_ble_eq_true rfl, Nat.le_of_ble_eq_true rfl, Nat.le_of_ble_eq_true rfl, Nat.le_of_ble_eq_true rfl⟩ rfl (Nat.le_of_ble_eq_true rfl) rfl rfl rfl (by decide) rfl (fun _ => Nat.le_of_ble_eq_true rfl) (fun _ => rfl) _ rfl (fun v u hp => ?_)
  obtain rfl := hp
  refine KJ.eqs (st' := .int (fn (6 + sh)) :: .int (nI (12 * sh)) :: .ref (o 2) :: []) rfl ?_
  refine KJ.topi (y := (nI c)) hc ?_
  refine n_iadd hC 13 ((12 * sh) + c) dX4_putLast_13 rfl ?_
  refine k_iload_n hC 14 dX4_putLast_14 rfl ?_
  refine n_iast hC 15 2 [((o 0), .inr (4, [.int th, .ref (o 1), .ref (o 2), .ref (o 3), .ref (o 4)])), ((o 1), .inl (D.1 5, 160, .inl fj)), ((o 2), .inl (D.1 5, 24, .inl (upd fs ((12 * sh) + c) (nI k)))), ((o 3), .inl (D.1 5, 26, .inl fl)), ((o 4), .inl (D.1 5, 10, .inl fn))] dX4_putLast_15 rfl (by omega) (by decide) rfl ?_
  refine k_aload_n hC 16 dX4_putLast_16 rfl ?_
  refine k_getf hC 17 0 4 dX4_putLast_17 rfl rfl inlX4 (by decide) wq_3_7 rfl ?_
  refine k_bipush hC 20 dX4_putLast_20 (nI 6) (by decide) ?_
  refine k_iload_n hC 22 dX4_putLast_22 rfl ?_
  refine n_iadd hC 23 (6 + sh) dX4_putLast_23 rfl ?_
  refine k_dup2 hC 24 dX4_putLast_24 rfl rfl ?_
  refine n_iald hC 25 4 (nI c) dX4_putLast_25 rfl (by omega) (by decide) hc ?_
  refine k_iconst hC 26 dX4_putLast_26 (nI 1) (by decide) ?_
  refine n_iadd hC 27 (c + 1) dX4_putLast_27 rfl ?_
  refine n_iast hC 28 4 [((o 0), .inr (4, [.int th, .ref (o 1), .ref (o 2), .ref (o 3), .ref (o 4)])), ((o 1), .inl (D.1 5, 160, .inl fj)), ((o 2), .inl (D.1 5, 24, .inl (upd fs ((12 * sh) + c) (nI k)))), ((o 3), .inl (D.1 5, 26, .inl fl)), ((o 4), .inl (D.1 5, 10, .inl (upd fn (6 + sh) (nI (c + 1)))))] dX4_putLast_28 rfl (by omega) (by decide) rfl ?_
  refine k_aload_n hC 29 dX4_putLast_29 rfl ?_
  refine k_getf hC 30 0 1 dX4_putLast_30 rfl rfl inlX4 (by decide) wq_3_4 rfl ?_
  refine k_iconst hC 33 dX4_putLast_33 (nI 4) (by decide) ?_
  refine k_iload_n hC 34 dX4_putLast_34 rfl ?_
  refine n_imul hC 35 (4 * k) dX4_putLast_35 rfl ?_
  refine k_iconst hC 36 dX4_putLast_36 (nI 0) (by decide) ?_
  refine n_iadd hC 37 (4 * k) dX4_putLast_37 (by omega) ?_
  refine k_iload_n hC 38 dX4_putLast_38 rfl ?_
  refine n_iast hC 39 1 [((o 0), .inr (4, [.int th, .ref (o 1), .ref (o 2), .ref (o 3), .ref (o 4)])), ((o 1), .inl (D.1 5, 160, .inl (upd fj (4 * k) (nI sh)))), ((o 2), .inl (D.1 5, 24, .inl (upd fs ((12 * sh) + c) (nI k)))), ((o 3), .inl (D.1 5, 26, .inl fl)), ((o 4), .inl (D.1 5, 10, .inl (upd fn (6 + sh) (nI (c + 1)))))] dX4_putLast_39 rfl (by omega) (by decide) rfl ?_
  exact k_vret hC hE 40 () dX4_putLast_40 rfl rfl ⟨Nat.zero_le _, Nat.zero_le _⟩
set_option maxHeartbeats 4000000 in
set_option maxRecDepth 100000 in
/-- m_takeOut -/
theorem m_takeOut (l : Launch) (D : va_G) (o : Nat → Nat) (th : Int32) (fj fs fl fn : Nat → Int32) (sh p c : Nat)  (hs : sh < 2) (hc : fn (6 + sh) = nI c) (hp : p < c) (hcc : c ≤ 12) : MU l yX4_takeOut cX4_takeOut 3 none 1 40 D [.ref (o 0), .int (nI sh), .int (nI p)] [((o 0), .inr (4, [.int th, .ref (o 1), .ref (o 2), .ref (o 3), .ref (o 4)])), ((o 1), .inl (D.1 5, 160, .inl fj)), ((o 2), .inl (D.1 5, 24, .inl fs)), ((o 3), .inl (D.1 5, 26, .inl fl)), ((o 4), .inl (D.1 5, 10, .inl fn))] (fun v (_ : Unit) => v = none) (fun _ => [((o 0), .inr (4, [.int th, .ref (o 1), .ref (o 2), .ref (o 3), .ref (o 4)])), ((o 1), .inl (D.1 5, 160, .inl fj)), ((o 2), .inl (D.1 5, 24, .inl (va_cpy fs fs (12 * sh + p + 1) (12 * sh + p) (c - 1 - p)))), ((o 3), .inl (D.1 5, 26, .inl fl)), ((o 4), .inl (D.1 5, 10, .inl (upd fn (6 + sh) (nI (c - 1)))))]) 0 0 := by
  refine MU.enter (by decide) [(0, .ref (o 0)), (1, .int (nI sh)), (2, .int (nI p))] rfl (Nat.le_of_ble_eq_true rfl) (fun G hC hE => ?_)
  have hC : CX G D cX4_takeOut RX4 3 := hC
  refine k_aload_n hC 0 dX4_takeOut_0 rfl ?_
  refine k_getf hC 1 0 4 dX4_takeOut_1 rfl rfl inlX4 (by decide) wq_3_7 rfl ?_
  refine k_bipush hC 4 dX4_takeOut_4 (nI 6) (by decide) ?_
  refine k_iload_n hC 6 dX4_takeOut_6 rfl ?_
  refine n_iadd hC 7 (6 + sh) dX4_takeOut_7 rfl ?_
  refine k_dup2 hC 8 dX4_takeOut_8 rfl rfl ?_
  refine n_iald hC 9 4 (nI c) dX4_takeOut_9 rfl (by omega) (by decide) hc ?_
  refine k_iconst hC 10 dX4_takeOut_10 (nI 1) (by decide) ?_
  refine n_isub hC 11 (c - 1) dX4_takeOut_11 (by omega) rfl ?_
  refine n_iast hC 12 4 [((o 0), .inr (4, [.int th, .ref (o 1), .ref (o 2), .ref (o 3), .ref (o 4)])), ((o 1), .inl (D.1 5, 160, .inl fj)), ((o 2), .inl (D.1 5, 24, .inl fs)), ((o 3), .inl (D.1 5, 26, .inl fl)), ((o 4), .inl (D.1 5, 10, .inl (upd fn (6 + sh) (nI (c - 1)))))] dX4_takeOut_12 rfl (by omega) (by decide) rfl ?_
  refine k_aload_n hC 13 dX4_takeOut_13 rfl ?_
  refine k_getf hC 14 0 2 dX4_takeOut_14 rfl rfl inlX4 (by decide) wq_3_5 rfl ?_
  refine k_bipush hC 17 dX4_takeOut_17 (nI 12) (by decide) ?_
  refine k_iload_n hC 19 dX4_takeOut_19 rfl ?_
  refine n_imul hC 20 (12 * sh) dX4_takeOut_20 rfl ?_
  refine k_iload_n hC 21 dX4_takeOut_21 rfl ?_
  refine n_iadd hC 22 ((12 * sh) + p) dX4_takeOut_22 rfl ?_
  refine k_iconst hC 23 dX4_takeOut_23 (nI 1) (by decide) ?_
  refine n_iadd hC 24 (((12 * sh) + p) + 1) dX4_takeOut_24 rfl ?_
  refine k_aload_n hC 25 dX4_takeOut_25 rfl ?_
  refine k_getf hC 26 0 2 dX4_takeOut_26 rfl rfl inlX4 (by decide) wq_3_5 rfl ?_
  refine k_bipush hC 29 dX4_takeOut_29 (nI 12) (by decide) ?_
  refine k_iload_n hC 31 dX4_takeOut_31 rfl ?_
  refine n_imul hC 32 (12 * sh) dX4_takeOut_32 rfl ?_
  refine k_iload_n hC 33 dX4_takeOut_33 rfl ?_
  refine n_iadd hC 34 ((12 * sh) + p) dX4_takeOut_34 rfl ?_
  refine k_aload_n hC 35 dX4_takeOut_35 rfl ?_
  refine k_iload_n hC 36 dX4_takeOut_36 rfl ?_
  refine k_callVr hC 37 0 [0, 1, 2, 3, 4] (m_many l D o th fj fs fl (upd fn (6 + sh) (nI (c - 1))) sh hs) cw_RX4_34 dX4_takeOut_37 ⟨Nat.le_of_ble_eq_true rfl, Nat.le_of_ble_eq_true rfl, Nat.le_of_ble_eq_true rfl, Nat.le_of_ble_eq_true rfl⟩ rfl (Nat.le_of_ble_eq_true rfl) rfl rfl rfl (by decide) rfl (fun _ => Nat.le_of_ble_eq_true rfl) (fun _ => rfl) _ rfl (fun v u hp => ?_)
  obtain rfl := hp
  refine KJ.eqs (st' := .int ((upd fn (6 + sh) (nI (c - 1))) (6 + sh)) :: .int (nI ((12 * sh) + p)) :: .ref (o 2) :: .int (nI (((12 * sh) + p) + 1)) :: .ref (o 2) :: []) rfl ?_
  refine KJ.topi (y := (nI (c - 1))) (upd_s _ _ _) ?_
  refine k_iload_n hC 40 dX4_takeOut_40 rfl ?_
  refine n_isub hC 41 ((c - 1) - p) dX4_takeOut_41 (by omega) rfl ?_
  refine k_copy hC 42 (sp := ((12 * sh) + p) + 1) (dp := (12 * sh) + p) (n := (c - 1) - p) 2 2 [((o 0), .inr (4, [.int th, .ref (o 1), .ref (o 2), .ref (o 3), .ref (o 4)])), ((o 1), .inl (D.1 5, 160, .inl fj)), ((o 2), .inl (D.1 5, 24, .inl (va_cpy fs fs (((12 * sh) + p) + 1) ((12 * sh) + p) ((c - 1) - p)))), ((o 3), .inl (D.1 5, 26, .inl fl)), ((o 4), .inl (D.1 5, 10, .inl (upd fn (6 + sh) (nI (c - 1)))))] dX4_takeOut_42 wq_10_0 wq_10_1 wq_10_2 wq_10_3 ⟨Nat.le_of_ble_eq_true rfl, Nat.le_of_ble_eq_true rfl⟩ rfl rfl ⟨by decide, by decide⟩ (by omega) (by omega) rfl ?_
  exact k_vret hC hE 45 () dX4_takeOut_45 rfl rfl ⟨Nat.zero_le _, Nat.zero_le _⟩
set_option maxHeartbeats 4000000 in
set_option maxRecDepth 100000 in
/-- m_takeOff -/
theorem m_takeOff (l : Launch) (D : va_G) (o : Nat → Nat) (th : Int32) (fj fs fl fn : Nat → Int32) (sh p c : Nat)  (hs : sh < 2) (hc : fn (8 + sh) = nI c) (hp : p < c) (hcc : c ≤ 13) : MU l yX4_takeOff cX4_takeOff 3 none 1 40 D [.ref (o 0), .int (nI sh), .int (nI p)] [((o 0), .inr (4, [.int th, .ref (o 1), .ref (o 2), .ref (o 3), .ref (o 4)])), ((o 1), .inl (D.1 5, 160, .inl fj)), ((o 2), .inl (D.1 5, 24, .inl fs)), ((o 3), .inl (D.1 5, 26, .inl fl)), ((o 4), .inl (D.1 5, 10, .inl fn))] (fun v (_ : Unit) => v = none) (fun _ => [((o 0), .inr (4, [.int th, .ref (o 1), .ref (o 2), .ref (o 3), .ref (o 4)])), ((o 1), .inl (D.1 5, 160, .inl fj)), ((o 2), .inl (D.1 5, 24, .inl fs)), ((o 3), .inl (D.1 5, 26, .inl (va_cpy fl fl (13 * sh + p + 1) (13 * sh + p) (c - 1 - p)))), ((o 4), .inl (D.1 5, 10, .inl (upd fn (8 + sh) (nI (c - 1)))))]) 0 0 := by
  refine MU.enter (by decide) [(0, .ref (o 0)), (1, .int (nI sh)), (2, .int (nI p))] rfl (Nat.le_of_ble_eq_true rfl) (fun G hC hE => ?_)
  have hC : CX G D cX4_takeOff RX4 3 := hC
  refine k_aload_n hC 0 dX4_takeOff_0 rfl ?_
  refine k_getf hC 1 0 4 dX4_takeOff_1 rfl rfl inlX4 (by decide) wq_3_7 rfl ?_
  refine k_bipush hC 4 dX4_takeOff_4 (nI 8) (by decide) ?_
  refine k_iload_n hC 6 dX4_takeOff_6 rfl ?_
  refine n_iadd hC 7 (8 + sh) dX4_takeOff_7 rfl ?_
  refine k_dup2 hC 8 dX4_takeOff_8 rfl rfl ?_
  refine n_iald hC 9 4 (nI c) dX4_takeOff_9 rfl (by omega) (by decide) hc ?_
  refine k_iconst hC 10 dX4_takeOff_10 (nI 1) (by decide) ?_
  refine n_isub hC 11 (c - 1) dX4_takeOff_11 (by omega) rfl ?_
  refine n_iast hC 12 4 [((o 0), .inr (4, [.int th, .ref (o 1), .ref (o 2), .ref (o 3), .ref (o 4)])), ((o 1), .inl (D.1 5, 160, .inl fj)), ((o 2), .inl (D.1 5, 24, .inl fs)), ((o 3), .inl (D.1 5, 26, .inl fl)), ((o 4), .inl (D.1 5, 10, .inl (upd fn (8 + sh) (nI (c - 1)))))] dX4_takeOff_12 rfl (by omega) (by decide) rfl ?_
  refine k_aload_n hC 13 dX4_takeOff_13 rfl ?_
  refine k_getf hC 14 0 3 dX4_takeOff_14 rfl rfl inlX4 (by decide) wq_3_6 rfl ?_
  refine k_bipush hC 17 dX4_takeOff_17 (nI 13) (by decide) ?_
  refine k_iload_n hC 19 dX4_takeOff_19 rfl ?_
  refine n_imul hC 20 (13 * sh) dX4_takeOff_20 rfl ?_
  refine k_iload_n hC 21 dX4_takeOff_21 rfl ?_
  refine n_iadd hC 22 ((13 * sh) + p) dX4_takeOff_22 rfl ?_
  refine k_iconst hC 23 dX4_takeOff_23 (nI 1) (by decide) ?_
  refine n_iadd hC 24 (((13 * sh) + p) + 1) dX4_takeOff_24 rfl ?_
  refine k_aload_n hC 25 dX4_takeOff_25 rfl ?_
  refine k_getf hC 26 0 3 dX4_takeOff_26 rfl rfl inlX4 (by decide) wq_3_6 rfl ?_
  refine k_bipush hC 29 dX4_takeOff_29 (nI 13) (by decide) ?_
  refine k_iload_n hC 31 dX4_takeOff_31 rfl ?_
  refine n_imul hC 32 (13 * sh) dX4_takeOff_32 rfl ?_
  refine k_iload_n hC 33 dX4_takeOff_33 rfl ?_
  refine n_iadd hC 34 ((13 * sh) + p) dX4_takeOff_34 rfl ?_
  refine k_aload_n hC 35 dX4_takeOff_35 rfl ?_
  refine k_iload_n hC 36 dX4_takeOff_36 rfl ?_
  refine k_callVr hC 37 0 [0, 1, 2, 3, 4] (m_listed l D o th fj fs fl (upd fn (8 + sh) (nI (c - 1))) sh hs) cw_RX4_44 dX4_takeOff_37 ⟨Nat.le_of_ble_eq_true rfl, Nat.le_of_ble_eq_true rfl, Nat.le_of_ble_eq_true rfl, Nat.le_of_ble_eq_true rfl⟩ rfl (Nat.le_of_ble_eq_true rfl) rfl rfl rfl (by decide) rfl (fun _ => Nat.le_of_ble_eq_true rfl) (fun _ => rfl) _ rfl (fun v u hp => ?_)
  obtain rfl := hp
  refine KJ.eqs (st' := .int ((upd fn (8 + sh) (nI (c - 1))) (8 + sh)) :: .int (nI ((13 * sh) + p)) :: .ref (o 3) :: .int (nI (((13 * sh) + p) + 1)) :: .ref (o 3) :: []) rfl ?_
  refine KJ.topi (y := (nI (c - 1))) (upd_s _ _ _) ?_
  refine k_iload_n hC 40 dX4_takeOff_40 rfl ?_
  refine n_isub hC 41 ((c - 1) - p) dX4_takeOff_41 (by omega) rfl ?_
  refine k_copy hC 42 (sp := ((13 * sh) + p) + 1) (dp := (13 * sh) + p) (n := (c - 1) - p) 3 3 [((o 0), .inr (4, [.int th, .ref (o 1), .ref (o 2), .ref (o 3), .ref (o 4)])), ((o 1), .inl (D.1 5, 160, .inl fj)), ((o 2), .inl (D.1 5, 24, .inl fs)), ((o 3), .inl (D.1 5, 26, .inl (va_cpy fl fl (((13 * sh) + p) + 1) ((13 * sh) + p) ((c - 1) - p)))), ((o 4), .inl (D.1 5, 10, .inl (upd fn (8 + sh) (nI (c - 1)))))] dX4_takeOff_42 wq_10_0 wq_10_1 wq_10_2 wq_10_3 ⟨Nat.le_of_ble_eq_true rfl, Nat.le_of_ble_eq_true rfl⟩ rfl rfl ⟨by decide, by decide⟩ (by omega) (by omega) rfl ?_
  exact k_vret hC hE 45 () dX4_takeOff_45 rfl rfl ⟨Nat.zero_le _, Nat.zero_le _⟩
