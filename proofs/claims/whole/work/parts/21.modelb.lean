/-! PinnedPantryModel: what its rows are asked -/
set_option maxHeartbeats 4000000 in
set_option maxRecDepth 100000 in
/-- m_thrown -/
theorem m_thrown (l : Launch) (D : va_G) (o : Nat → Nat) (th : Int32) (fj fs fl fn : Nat → Int32)  : MU l yX4_thrown cX4_thrown 1 (some .int) 0 0 D [.ref (o 0)] [((o 0), .inr (4, [.int th, .ref (o 1), .ref (o 2), .ref (o 3), .ref (o 4)])), ((o 1), .inl (D.1 5, 160, .inl fj)), ((o 2), .inl (D.1 5, 24, .inl fs)), ((o 3), .inl (D.1 5, 26, .inl fl)), ((o 4), .inl (D.1 5, 10, .inl fn))] (fun v (_ : Unit) => v = some (.int th)) (fun _ => [((o 0), .inr (4, [.int th, .ref (o 1), .ref (o 2), .ref (o 3), .ref (o 4)])), ((o 1), .inl (D.1 5, 160, .inl fj)), ((o 2), .inl (D.1 5, 24, .inl fs)), ((o 3), .inl (D.1 5, 26, .inl fl)), ((o 4), .inl (D.1 5, 10, .inl fn))]) 0 0 := by
  refine MU.enter (by decide) [(0, .ref (o 0))] rfl (Nat.le_of_ble_eq_true rfl) (fun G hC hE => ?_)
  have hC : CX G D cX4_thrown RX4 1 := hC
  refine k_aload_n hC 0 dX4_thrown_0 rfl ?_
  refine k_getf hC 1 0 0 dX4_thrown_1 rfl rfl inlX4 (by decide) wq_8_7 rfl ?_
  exact k_iret hC hE 4 () dX4_thrown_4 rfl rfl rfl ⟨Nat.zero_le _, Nat.zero_le _⟩
set_option maxHeartbeats 4000000 in
set_option maxRecDepth 100000 in
/-- m_fail -/
theorem m_fail (l : Launch) (D : va_G) (o : Nat → Nat) (th : Int32) (fj fs fl fn : Nat → Int32) (x : Nat)  : MU l yX4_fail cX4_fail 2 (some .int) 0 0 D [.ref (o 0), .int (nI x)] [((o 0), .inr (4, [.int th, .ref (o 1), .ref (o 2), .ref (o 3), .ref (o 4)])), ((o 1), .inl (D.1 5, 160, .inl fj)), ((o 2), .inl (D.1 5, 24, .inl fs)), ((o 3), .inl (D.1 5, 26, .inl fl)), ((o 4), .inl (D.1 5, 10, .inl fn))] (fun v (_ : Unit) => v = some (.int 0)) (fun _ => [((o 0), .inr (4, [.int (nI x), .ref (o 1), .ref (o 2), .ref (o 3), .ref (o 4)])), ((o 1), .inl (D.1 5, 160, .inl fj)), ((o 2), .inl (D.1 5, 24, .inl fs)), ((o 3), .inl (D.1 5, 26, .inl fl)), ((o 4), .inl (D.1 5, 10, .inl fn))]) 0 0 := by
  refine MU.enter (by decide) [(0, .ref (o 0)), (1, .int (nI x))] rfl (Nat.le_of_ble_eq_true rfl) (fun G hC hE => ?_)
  have hC : CX G D cX4_fail RX4 2 := hC
  refine k_aload_n hC 0 dX4_fail_0 rfl ?_
  refine k_iload_n hC 1 dX4_fail_1 rfl ?_
  refine k_putf hC 2 (ty0 := tyX4) 0 0 [((o 0), .inr (4, [.int (nI x), .ref (o 1), .ref (o 2), .ref (o 3), .ref (o 4)])), ((o 1), .inl (D.1 5, 160, .inl fj)), ((o 2), .inl (D.1 5, 24, .inl fs)), ((o 3), .inl (D.1 5, 26, .inl fl)), ((o 4), .inl (D.1 5, 10, .inl fn))] dX4_fail_2 rfl rfl inlX4 tyX4_ok nmX4 (by decide) wq_8_7 rfl rfl rfl (Nat.le_of_ble_eq_true rfl) rfl ?_
  refine k_iconst hC 5 dX4_fail_5 (nI 0) (by decide) ?_
  exact k_iret hC hE 6 () dX4_fail_6 rfl rfl rfl ⟨Nat.zero_le _, Nat.zero_le _⟩
set_option maxHeartbeats 4000000 in
set_option maxRecDepth 100000 in
/-- m_ja -/
theorem m_ja (l : Launch) (D : va_G) (o : Nat → Nat) (th : Int32) (fj fs fl fn : Nat → Int32) (k w : Nat)  (hk : k < 40) (hw : w < 4) : MU l yX4_ja cX4_ja 3 (some .int) 0 0 D [.ref (o 0), .int (nI k), .int (nI w)] [((o 0), .inr (4, [.int th, .ref (o 1), .ref (o 2), .ref (o 3), .ref (o 4)])), ((o 1), .inl (D.1 5, 160, .inl fj)), ((o 2), .inl (D.1 5, 24, .inl fs)), ((o 3), .inl (D.1 5, 26, .inl fl)), ((o 4), .inl (D.1 5, 10, .inl fn))] (fun v (_ : Unit) => v = some (.int (fj (4 * k + w)))) (fun _ => [((o 0), .inr (4, [.int th, .ref (o 1), .ref (o 2), .ref (o 3), .ref (o 4)])), ((o 1), .inl (D.1 5, 160, .inl fj)), ((o 2), .inl (D.1 5, 24, .inl fs)), ((o 3), .inl (D.1 5, 26, .inl fl)), ((o 4), .inl (D.1 5, 10, .inl fn))]) 0 0 := by
  refine MU.enter (by decide) [(0, .ref (o 0)), (1, .int (nI k)), (2, .int (nI w))] rfl (Nat.le_of_ble_eq_true rfl) (fun G hC hE => ?_)
  have hC : CX G D cX4_ja RX4 3 := hC
  refine k_aload_n hC 0 dX4_ja_0 rfl ?_
  refine k_getf hC 1 0 1 dX4_ja_1 rfl rfl inlX4 (by decide) wq_3_4 rfl ?_
  refine k_iconst hC 4 dX4_ja_4 (nI 4) (by decide) ?_
  refine k_iload_n hC 5 dX4_ja_5 rfl ?_
  refine n_imul hC 6 (4 * k) dX4_ja_6 rfl ?_
  refine k_iload_n hC 7 dX4_ja_7 rfl ?_
  refine n_iadd hC 8 ((4 * k) + w) dX4_ja_8 rfl ?_
  refine n_iald hC 9 1 (fj ((4 * k) + w)) dX4_ja_9 rfl (by omega) (by decide) rfl ?_
  exact k_iret hC hE 10 () dX4_ja_10 rfl rfl rfl ⟨Nat.zero_le _, Nat.zero_le _⟩
set_option maxHeartbeats 4000000 in
set_option maxRecDepth 100000 in
/-- m_many -/
theorem m_many (l : Launch) (D : va_G) (o : Nat → Nat) (th : Int32) (fj fs fl fn : Nat → Int32) (sh : Nat)  (hs : sh < 2) : MU l yX4_many cX4_many 2 (some .int) 0 0 D [.ref (o 0), .int (nI sh)] [((o 0), .inr (4, [.int th, .ref (o 1), .ref (o 2), .ref (o 3), .ref (o 4)])), ((o 1), .inl (D.1 5, 160, .inl fj)), ((o 2), .inl (D.1 5, 24, .inl fs)), ((o 3), .inl (D.1 5, 26, .inl fl)), ((o 4), .inl (D.1 5, 10, .inl fn))] (fun v (_ : Unit) => v = some (.int (fn (6 + sh)))) (fun _ => [((o 0), .inr (4, [.int th, .ref (o 1), .ref (o 2), .ref (o 3), .ref (o 4)])), ((o 1), .inl (D.1 5, 160, .inl fj)), ((o 2), .inl (D.1 5, 24, .inl fs)), ((o 3), .inl (D.1 5, 26, .inl fl)), ((o 4), .inl (D.1 5, 10, .inl fn))]) 0 0 := by
  refine MU.enter (by decide) [(0, .ref (o 0)), (1, .int (nI sh))] rfl (Nat.le_of_ble_eq_true rfl) (fun G hC hE => ?_)
  have hC : CX G D cX4_many RX4 2 := hC
  refine k_aload_n hC 0 dX4_many_0 rfl ?_
  refine k_getf hC 1 0 4 dX4_many_1 rfl rfl inlX4 (by decide) wq_3_7 rfl ?_
  refine k_bipush hC 4 dX4_many_4 (nI 6) (by decide) ?_
  refine k_iload_n hC 6 dX4_many_6 rfl ?_
  refine n_iadd hC 7 (6 + sh) dX4_many_7 rfl ?_
  refine n_iald hC 8 4 (fn (6 + sh)) dX4_many_8 rfl (by omega) (by decide) rfl ?_
  exact k_iret hC hE 9 () dX4_many_9 rfl rfl rfl ⟨Nat.zero_le _, Nat.zero_le _⟩
set_option maxHeartbeats 4000000 in
set_option maxRecDepth 100000 in
/-- m_listed -/
theorem m_listed (l : Launch) (D : va_G) (o : Nat → Nat) (th : Int32) (fj fs fl fn : Nat → Int32) (sh : Nat)  (hs : sh < 2) : MU l yX4_listed cX4_listed 2 (some .int) 0 0 D [.ref (o 0), .int (nI sh)] [((o 0), .inr (4, [.int th, .ref (o 1), .ref (o 2), .ref (o 3), .ref (o 4)])), ((o 1), .inl (D.1 5, 160, .inl fj)), ((o 2), .inl (D.1 5, 24, .inl fs)), ((o 3), .inl (D.1 5, 26, .inl fl)), ((o 4), .inl (D.1 5, 10, .inl fn))] (fun v (_ : Unit) => v = some (.int (fn (8 + sh)))) (fun _ => [((o 0), .inr (4, [.int th, .ref (o 1), .ref (o 2), .ref (o 3), .ref (o 4)])), ((o 1), .inl (D.1 5, 160, .inl fj)), ((o 2), .inl (D.1 5, 24, .inl fs)), ((o 3), .inl (D.1 5, 26, .inl fl)), ((o 4), .inl (D.1 5, 10, .inl fn))]) 0 0 := by
  refine MU.enter (by decide) [(0, .ref (o 0)), (1, .int (nI sh))] rfl (Nat.le_of_ble_eq_true rfl) (fun G hC hE => ?_)
  have hC : CX G D cX4_listed RX4 2 := hC
  refine k_aload_n hC 0 dX4_listed_0 rfl ?_
  refine k_getf hC 1 0 4 dX4_listed_1 rfl rfl inlX4 (by decide) wq_3_7 rfl ?_
  refine k_bipush hC 4 dX4_listed_4 (nI 8) (by decide) ?_
  refine k_iload_n hC 6 dX4_listed_6 rfl ?_
  refine n_iadd hC 7 (8 + sh) dX4_listed_7 rfl ?_
  refine n_iald hC 8 4 (fn (8 + sh)) dX4_listed_8 rfl (by omega) (by decide) rfl ?_
  exact k_iret hC hE 9 () dX4_listed_9 rfl rfl rfl ⟨Nat.zero_le _, Nat.zero_le _⟩
set_option maxHeartbeats 4000000 in
set_option maxRecDepth 100000 in
/-- m_kindAt -/
theorem m_kindAt (l : Launch) (D : va_G) (o : Nat → Nat) (th : Int32) (fj fs fl fn : Nat → Int32) (sh p : Nat)  (hp : 12 * sh + p < 24) : MU l yX4_kindAt cX4_kindAt 3 (some .int) 0 0 D [.ref (o 0), .int (nI sh), .int (nI p)] [((o 0), .inr (4, [.int th, .ref (o 1), .ref (o 2), .ref (o 3), .ref (o 4)])), ((o 1), .inl (D.1 5, 160, .inl fj)), ((o 2), .inl (D.1 5, 24, .inl fs)), ((o 3), .inl (D.1 5, 26, .inl fl)), ((o 4), .inl (D.1 5, 10, .inl fn))] (fun v (_ : Unit) => v = some (.int (fs (12 * sh + p)))) (fun _ => [((o 0), .inr (4, [.int th, .ref (o 1), .ref (o 2), .ref (o 3), .ref (o 4)])), ((o 1), .inl (D.1 5, 160, .inl fj)), ((o 2), .inl (D.1 5, 24, .inl fs)), ((o 3), .inl (D.1 5, 26, .inl fl)), ((o 4), .inl (D.1 5, 10, .inl fn))]) 0 0 := by
  refine MU.enter (by decide) [(0, .ref (o 0)), (1, .int (nI sh)), (2, .int (nI p))] rfl (Nat.le_of_ble_eq_true rfl) (fun G hC hE => ?_)
  have hC : CX G D cX4_kindAt RX4 3 := hC
  refine k_aload_n hC 0 dX4_kindAt_0 rfl ?_
  refine k_getf hC 1 0 2 dX4_kindAt_1 rfl rfl inlX4 (by decide) wq_3_5 rfl ?_
  refine k_bipush hC 4 dX4_kindAt_4 (nI 12) (by decide) ?_
  refine k_iload_n hC 6 dX4_kindAt_6 rfl ?_
  refine n_imul hC 7 (12 * sh) dX4_kindAt_7 rfl ?_
  refine k_iload_n hC 8 dX4_kindAt_8 rfl ?_
  refine n_iadd hC 9 ((12 * sh) + p) dX4_kindAt_9 rfl ?_
  refine n_iald hC 10 2 (fs ((12 * sh) + p)) dX4_kindAt_10 rfl (by omega) (by decide) rfl ?_
  exact k_iret hC hE 11 () dX4_kindAt_11 rfl rfl rfl ⟨Nat.zero_le _, Nat.zero_le _⟩
set_option maxHeartbeats 4000000 in
set_option maxRecDepth 100000 in
/-- m_listedAt -/
theorem m_listedAt (l : Launch) (D : va_G) (o : Nat → Nat) (th : Int32) (fj fs fl fn : Nat → Int32) (sh p : Nat)  (hp : 13 * sh + p < 26) : MU l yX4_listedAt cX4_listedAt 3 (some .int) 0 0 D [.ref (o 0), .int (nI sh), .int (nI p)] [((o 0), .inr (4, [.int th, .ref (o 1), .ref (o 2), .ref (o 3), .ref (o 4)])), ((o 1), .inl (D.1 5, 160, .inl fj)), ((o 2), .inl (D.1 5, 24, .inl fs)), ((o 3), .inl (D.1 5, 26, .inl fl)), ((o 4), .inl (D.1 5, 10, .inl fn))] (fun v (_ : Unit) => v = some (.int (fl (13 * sh + p)))) (fun _ => [((o 0), .inr (4, [.int th, .ref (o 1), .ref (o 2), .ref (o 3), .ref (o 4)])), ((o 1), .inl (D.1 5, 160, .inl fj)), ((o 2), .inl (D.1 5, 24, .inl fs)), ((o 3), .inl (D.1 5, 26, .inl fl)), ((o 4), .inl (D.1 5, 10, .inl fn))]) 0 0 := by
  refine MU.enter (by decide) [(0, .ref (o 0)), (1, .int (nI sh)), (2, .int (nI p))] rfl (Nat.le_of_ble_eq_true rfl) (fun G hC hE => ?_)
  have hC : CX G D cX4_listedAt RX4 3 := hC
  refine k_aload_n hC 0 dX4_listedAt_0 rfl ?_
  refine k_getf hC 1 0 3 dX4_listedAt_1 rfl rfl inlX4 (by decide) wq_3_6 rfl ?_
  refine k_bipush hC 4 dX4_listedAt_4 (nI 13) (by decide) ?_
  refine k_iload_n hC 6 dX4_listedAt_6 rfl ?_
  refine n_imul hC 7 (13 * sh) dX4_listedAt_7 rfl ?_
  refine k_iload_n hC 8 dX4_listedAt_8 rfl ?_
  refine n_iadd hC 9 ((13 * sh) + p) dX4_listedAt_9 rfl ?_
  refine n_iald hC 10 3 (fl ((13 * sh) + p)) dX4_listedAt_10 rfl (by omega) (by decide) rfl ?_
  exact k_iret hC hE 11 () dX4_listedAt_11 rfl rfl rfl ⟨Nat.zero_le _, Nat.zero_le _⟩
set_option maxHeartbeats 4000000 in
set_option maxRecDepth 100000 in
/-- m_isThere -/
theorem m_isThere (l : Launch) (D : va_G) (o : Nat → Nat) (th : Int32) (fj fs fl fn : Nat → Int32) (N T : List Nat) (k : Nat)  (hk : k < 40) (hf : fj (4 * k) = sfI N T k) : MU l yX4_isThere cX4_isThere 2 (some .boolean) 1 22 D [.ref (o 0), .int (nI k)] [((o 0), .inr (4, [.int th, .ref (o 1), .ref (o 2), .ref (o 3), .ref (o 4)])), ((o 1), .inl (D.1 5, 160, .inl fj)), ((o 2), .inl (D.1 5, 24, .inl fs)), ((o 3), .inl (D.1 5, 26, .inl fl)), ((o 4), .inl (D.1 5, 10, .inl fn))] (fun v (_ : Unit) => v = some (.int (nI (yn (k ∈ N ∨ k ∈ T))))) (fun _ => [((o 0), .inr (4, [.int th, .ref (o 1), .ref (o 2), .ref (o 3), .ref (o 4)])), ((o 1), .inl (D.1 5, 160, .inl fj)), ((o 2), .inl (D.1 5, 24, .inl fs)), ((o 3), .inl (D.1 5, 26, .inl fl)), ((o 4), .inl (D.1 5, 10, .inl fn))]) 0 0 := by
  refine MU.enter (by decide) [(0, .ref (o 0)), (1, .int (nI k))] rfl (Nat.le_of_ble_eq_true rfl) (fun G hC hE => ?_)
  have hC : CX G D cX4_isThere RX4 2 := hC
  refine k_aload_n hC 0 dX4_isThere_0 rfl ?_
  refine k_iload_n hC 1 dX4_isThere_1 rfl ?_
  refine k_iconst hC 2 dX4_isThere_2 (nI 0) (by decide) ?_
  refine k_callVr hC 3 0 [0, 1, 2, 3, 4] (m_ja l D o th fj fs fl fn k 0 hk (by decide)) cw_RX4_30 dX4_isThere_3 ⟨Nat.le_of_ble_eq_true rfl, Nat.le_of_ble_eq_true rfl, Nat.le_of_ble_eq_true rfl, Nat.le_of_ble_eq_true rfl⟩ rfl (Nat.le_of_ble_eq_true rfl) rfl rfl rfl (by decide) rfl (fun _ => Nat.le_of_ble_eq_true rfl) (fun _ => rfl) _ rfl (fun v u hp => ?_)
  obtain rfl := hp
  refine KJ.eqs (st' := .int (fj (4 * k + 0)) :: []) rfl ?_
  refine KJ.topi (y := (sfI N T k)) hf ?_
  refine k_iconst hC 6 dX4_isThere_6 (-1) (by decide) ?_
  refine k_icmp_eq hC 7 14 dX4_isThere_7 (by decide) (fun h7 => ?_) (fun h7 => ?_)
  · skip
    refine k_iconst hC 14 dX4_isThere_14 (nI 0) (by decide) ?_
    exact k_iret hC hE 15 () dX4_isThere_15 rfl (by rw [yn_f (sfI_m1.mp h7)]) rfl ⟨Nat.zero_le _, Nat.zero_le _⟩
  · skip
    refine k_iconst hC 10 dX4_isThere_10 (nI 1) (by decide) ?_
    refine k_goto hC 11 15 dX4_isThere_11 (by decide) ?_
    exact k_iret hC hE 15 () dX4_isThere_15 rfl (by rw [yn_t (Classical.byContradiction (fun z => h7 (sfI_m1.mpr z)))]) rfl ⟨Nat.zero_le _, Nat.zero_le _⟩
set_option maxHeartbeats 4000000 in
set_option maxRecDepth 100000 in
/-- m_all -/
theorem m_all (l : Launch) (D : va_G) (o : Nat → Nat) (th : Int32) (fj fs fl fn : Nat → Int32) (a b : Nat)  (h6 : fn 6 = nI a) (h7 : fn 7 = nI b) : MU l yX4_all cX4_all 1 (some .int) 1 21 D [.ref (o 0)] [((o 0), .inr (4, [.int th, .ref (o 1), .ref (o 2), .ref (o 3), .ref (o 4)])), ((o 1), .inl (D.1 5, 160, .inl fj)), ((o 2), .inl (D.1 5, 24, .inl fs)), ((o 3), .inl (D.1 5, 26, .inl fl)), ((o 4), .inl (D.1 5, 10, .inl fn))] (fun v (_ : Unit) => v = some (.int (nI (a + b)))) (fun _ => [((o 0), .inr (4, [.int th, .ref (o 1), .ref (o 2), .ref (o 3), .ref (o 4)])), ((o 1), .inl (D.1 5, 160, .inl fj)), ((o 2), .inl (D.1 5, 24, .inl fs)), ((o 3), .inl (D.1 5, 26, .inl fl)), ((o 4), .inl (D.1 5, 10, .inl fn))]) 0 0 := by
  refine MU.enter (by decide) [(0, .ref (o 0))] rfl (Nat.le_of_ble_eq_true rfl) (fun G hC hE => ?_)
  have hC : CX G D cX4_all RX4 1 := hC
  refine k_aload_n hC 0 dX4_all_0 rfl ?_
  refine k_iconst hC 1 dX4_all_1 (nI 0) (by decide) ?_
  refine k_callVr hC 2 0 [0, 1, 2, 3, 4] (m_many l D o th fj fs fl fn 0 (by decide)) cw_RX4_34 dX4_all_2 ⟨Nat.le_of_ble_eq_true rfl, Nat.le_of_ble_eq_true rfl, Nat.le_of_ble_eq_true rfl, Nat.le_of_ble_eq_true rfl⟩ rfl (Nat.le_of_ble_eq_true rfl) rfl rfl rfl (by decide) rfl (fun _ => Nat.le_of_ble_eq_true rfl) (fun _ => rfl) _ rfl (fun v u hp => ?_)
  obtain rfl := hp
  refine KJ.eqs (st' := .int (fn (6 + 0)) :: []) rfl ?_
  refine KJ.topi (y := (nI a)) h6 ?_
  refine k_aload_n hC 5 dX4_all_5 rfl ?_
  refine k_iconst hC 6 dX4_all_6 (nI 1) (by decide) ?_
  refine k_callVr hC 7 0 [0, 1, 2, 3, 4] (m_many l D o th fj fs fl fn 1 (by decide)) cw_RX4_34 dX4_all_7 ⟨Nat.le_of_ble_eq_true rfl, Nat.le_of_ble_eq_true rfl, Nat.le_of_ble_eq_true rfl, Nat.le_of_ble_eq_true rfl⟩ rfl (Nat.le_of_ble_eq_true rfl) rfl rfl rfl (by decide) rfl (fun _ => Nat.le_of_ble_eq_true rfl) (fun _ => rfl) _ rfl (fun v u hp => ?_)
  obtain rfl := hp
  refine KJ.eqs (st' := .int (fn (6 + 1)) :: .int (nI a) :: []) rfl ?_
  refine KJ.topi (y := (nI b)) h7 ?_
  refine n_iadd hC 10 (a + b) dX4_all_10 rfl ?_
  exact k_iret hC hE 11 () dX4_all_11 rfl rfl rfl ⟨Nat.zero_le _, Nat.zero_le _⟩
set_option maxHeartbeats 4000000 in
set_option maxRecDepth 100000 in
/-- m_putLast -/
theorem m_putLast (l : Launch) (D : va_G) (o : Nat → Nat) (th : Int32) (fj fs fl fn : Nat → Int32) (sh c k : Nat)  (hs : sh < 2) (hc : fn (6 + sh) = nI c) (hcc : 12 * sh + c < 24) (hk : k < 40) : MU l yX4_putLast cX4_putLast 3 none 1 21 D [.ref (o 0), .int (nI sh), .int (nI k)] [((o 0), .inr (4, [.int th, .ref (o 1), .ref (o 2), .ref (o 3), .ref (o 4)])), ((o 1), .inl (D.1 5, 160, .inl fj)), ((o 2), .inl (D.1 5, 24, .inl fs)), ((o 3), .inl (D.1 5, 26, .inl fl)), ((o 4), .inl (D.1 5, 10, .inl fn))] (fun v (_ : Unit) => v = none) (fun _ => [((o 0), .inr (4, [.int th, .ref (o 1), .ref (o 2), .ref (o 3), .ref (o 4)])), ((o 1), .inl (D.1 5, 160, .inl (upd fj (4 * k) (nI sh)))), ((o 2), .inl (D.1 5, 24, .inl (upd fs (12 * sh + c) (nI k)))), ((o 3), .inl (D.1 5, 26, .inl fl)), ((o 4), .inl (D.1 5, 10, .inl (upd fn (6 + sh) (nI (c + 1)))))]) 0 0 := by
  refine MU.enter (by decide) [(0, .ref (o 0)), (1, .int (nI sh)), (2, .int (nI k))] rfl (Nat.le_of_ble_eq_true rfl) (fun G hC hE => ?_)
  have hC : CX G D cX4_putLast RX4 3 := hC
  refine k_aload_n hC 0 dX4_putLast_0 rfl ?_
  refine k_getf hC 1 0 2 dX4_putLast_1 rfl rfl inlX4 (by decide) wq_3_5 rfl ?_
  refine k_bipush hC 4 dX4_putLast_4 (nI 12) (by decide) ?_
  refine k_iload_n hC 6 dX4_putLast_6 rfl ?_
  refine n_imul hC 7 (12 * sh) dX4_putLast_7 rfl ?_
  refine k_aload_n hC 8 dX4_putLast_8 rfl ?_
  refine k_iload_n hC 9 dX4_putLast_9 rfl ?_
  refine k_callVr hC 10 0 [0, 1, 2, 3, 4] (m_many l D o th fj fs fl fn sh hs) cw_RX4_34 dX4_putLast_10 ⟨Nat.le_of_ble_eq_true rfl, Nat.le_of_ble_eq_true rfl, Nat.le_of_ble_eq_true rfl, Nat.le_of_ble_eq_true rfl⟩ rfl (Nat.le_of_ble_eq_true rfl) rfl rfl rfl (by decide) rfl (fun _ => Nat.le_of_ble_eq_true rfl) (fun _ => rfl) _ rfl (fun v u hp => ?_)
  obtain rfl := hp
  refine KJ.eqs (st' := .int (fn (6 + sh)) :: .int (nI (12 * sh)) :: .ref (o 2) :: []) rfl ?_
  refine KJ.topi (y := (nI c)) hc ?_
  refine n_iadd hC 13 ((12 * sh) + c) dX4_putLast_13 rfl ?_
  refine k_iload_n hC 14 dX4_putLast_14 rfl ?_
  refine n_iast hC 15 2 [((o 0), .inr (4, [.int th, .ref (o 1), .ref (o 2), .ref (o 3), .ref (o 4)])), ((o 1), .inl (D.1 5, 160, .inl fj)), ((o 2), .inl (D.1 5, 24, .inl (upd fs ((12 * sh) + c) (nI k)))), ((o 3), .inl (D.1 5, 26, .inl fl)), ((o 4), .inl (D.1 5, 10, .inl fn))] dX4_putLast_15 rfl (by omega) (by decide) rfl ?_
  refine k_aload_n hC 16 dX4_putLast_16 rfl ?_
  refine k_getf hC 17 0 4 dX4_putLast_17 rfl rfl inlX4 (by decide) wq_3_7 rfl ?_
  refine k_bipush hC 20 dX4_putLast_20 (nI 6) (by decide) ?_
  refine k_iload_n hC 22 dX4_putLast_22 rfl ?_
  refine n_iadd hC 23 (6 + sh) dX4_putLast_23 rfl ?_
  refine k_dup2 hC 24 dX4_putLast_24 rfl rfl ?_
  refine n_iald hC 25 4 (nI c) dX4_putLast_25 rfl (by omega) (by decide) hc ?_
  refine k_iconst hC 26 dX4_putLast_26 (nI 1) (by decide) ?_
  refine n_iadd hC 27 (c + 1) dX4_putLast_27 rfl ?_
  refine n_iast hC 28 4 [((o 0), .inr (4, [.int th, .ref (o 1), .ref (o 2), .ref (o 3), .ref (o 4)])), ((o 1), .inl (D.1 5, 160, .inl fj)), ((o 2), .inl (D.1 5, 24, .inl (upd fs ((12 * sh) + c) (nI k)))), ((o 3), .inl (D.1 5, 26, .inl fl)), ((o 4), .inl (D.1 5, 10, .inl (upd fn (6 + sh) (nI (c + 1)))))] dX4_putLast_28 rfl (by omega) (by decide) rfl ?_
  refine k_aload_n hC 29 dX4_putLast_29 rfl ?_
  refine k_getf hC 30 0 1 dX4_putLast_30 rfl rfl inlX4 (by decide) wq_3_4 rfl ?_
  refine k_iconst hC 33 dX4_putLast_33 (nI 4) (by decide) ?_
  refine k_iload_n hC 34 dX4_putLast_34 rfl ?_
  refine n_imul hC 35 (4 * k) dX4_putLast_35 rfl ?_
  refine k_iconst hC 36 dX4_putLast_36 (nI 0) (by decide) ?_
  refine n_iadd hC 37 (4 * k) dX4_putLast_37 (by omega) ?_
  refine k_iload_n hC 38 dX4_putLast_38 rfl ?_
  refine n_iast hC 39 1 [((o 0), .inr (4, [.int th, .ref (o 1), .ref (o 2), .ref (o 3), .ref (o 4)])), ((o 1), .inl (D.1 5, 160, .inl (upd fj (4 * k) (nI sh)))), ((o 2), .inl (D.1 5, 24, .inl (upd fs ((12 * sh) + c) (nI k)))), ((o 3), .inl (D.1 5, 26, .inl fl)), ((o 4), .inl (D.1 5, 10, .inl (upd fn (6 + sh) (nI (c + 1)))))] dX4_putLast_39 rfl (by omega) (by decide) rfl ?_
  exact k_vret hC hE 40 () dX4_putLast_40 rfl rfl ⟨Nat.zero_le _, Nat.zero_le _⟩
set_option maxHeartbeats 4000000 in
set_option maxRecDepth 100000 in
/-- m_takeOut -/
theorem m_takeOut (l : Launch) (D : va_G) (o : Nat → Nat) (th : Int32) (fj fs fl fn : Nat → Int32) (sh p c : Nat)  (hs : sh < 2) (hc : fn (6 + sh) = nI c) (hp : p < c) (hcc : c ≤ 12) : MU l yX4_takeOut cX4_takeOut 3 none 1 40 D [.ref (o 0), .int (nI sh), .int (nI p)] [((o 0), .inr (4, [.int th, .ref (o 1), .ref (o 2), .ref (o 3), .ref (o 4)])), ((o 1), .inl (D.1 5, 160, .inl fj)), ((o 2), .inl (D.1 5, 24, .inl fs)), ((o 3), .inl (D.1 5, 26, .inl fl)), ((o 4), .inl (D.1 5, 10, .inl fn))] (fun v (_ : Unit) => v = none) (fun _ => [((o 0), .inr (4, [.int th, .ref (o 1), .ref (o 2), .ref (o 3), .ref (o 4)])), ((o 1), .inl (D.1 5, 160, .inl fj)), ((o 2), .inl (D.1 5, 24, .inl (va_cpy fs fs (12 * sh + p + 1) (12 * sh + p) (c - 1 - p)))), ((o 3), .inl (D.1 5, 26, .inl fl)), ((o 4), .inl (D.1 5, 10, .inl (upd fn (6 + sh) (nI (c - 1)))))]) 0 0 := by
  refine MU.enter (by decide) [(0, .ref (o 0)), (1, .int (nI sh)), (2, .int (nI p))] rfl (Nat.le_of_ble_eq_true rfl) (fun G hC hE => ?_)
  have hC : CX G D cX4_takeOut RX4 3 := hC
  refine k_aload_n hC 0 dX4_takeOut_0 rfl ?_
  refine k_getf hC 1 0 4 dX4_takeOut_1 rfl rfl inlX4 (by decide) wq_3_7 rfl ?_
  refine k_bipush hC 4 dX4_takeOut_4 (nI 6) (by decide) ?_
  refine k_iload_n hC 6 dX4_takeOut_6 rfl ?_
  refine n_iadd hC 7 (6 + sh) dX4_takeOut_7 rfl ?_
  refine k_dup2 hC 8 dX4_takeOut_8 rfl rfl ?_
  refine n_iald hC 9 4 (nI c) dX4_takeOut_9 rfl (by omega) (by decide) hc ?_
  refine k_iconst hC 10 dX4_takeOut_10 (nI 1) (by decide) ?_
  refine n_isub hC 11 (c - 1) dX4_takeOut_11 (by omega) rfl ?_
  refine n_iast hC 12 4 [((o 0), .inr (4, [.int th, .ref (o 1), .ref (o 2), .ref (o 3), .ref (o 4)])), ((o 1), .inl (D.1 5, 160, .inl fj)), ((o 2), .inl (D.1 5, 24, .inl fs)), ((o 3), .inl (D.1 5, 26, .inl fl)), ((o 4), .inl (D.1 5, 10, .inl (upd fn (6 + sh) (nI (c - 1)))))] dX4_takeOut_12 rfl (by omega) (by decide) rfl ?_
  refine k_aload_n hC 13 dX4_takeOut_13 rfl ?_
  refine k_getf hC 14 0 2 dX4_takeOut_14 rfl rfl inlX4 (by decide) wq_3_5 rfl ?_
  refine k_bipush hC 17 dX4_takeOut_17 (nI 12) (by decide) ?_
  refine k_iload_n hC 19 dX4_takeOut_19 rfl ?_
  refine n_imul hC 20 (12 * sh) dX4_takeOut_20 rfl ?_
  refine k_iload_n hC 21 dX4_takeOut_21 rfl ?_
  refine n_iadd hC 22 ((12 * sh) + p) dX4_takeOut_22 rfl ?_
  refine k_iconst hC 23 dX4_takeOut_23 (nI 1) (by decide) ?_
  refine n_iadd hC 24 (((12 * sh) + p) + 1) dX4_takeOut_24 rfl ?_
  refine k_aload_n hC 25 dX4_takeOut_25 rfl ?_
  refine k_getf hC 26 0 2 dX4_takeOut_26 rfl rfl inlX4 (by decide) wq_3_5 rfl ?_
  refine k_bipush hC 29 dX4_takeOut_29 (nI 12) (by decide) ?_
  refine k_iload_n hC 31 dX4_takeOut_31 rfl ?_
  refine n_imul hC 32 (12 * sh) dX4_takeOut_32 rfl ?_
  refine k_iload_n hC 33 dX4_takeOut_33 rfl ?_
  refine n_iadd hC 34 ((12 * sh) + p) dX4_takeOut_34 rfl ?_
  refine k_aload_n hC 35 dX4_takeOut_35 rfl ?_
  refine k_iload_n hC 36 dX4_takeOut_36 rfl ?_
  refine k_callVr hC 37 0 [0, 1, 2, 3, 4] (m_many l D o th fj fs fl (upd fn (6 + sh) (nI (c - 1))) sh hs) cw_RX4_34 dX4_takeOut_37 ⟨Nat.le_of_ble_eq_true rfl, Nat.le_of_ble_eq_true rfl, Nat.le_of_ble_eq_true rfl, Nat.le_of_ble_eq_true rfl⟩ rfl (Nat.le_of_ble_eq_true rfl) rfl rfl rfl (by decide) rfl (fun _ => Nat.le_of_ble_eq_true rfl) (fun _ => rfl) _ rfl (fun v u hp => ?_)
  obtain rfl := hp
  refine KJ.eqs (st' := .int ((upd fn (6 + sh) (nI (c - 1))) (6 + sh)) :: .int (nI ((12 * sh) + p)) :: .ref (o 2) :: .int (nI (((12 * sh) + p) + 1)) :: .ref (o 2) :: []) rfl ?_
  refine KJ.topi (y := (nI (c - 1))) (upd_s _ _ _) ?_
  refine k_iload_n hC 40 dX4_takeOut_40 rfl ?_
  refine n_isub hC 41 ((c - 1) - p) dX4_takeOut_41 (by omega) rfl ?_
  refine k_copy hC 42 (sp := ((12 * sh) + p) + 1) (dp := (12 * sh) + p) (n := (c - 1) - p) 2 2 [((o 0), .inr (4, [.int th, .ref (o 1), .ref (o 2), .ref (o 3), .ref (o 4)])), ((o 1), .inl (D.1 5, 160, .inl fj)), ((o 2), .inl (D.1 5, 24, .inl (va_cpy fs fs (((12 * sh) + p) + 1) ((12 * sh) + p) ((c - 1) - p)))), ((o 3), .inl (D.1 5, 26, .inl fl)), ((o 4), .inl (D.1 5, 10, .inl (upd fn (6 + sh) (nI (c - 1)))))] dX4_takeOut_42 wq_10_0 wq_10_1 wq_10_2 wq_10_3 ⟨Nat.le_of_ble_eq_true rfl, Nat.le_of_ble_eq_true rfl⟩ rfl rfl ⟨by decide, by decide⟩ (by omega) (by omega) rfl ?_
  exact k_vret hC hE 45 () dX4_takeOut_45 rfl rfl ⟨Nat.zero_le _, Nat.zero_le _⟩
set_option maxHeartbeats 4000000 in
set_option maxRecDepth 100000 in
/-- m_takeOff -/
theorem m_takeOff (l : Launch) (D : va_G) (o : Nat → Nat) (th : Int32) (fj fs fl fn : Nat → Int32) (sh p c : Nat)  (hs : sh < 2) (hc : fn (8 + sh) = nI c) (hp : p < c) (hcc : c ≤ 13) : MU l yX4_takeOff cX4_takeOff 3 none 1 40 D [.ref (o 0), .int (nI sh), .int (nI p)] [((o 0), .inr (4, [.int th, .ref (o 1), .ref (o 2), .ref (o 3), .ref (o 4)])), ((o 1), .inl (D.1 5, 160, .inl fj)), ((o 2), .inl (D.1 5, 24, .inl fs)), ((o 3), .inl (D.1 5, 26, .inl fl)), ((o 4), .inl (D.1 5, 10, .inl fn))] (fun v (_ : Unit) => v = none) (fun _ => [((o 0), .inr (4, [.int th, .ref (o 1), .ref (o 2), .ref (o 3), .ref (o 4)])), ((o 1), .inl (D.1 5, 160, .inl fj)), ((o 2), .inl (D.1 5, 24, .inl fs)), ((o 3), .inl (D.1 5, 26, .inl (va_cpy fl fl (13 * sh + p + 1) (13 * sh + p) (c - 1 - p)))), ((o 4), .inl (D.1 5, 10, .inl (upd fn (8 + sh) (nI (c - 1)))))]) 0 0 := by
  refine MU.enter (by decide) [(0, .ref (o 0)), (1, .int (nI sh)), (2, .int (nI p))] rfl (Nat.le_of_ble_eq_true rfl) (fun G hC hE => ?_)
  have hC : CX G D cX4_takeOff RX4 3 := hC
  refine k_aload_n hC 0 dX4_takeOff_0 rfl ?_
  refine k_getf hC 1 0 4 dX4_takeOff_1 rfl rfl inlX4 (by decide) wq_3_7 rfl ?_
  refine k_bipush hC 4 dX4_takeOff_4 (nI 8) (by decide) ?_
  refine k_iload_n hC 6 dX4_takeOff_6 rfl ?_
  refine n_iadd hC 7 (8 + sh) dX4_takeOff_7 rfl ?_
  refine k_dup2 hC 8 dX4_takeOff_8 rfl rfl ?_
  refine n_iald hC 9 4 (nI c) dX4_takeOff_9 rfl (by omega) (by decide) hc ?_
  refine k_iconst hC 10 dX4_takeOff_10 (nI 1) (by decide) ?_
  refine n_isub hC 11 (c - 1) dX4_takeOff_11 (by omega) rfl ?_
  refine n_iast hC 12 4 [((o 0), .inr (4, [.int th, .ref (o 1), .ref (o 2), .ref (o 3), .ref (o 4)])), ((o 1), .inl (D.1 5, 160, .inl fj)), ((o 2), .inl (D.1 5, 24, .inl fs)), ((o 3), .inl (D.1 5, 26, .inl fl)), ((o 4), .inl (D.1 5, 10, .inl (upd fn (8 + sh) (nI (c - 1)))))] dX4_takeOff_12 rfl (by omega) (by decide) rfl ?_
  refine k_aload_n hC 13 dX4_takeOff_13 rfl ?_
  refine k_getf hC 14 0 3 dX4_takeOff_14 rfl rfl inlX4 (by decide) wq_3_6 rfl ?_
  refine k_bipush hC 17 dX4_takeOff_17 (nI 13) (by decide) ?_
  refine k_iload_n hC 19 dX4_takeOff_19 rfl ?_
  refine n_imul hC 20 (13 * sh) dX4_takeOff_20 rfl ?_
  refine k_iload_n hC 21 dX4_takeOff_21 rfl ?_
  refine n_iadd hC 22 ((13 * sh) + p) dX4_takeOff_22 rfl ?_
  refine k_iconst hC 23 dX4_takeOff_23 (nI 1) (by decide) ?_
  refine n_iadd hC 24 (((13 * sh) + p) + 1) dX4_takeOff_24 rfl ?_
  refine k_aload_n hC 25 dX4_takeOff_25 rfl ?_
  refine k_getf hC 26 0 3 dX4_takeOff_26 rfl rfl inlX4 (by decide) wq_3_6 rfl ?_
  refine k_bipush hC 29 dX4_takeOff_29 (nI 13) (by decide) ?_
  refine k_iload_n hC 31 dX4_takeOff_31 rfl ?_
  refine n_imul hC 32 (13 * sh) dX4_takeOff_32 rfl ?_
  refine k_iload_n hC 33 dX4_takeOff_33 rfl ?_
  refine n_iadd hC 34 ((13 * sh) + p) dX4_takeOff_34 rfl ?_
  refine k_aload_n hC 35 dX4_takeOff_35 rfl ?_
  refine k_iload_n hC 36 dX4_takeOff_36 rfl ?_
  refine k_callVr hC 37 0 [0, 1, 2, 3, 4] (m_listed l D o th fj fs fl (upd fn (8 + sh) (nI (c - 1))) sh hs) cw_RX4_44 dX4_takeOff_37 ⟨Nat.le_of_ble_eq_true rfl, Nat.le_of_ble_eq_true rfl, Nat.le_of_ble_eq_true rfl, Nat.le_of_ble_eq_true rfl⟩ rfl (Nat.le_of_ble_eq_true rfl) rfl rfl rfl (by decide) rfl (fun _ => Nat.le_of_ble_eq_true rfl) (fun _ => rfl) _ rfl (fun v u hp => ?_)
  obtain rfl := hp
  refine KJ.eqs (st' := .int ((upd fn (8 + sh) (nI (c - 1))) (8 + sh)) :: .int (nI ((13 * sh) + p)) :: .ref (o 3) :: .int (nI (((13 * sh) + p) + 1)) :: .ref (o 3) :: []) rfl ?_
  refine KJ.topi (y := (nI (c - 1))) (upd_s _ _ _) ?_
  refine k_iload_n hC 40 dX4_takeOff_40 rfl ?_
  refine n_isub hC 41 ((c - 1) - p) dX4_takeOff_41 (by omega) rfl ?_
  refine k_copy hC 42 (sp := ((13 * sh) + p) + 1) (dp := (13 * sh) + p) (n := (c - 1) - p) 3 3 [((o 0), .inr (4, [.int th, .ref (o 1), .ref (o 2), .ref (o 3), .ref (o 4)])), ((o 1), .inl (D.1 5, 160, .inl fj)), ((o 2), .inl (D.1 5, 24, .inl fs)), ((o 3), .inl (D.1 5, 26, .inl (va_cpy fl fl (((13 * sh) + p) + 1) ((13 * sh) + p) ((c - 1) - p)))), ((o 4), .inl (D.1 5, 10, .inl (upd fn (8 + sh) (nI (c - 1)))))] dX4_takeOff_42 wq_10_0 wq_10_1 wq_10_2 wq_10_3 ⟨Nat.le_of_ble_eq_true rfl, Nat.le_of_ble_eq_true rfl⟩ rfl rfl ⟨by decide, by decide⟩ (by omega) (by omega) rfl ?_
  exact k_vret hC hE 45 () dX4_takeOff_45 rfl rfl ⟨Nat.zero_le _, Nat.zero_le _⟩
/-! PinnedPantryModel: what its rows tell -/
set_option maxHeartbeats 4000000 in
set_option maxRecDepth 100000 in
/-- isIn -/
theorem m_isIn (l : Launch) (D : va_G) (x a b : Int32)  : MU l yX4_isIn cX4_isIn 3 (some .boolean) 0 0 D [.int x, .int a, .int b] [] (fun v (_ : Unit) => ∃ c : Nat, v = some (.int (nI c)) ∧ c ≤ 1 ∧ (c ≠ 0 ↔ ¬ x < a ∧ x ≤ b)) (fun _ => []) 0 0 := by
  refine MU.enter (by decide) [(0, .int x), (1, .int a), (2, .int b)] rfl (Nat.le_of_ble_eq_true rfl) (fun G hC hE => ?_)
  have hC : CX G D cX4_isIn RX4 3 := hC
  refine k_iload_n hC 0 dX4_isIn_0 rfl ?_
  refine k_iload_n hC 1 dX4_isIn_1 rfl ?_
  refine k_icmp_lt hC 2 14 dX4_isIn_2 (by decide) (fun h2 => ?_) (fun h2 => ?_)
  · skip
    refine k_iconst hC 14 dX4_isIn_14 (nI 0) (by decide) ?_
    exact k_iret hC hE 15 () dX4_isIn_15 rfl (by first | exact ⟨0, rfl, by decide, fun h => absurd rfl h, fun z => absurd h2 z.1⟩ | exact ⟨0, rfl, by decide, fun h => absurd rfl h, fun z => absurd h7 (Int32.not_lt.mpr z.2)⟩) rfl ⟨Nat.zero_le _, Nat.zero_le _⟩
  · skip
    refine k_iload_n hC 5 dX4_isIn_5 rfl ?_
    refine k_iload_n hC 6 dX4_isIn_6 rfl ?_
    refine k_icmp_gt hC 7 14 dX4_isIn_7 (by decide) (fun h7 => ?_) (fun h7 => ?_)
    · skip
      refine k_iconst hC 14 dX4_isIn_14 (nI 0) (by decide) ?_
      exact k_iret hC hE 15 () dX4_isIn_15 rfl (by first | exact ⟨0, rfl, by decide, fun h => absurd rfl h, fun z => absurd h2 z.1⟩ | exact ⟨0, rfl, by decide, fun h => absurd rfl h, fun z => absurd h7 (Int32.not_lt.mpr z.2)⟩) rfl ⟨Nat.zero_le _, Nat.zero_le _⟩
    · skip
      refine k_iconst hC 10 dX4_isIn_10 (nI 1) (by decide) ?_
      refine k_goto hC 11 15 dX4_isIn_11 (by decide) ?_
      exact k_iret hC hE 15 () dX4_isIn_15 rfl (⟨1, rfl, by decide, fun _ => ⟨h2, Int32.not_lt.mp h7⟩, fun _ => by decide⟩) rfl ⟨Nat.zero_le _, Nat.zero_le _⟩
set_option maxHeartbeats 4000000 in
set_option maxRecDepth 100000 in
/-- isKind -/
theorem m_isKind (l : Launch) (D : va_G) (p : Int32)  : MU l yX4_isKind cX4_isKind 1 (some .boolean) 1 22 D [.int p] [] (fun v (_ : Unit) => ∃ c : Nat, v = some (.int (nI c)) ∧ c ≤ 1 ∧ (c ≠ 0 ↔ Ck p)) (fun _ => []) 0 0 := by
  refine MU.enter (by decide) [(0, .int p)] rfl (Nat.le_of_ble_eq_true rfl) (fun G hC hE => ?_)
  have hC : CX G D cX4_isKind RX4 1 := hC
  refine k_iload_n hC 0 dX4_isKind_0 rfl ?_
  refine k_iconst hC 1 dX4_isKind_1 (nI 0) (by decide) ?_
  refine k_bipush hC 2 dX4_isKind_2 (nI 39) (by decide) ?_
  refine k_callSr hC 4 [] (m_isIn l D p (nI 0) (nI 39)) cw_RX4_26 dX4_isKind_4 ⟨Nat.le_of_ble_eq_true rfl, Nat.le_of_ble_eq_true rfl, Nat.le_of_ble_eq_true rfl, Nat.le_of_ble_eq_true rfl⟩ rfl (Nat.le_of_ble_eq_true rfl) (by decide) rfl (fun _ => Nat.le_of_ble_eq_true rfl) (fun _ => rfl) _ rfl (fun v u hp => ?_)
  obtain ⟨c, rfl, hc1, hc⟩ := hp
  refine KJ.eqs (st' := .int (nI c) :: []) rfl ?_
  exact k_iret hC hE 7 () dX4_isKind_7 (by rcases (show c = 0 ∨ c = 1 by omega) with e | e <;> rw [e] <;> rfl) (⟨c, rfl, hc1, hc.trans Ck_in⟩) rfl ⟨Nat.zero_le _, Nat.zero_le _⟩
set_option maxHeartbeats 4000000 in
set_option maxRecDepth 100000 in
/-- m_wrong -/
theorem m_wrong (l : Launch) (D : va_G) (o : Nat → Nat) (th : Int32) (fj fs fl fn : Nat → Int32) (p0 p1 p2 : Int32)  : MU l yX4_wrong cX4_wrong 4 (some .int) 2 42 D [.ref (o 0), .int p0, .int p1, .int p2] [((o 0), .inr (4, [.int th, .ref (o 1), .ref (o 2), .ref (o 3), .ref (o 4)])), ((o 1), .inl (D.1 5, 160, .inl fj)), ((o 2), .inl (D.1 5, 24, .inl fs)), ((o 3), .inl (D.1 5, 26, .inl fl)), ((o 4), .inl (D.1 5, 10, .inl fn))] (fun v (_ : Unit) => v = some (.int (nI (serK p0 p1 p2)))) (fun _ => [((o 0), .inr (4, [.int th, .ref (o 1), .ref (o 2), .ref (o 3), .ref (o 4)])), ((o 1), .inl (D.1 5, 160, .inl fj)), ((o 2), .inl (D.1 5, 24, .inl fs)), ((o 3), .inl (D.1 5, 26, .inl fl)), ((o 4), .inl (D.1 5, 10, .inl fn))]) 0 0 := by
  refine MU.enter (by decide) [(0, .ref (o 0)), (1, .int p0), (2, .int p1), (3, .int p2)] rfl (Nat.le_of_ble_eq_true rfl) (fun G hC hE => ?_)
  have hC : CX G D cX4_wrong RX4 4 := hC
  refine k_iload_n hC 0 dX4_wrong_0 rfl ?_
  refine k_callSr hC 1 [] (m_isKind l D p0) cw_RX4_101 dX4_wrong_1 ⟨Nat.le_of_ble_eq_true rfl, Nat.le_of_ble_eq_true rfl, Nat.le_of_ble_eq_true rfl, Nat.le_of_ble_eq_true rfl⟩ rfl (Nat.le_of_ble_eq_true rfl) (by decide) rfl (fun _ => Nat.le_of_ble_eq_true rfl) (fun _ => rfl) _ rfl (fun v u hp => ?_)
  obtain ⟨c, rfl, hc1, hc⟩ := hp
  refine KJ.eqs (st' := .int (nI c) :: []) rfl ?_
  refine n_if_ne hC 4 11 dX4_wrong_4 (by decide) (by omega) (fun h4 => ?_) (fun h4 => ?_)
  · skip
    refine k_iload_n hC 11 dX4_wrong_11 rfl ?_
    refine k_iconst hC 12 dX4_wrong_12 (nI 0) (by decide) ?_
    refine k_bipush hC 13 dX4_wrong_13 (nI 39) (by decide) ?_
    refine k_callSr hC 15 [] (m_isIn l D p1 (nI 0) (nI 39)) cw_RX4_26 dX4_wrong_15 ⟨Nat.le_of_ble_eq_true rfl, Nat.le_of_ble_eq_true rfl, Nat.le_of_ble_eq_true rfl, Nat.le_of_ble_eq_true rfl⟩ rfl (Nat.le_of_ble_eq_true rfl) (by decide) rfl (fun _ => Nat.le_of_ble_eq_true rfl) (fun _ => rfl) _ rfl (fun v u hp => ?_)
    obtain ⟨d, rfl, hd1, hd⟩ := hp
    refine KJ.eqs (st' := .int (nI d) :: []) rfl ?_
    refine n_if_eq hC 18 35 dX4_wrong_18 (by decide) (by omega) (fun h18 => ?_) (fun h18 => ?_)
    · skip
      refine k_iconst hC 35 dX4_wrong_35 (nI 2) (by decide) ?_
      exact k_iret hC hE 36 () dX4_wrong_36 rfl (by first | rw [serK, kK_2 (not_not_intro (hc.mp h4)) (fun z => (hd.mpr (Ck_in.mpr z.1)) h18)] | rw [serK, kK_2 (not_not_intro (hc.mp h4)) (fun z => (he.mpr z.2) h28)]) rfl ⟨Nat.zero_le _, Nat.zero_le _⟩
    · skip
      refine k_iload_n hC 21 dX4_wrong_21 rfl ?_
      refine k_iconst hC 22 dX4_wrong_22 (nI 1) (by decide) ?_
      refine k_bipush hC 23 dX4_wrong_23 (nI 30) (by decide) ?_
      refine k_callSr hC 25 [] (m_isIn l D p2 (nI 1) (nI 30)) cw_RX4_26 dX4_wrong_25 ⟨Nat.le_of_ble_eq_true rfl, Nat.le_of_ble_eq_true rfl, Nat.le_of_ble_eq_true rfl, Nat.le_of_ble_eq_true rfl⟩ rfl (Nat.le_of_ble_eq_true rfl) (by decide) rfl (fun _ => Nat.le_of_ble_eq_true rfl) (fun _ => rfl) _ rfl (fun v u hp => ?_)
      obtain ⟨e, rfl, he1, he⟩ := hp
      refine KJ.eqs (st' := .int (nI e) :: []) rfl ?_
      refine n_if_eq hC 28 35 dX4_wrong_28 (by decide) (by omega) (fun h28 => ?_) (fun h28 => ?_)
      · skip
        refine k_iconst hC 35 dX4_wrong_35 (nI 2) (by decide) ?_
        exact k_iret hC hE 36 () dX4_wrong_36 rfl (by first | rw [serK, kK_2 (not_not_intro (hc.mp h4)) (fun z => (hd.mpr (Ck_in.mpr z.1)) h18)] | rw [serK, kK_2 (not_not_intro (hc.mp h4)) (fun z => (he.mpr z.2) h28)]) rfl ⟨Nat.zero_le _, Nat.zero_le _⟩
      · skip
        refine k_iconst hC 31 dX4_wrong_31 (nI 0) (by decide) ?_
        refine k_goto hC 32 36 dX4_wrong_32 (by decide) ?_
        exact k_iret hC hE 36 () dX4_wrong_36 rfl (by rw [serK, kK_0 (not_not_intro (hc.mp h4)) (not_not_intro ⟨Ck_in.mp (hd.mp h18), he.mp h28⟩)]) rfl ⟨Nat.zero_le _, Nat.zero_le _⟩
  · skip
    refine k_iconst hC 7 dX4_wrong_7 (nI 1) (by decide) ?_
    refine k_goto hC 8 36 dX4_wrong_8 (by decide) ?_
    exact k_iret hC hE 36 () dX4_wrong_36 rfl (by rw [serK, kK_1 (fun z => (hc.mpr z) h4)]) rfl ⟨Nat.zero_le _, Nat.zero_le _⟩
set_option maxHeartbeats 4000000 in
set_option maxRecDepth 100000 in
/-- m_pinned -/
theorem m_pinned (l : Launch) (D : va_G) (o : Nat → Nat) (th : Int32) (fj fs fl fn : Nat → Int32) (N T : List Nat) (to pi : Nat → Nat) (fe : Nat → Int32)  (hj : MRj (sfI N T) to pi fe fj) (nd : (N ++ T).Nodup) (kN : KL N) (kT : KL T) (p9 : ∀ k : Nat, pi k ≤ 9) : MU l yX4_pinned cX4_pinned 3 (some .int) 2 43 D [.ref (o 0)] [((o 0), .inr (4, [.int th, .ref (o 1), .ref (o 2), .ref (o 3), .ref (o 4)])), ((o 1), .inl (D.1 5, 160, .inl fj)), ((o 2), .inl (D.1 5, 24, .inl fs)), ((o 3), .inl (D.1 5, 26, .inl fl)), ((o 4), .inl (D.1 5, 10, .inl fn))] (fun v (_ : Unit) => v = some (.int (nI (pc pi N + pc pi T)))) (fun _ => [((o 0), .inr (4, [.int th, .ref (o 1), .ref (o 2), .ref (o 3), .ref (o 4)])), ((o 1), .inl (D.1 5, 160, .inl fj)), ((o 2), .inl (D.1 5, 24, .inl fs)), ((o 3), .inl (D.1 5, 26, .inl fl)), ((o 4), .inl (D.1 5, 10, .inl fn))]) 0 0 := by
  refine MU.enter (by decide) [(0, .ref (o 0))] rfl (Nat.le_of_ble_eq_true rfl) (fun G hC hE => ?_)
  have hC : CX G D cX4_pinned RX4 3 := hC
  refine k_iconst hC 0 dX4_pinned_0 (nI 0) (by decide) ?_
  refine k_istore_n hC 1 1 [(1, .int (nI 0)), (0, .ref (o 0))] dX4_pinned_1 rfl (by decide) rfl ?_
  refine k_iconst hC 2 dX4_pinned_2 (nI 0) (by decide) ?_
  refine k_istore_n hC 3 2 [(2, .int (nI 0)), (1, .int (nI 0)), (0, .ref (o 0))] dX4_pinned_3 rfl (by decide) rfl ?_
  have loop4 : ∀ (n4 : Nat) (i : Nat), 40 - i < n4 → i ≤ 40 → KJ l G D ({ frames := 2, cells := 0, slots := 0, locals := 43 } : Room) 3 0 0 [((o 0), .inr (4, [.int th, .ref (o 1), .ref (o 2), .ref (o 3), .ref (o 4)])), ((o 1), .inl (D.1 5, 160, .inl fj)), ((o 2), .inl (D.1 5, 24, .inl fs)), ((o 3), .inl (D.1 5, 26, .inl fl)), ((o 4), .inl (D.1 5, 10, .inl fn))] [(2, .int (nI i)), (1, .int (nI (pcK N T pi i))), (0, .ref (o 0))] 4 [] := by
    intro n4
    induction n4 with
    | zero => intro i h; exact absurd h (Nat.not_lt_zero _)
    | succ n4 ih4 =>
      intro i hn4 hi2
      have hple := pcK_le N T pi i
      have p9i := p9 i
      refine k_iload_n hC 4 dX4_pinned_4 rfl ?_
      refine k_bipush hC 5 dX4_pinned_5 (nI 40) (by decide) ?_
      refine n_icmp_ge hC 7 41 dX4_pinned_7 (by decide) (by omega) (by omega) (fun h7 => ?_) (fun h7 => ?_)
      · skip
        refine k_iload_n hC 41 dX4_pinned_41 rfl ?_
        exact k_iret hC hE 42 () dX4_pinned_42 rfl (by rw [← pcK_40 pi nd kN kT, show i = 40 by omega]) rfl ⟨Nat.zero_le _, Nat.zero_le _⟩
      · skip
        refine k_iload_n hC 10 dX4_pinned_10 rfl ?_
        refine k_aload_n hC 11 dX4_pinned_11 rfl ?_
        refine k_iload_n hC 12 dX4_pinned_12 rfl ?_
        refine k_callVr hC 13 0 [0, 1, 2, 3, 4] (m_isThere l D o th fj fs fl fn N T i h7 (hj i h7).1) cw_RX4_61 dX4_pinned_13 ⟨Nat.le_of_ble_eq_true rfl, Nat.le_of_ble_eq_true rfl, Nat.le_of_ble_eq_true rfl, Nat.le_of_ble_eq_true rfl⟩ rfl (Nat.le_of_ble_eq_true rfl) rfl rfl rfl (by decide) rfl (fun _ => Nat.le_of_ble_eq_true rfl) (fun _ => rfl) _ rfl (fun v u hp => ?_)
        obtain rfl := hp
        refine KJ.eqs (st' := .int (nI (yn (i ∈ N ∨ i ∈ T))) :: .int (nI (pcK N T pi i)) :: []) rfl ?_
        refine n_if_eq hC 16 32 dX4_pinned_16 (by decide) (Nat.lt_of_le_of_lt yn_le (by decide)) (fun h16 => ?_) (fun h16 => ?_)
        · skip
          refine k_iconst hC 32 dX4_pinned_32 (nI 0) (by decide) ?_
          refine k_iadd hC 33 dX4_pinned_33 (KJ.topi (y := (nI (pcK N T pi (i + 1)))) (by first | (rw [pcK_s, if_neg (fun z => yn_0.mp h16 z.1)]; exact nI_add _ _) | (rw [pcK_s, if_neg (fun z => by have z2 := z.2; omega)]; exact nI_add _ _)) ?_)
          refine k_istore_n hC 34 1 [(1, .int (nI (pcK N T pi (i + 1)))), (2, .int (nI i)), (0, .ref (o 0))] dX4_pinned_34 rfl (by decide) rfl ?_
          refine k_iinc hC 35 1 (nI (i + 1)) [(2, .int (nI (i + 1))), (1, .int (nI (pcK N T pi (i + 1)))), (0, .ref (o 0))] dX4_pinned_35 rfl (nI_1 _) (by decide) rfl ?_
          refine k_goto hC 38 4 dX4_pinned_38 (by decide) ?_
          exact ih4 (i + 1) (by omega) (by omega)
        · skip
          refine k_aload_n hC 19 dX4_pinned_19 rfl ?_
          refine k_iload_n hC 20 dX4_pinned_20 rfl ?_
          refine k_iconst hC 21 dX4_pinned_21 (nI 2) (by decide) ?_
          refine k_callVr hC 22 0 [0, 1, 2, 3, 4] (m_ja l D o th fj fs fl fn i 2 h7 (by decide)) cw_RX4_30 dX4_pinned_22 ⟨Nat.le_of_ble_eq_true rfl, Nat.le_of_ble_eq_true rfl, Nat.le_of_ble_eq_true rfl, Nat.le_of_ble_eq_true rfl⟩ rfl (Nat.le_of_ble_eq_true rfl) rfl rfl rfl (by decide) rfl (fun _ => Nat.le_of_ble_eq_true rfl) (fun _ => rfl) _ rfl (fun v u hp => ?_)
          obtain rfl := hp
          refine KJ.eqs (st' := .int (fj (4 * i + 2)) :: .int (nI (pcK N T pi i)) :: []) rfl ?_
          refine KJ.topi (y := (nI (pi i))) (hj i h7).2.2.1 ?_
          refine n_if_le hC 25 32 dX4_pinned_25 (by decide) (by omega) (fun h25 => ?_) (fun h25 => ?_)
          · skip
            refine k_iconst hC 32 dX4_pinned_32 (nI 0) (by decide) ?_
            refine k_iadd hC 33 dX4_pinned_33 (KJ.topi (y := (nI (pcK N T pi (i + 1)))) (by first | (rw [pcK_s, if_neg (fun z => yn_0.mp h16 z.1)]; exact nI_add _ _) | (rw [pcK_s, if_neg (fun z => by have z2 := z.2; omega)]; exact nI_add _ _)) ?_)
            refine k_istore_n hC 34 1 [(1, .int (nI (pcK N T pi (i + 1)))), (2, .int (nI i)), (0, .ref (o 0))] dX4_pinned_34 rfl (by decide) rfl ?_
            refine k_iinc hC 35 1 (nI (i + 1)) [(2, .int (nI (i + 1))), (1, .int (nI (pcK N T pi (i + 1)))), (0, .ref (o 0))] dX4_pinned_35 rfl (nI_1 _) (by decide) rfl ?_
            refine k_goto hC 38 4 dX4_pinned_38 (by decide) ?_
            exact ih4 (i + 1) (by omega) (by omega)
          · skip
            refine k_iconst hC 28 dX4_pinned_28 (nI 1) (by decide) ?_
            refine k_goto hC 29 33 dX4_pinned_29 (by decide) ?_
            refine k_iadd hC 33 dX4_pinned_33 (KJ.topi (y := (nI (pcK N T pi (i + 1)))) (by rw [pcK_s, if_pos ⟨Classical.byContradiction (fun z => h16 (yn_f z)), h25⟩]; exact nI_add _ _) ?_)
            refine k_istore_n hC 34 1 [(1, .int (nI (pcK N T pi (i + 1)))), (2, .int (nI i)), (0, .ref (o 0))] dX4_pinned_34 rfl (by decide) rfl ?_
            refine k_iinc hC 35 1 (nI (i + 1)) [(2, .int (nI (i + 1))), (1, .int (nI (pcK N T pi (i + 1)))), (0, .ref (o 0))] dX4_pinned_35 rfl (nI_1 _) (by decide) rfl ?_
            refine k_goto hC 38 4 dX4_pinned_38 (by decide) ?_
            exact ih4 (i + 1) (by omega) (by omega)
  exact loop4 41 0 (by omega) (by omega)
set_option maxHeartbeats 4000000 in
set_option maxRecDepth 100000 in
/-- m_canGive -/
theorem m_canGive (l : Launch) (D : va_G) (o : Nat → Nat) (th : Int32) (fj fs fl fn : Nat → Int32) (sh : Nat) (L : List Nat) (pi : Nat → Nat)  (hs : sh < 2) (hc : fn (6 + sh) = nI L.length) (hL : L.length ≤ 12) (hK : KL L) (hR : RowL L (fun i => fs (12 * sh + i))) (hp : ∀ k : Nat, k < 40 → fj (4 * k + 2) = nI (pi k)) (p9 : ∀ k : Nat, pi k ≤ 9) : MU l yX4_canGive cX4_canGive 3 (some .boolean) 1 22 D [.ref (o 0), .int (nI sh)] [((o 0), .inr (4, [.int th, .ref (o 1), .ref (o 2), .ref (o 3), .ref (o 4)])), ((o 1), .inl (D.1 5, 160, .inl fj)), ((o 2), .inl (D.1 5, 24, .inl fs)), ((o 3), .inl (D.1 5, 26, .inl fl)), ((o 4), .inl (D.1 5, 10, .inl fn))] (fun v (_ : Unit) => v = some (.int (nI (yn (pc pi L < L.length))))) (fun _ => [((o 0), .inr (4, [.int th, .ref (o 1), .ref (o 2), .ref (o 3), .ref (o 4)])), ((o 1), .inl (D.1 5, 160, .inl fj)), ((o 2), .inl (D.1 5, 24, .inl fs)), ((o 3), .inl (D.1 5, 26, .inl fl)), ((o 4), .inl (D.1 5, 10, .inl fn))]) 0 0 := by
  refine MU.enter (by decide) [(0, .ref (o 0)), (1, .int (nI sh))] rfl (Nat.le_of_ble_eq_true rfl) (fun G hC hE => ?_)
  have hC : CX G D cX4_canGive RX4 3 := hC
  refine k_iconst hC 0 dX4_canGive_0 (nI 0) (by decide) ?_
  refine k_istore_n hC 1 2 [(2, .int (nI 0)), (0, .ref (o 0)), (1, .int (nI sh))] dX4_canGive_1 rfl (by decide) rfl ?_
  have loop2 : ∀ (n2 : Nat) (i : Nat), L.length - i < n2 → i ≤ L.length → (∀ j : Nat, j < i → 0 < pi (L.getD j 0)) → KJ l G D ({ frames := 1, cells := 0, slots := 0, locals := 22 } : Room) 3 0 0 [((o 0), .inr (4, [.int th, .ref (o 1), .ref (o 2), .ref (o 3), .ref (o 4)])), ((o 1), .inl (D.1 5, 160, .inl fj)), ((o 2), .inl (D.1 5, 24, .inl fs)), ((o 3), .inl (D.1 5, 26, .inl fl)), ((o 4), .inl (D.1 5, 10, .inl fn))] [(2, .int (nI i)), (0, .ref (o 0)), (1, .int (nI sh))] 2 [] := by
    intro n2
    induction n2 with
    | zero => intro i h; exact absurd h (Nat.not_lt_zero _)
    | succ n2 ih2 =>
      intro i hn2 hi2 hb
      have hg := hK.g i
      have p9i := p9 (L.getD i 0)
      refine k_iload_n hC 2 dX4_canGive_2 rfl ?_
      refine k_aload_n hC 3 dX4_canGive_3 rfl ?_
      refine k_iload_n hC 4 dX4_canGive_4 rfl ?_
      refine k_callVr hC 5 0 [0, 1, 2, 3, 4] (m_many l D o th fj fs fl fn sh hs) cw_RX4_34 dX4_canGive_5 ⟨Nat.le_of_ble_eq_true rfl, Nat.le_of_ble_eq_true rfl, Nat.le_of_ble_eq_true rfl, Nat.le_of_ble_eq_true rfl⟩ rfl (Nat.le_of_ble_eq_true rfl) rfl rfl rfl (by decide) rfl (fun _ => Nat.le_of_ble_eq_true rfl) (fun _ => rfl) _ rfl (fun v u hp => ?_)
      obtain rfl := hp
      refine KJ.eqs (st' := .int (fn (6 + sh)) :: .int (nI i) :: []) rfl ?_
      refine KJ.topi (y := (nI L.length)) hc ?_
      refine n_icmp_ge hC 8 33 dX4_canGive_8 (by decide) (by omega) (by omega) (fun h8 => ?_) (fun h8 => ?_)
      · skip
        refine k_iconst hC 33 dX4_canGive_33 (nI 0) (by decide) ?_
        exact k_iret hC hE 34 () dX4_canGive_34 rfl (by rw [yn_f (by rw [pc_full (fun j hj => hb j (by omega))]; exact Nat.lt_irrefl _)]) rfl ⟨Nat.zero_le _, Nat.zero_le _⟩
      · skip
        refine k_aload_n hC 11 dX4_canGive_11 rfl ?_
        refine k_aload_n hC 12 dX4_canGive_12 rfl ?_
        refine k_iload_n hC 13 dX4_canGive_13 rfl ?_
        refine k_iload_n hC 14 dX4_canGive_14 rfl ?_
        refine k_callVr hC 15 0 [0, 1, 2, 3, 4] (m_kindAt l D o th fj fs fl fn sh i (by omega)) cw_RX4_58 dX4_canGive_15 ⟨Nat.le_of_ble_eq_true rfl, Nat.le_of_ble_eq_true rfl, Nat.le_of_ble_eq_true rfl, Nat.le_of_ble_eq_true rfl⟩ rfl (Nat.le_of_ble_eq_true rfl) rfl rfl rfl (by decide) rfl (fun _ => Nat.le_of_ble_eq_true rfl) (fun _ => rfl) _ rfl (fun v u hp => ?_)
        obtain rfl := hp
        refine KJ.eqs (st' := .int (fs (12 * sh + i)) :: .ref (o 0) :: []) rfl ?_
        refine KJ.topi (y := (nI (L.getD i 0))) (hR i h8) ?_
        refine k_iconst hC 18 dX4_canGive_18 (nI 2) (by decide) ?_
        refine k_callVr hC 19 0 [0, 1, 2, 3, 4] (m_ja l D o th fj fs fl fn (L.getD i 0) 2 hg (by decide)) cw_RX4_30 dX4_canGive_19 ⟨Nat.le_of_ble_eq_true rfl, Nat.le_of_ble_eq_true rfl, Nat.le_of_ble_eq_true rfl, Nat.le_of_ble_eq_true rfl⟩ rfl (Nat.le_of_ble_eq_true rfl) rfl rfl rfl (by decide) rfl (fun _ => Nat.le_of_ble_eq_true rfl) (fun _ => rfl) _ rfl (fun v u hp => ?_)
        obtain rfl := hp
        refine KJ.eqs (st' := .int (fj (4 * (L.getD i 0) + 2)) :: []) rfl ?_
        refine KJ.topi (y := (nI (pi (L.getD i 0)))) (hp _ hg) ?_
        refine n_if_ne hC 22 27 dX4_canGive_22 (by decide) (by omega) (fun h22 => ?_) (fun h22 => ?_)
        · skip
          refine k_iinc hC 27 0 (nI (i + 1)) [(2, .int (nI (i + 1))), (0, .ref (o 0)), (1, .int (nI sh))] dX4_canGive_27 rfl (nI_1 _) (by decide) rfl ?_
          refine k_goto hC 30 2 dX4_canGive_30 (by decide) ?_
          exact ih2 (i + 1) (by omega) (by omega) (fun j hj => by rcases Nat.lt_succ_iff_lt_or_eq.mp hj with h | h; exact hb j h; rw [h]; exact Nat.pos_of_ne_zero h22)
        · skip
          refine k_iconst hC 25 dX4_canGive_25 (nI 1) (by decide) ?_
          exact k_iret hC hE 26 () dX4_canGive_26 rfl (by rw [yn_t (pc_lt h8 h22)]) rfl ⟨Nat.zero_le _, Nat.zero_le _⟩
  exact loop2 (L.length + 1) 0 (by omega) (by omega) (fun j hj => absurd hj (Nat.not_lt_zero j))
set_option maxHeartbeats 4000000 in
set_option maxRecDepth 100000 in
/-- m_listPlace -/
theorem m_listPlace (l : Launch) (D : va_G) (o : Nat → Nat) (th : Int32) (fj fs fl fn : Nat → Int32) (sh : Nat) (L : List Nat) (k : Nat)  (hs : sh < 2) (hc : fn (8 + sh) = nI L.length) (hL : L.length ≤ 12) (hK : KL L) (hR : RowL L (fun i => fl (13 * sh + i))) (hk : k < 40) : MU l yX4_listPlace cX4_listPlace 4 (some .int) 1 22 D [.ref (o 0), .int (nI sh), .int (nI k)] [((o 0), .inr (4, [.int th, .ref (o 1), .ref (o 2), .ref (o 3), .ref (o 4)])), ((o 1), .inl (D.1 5, 160, .inl fj)), ((o 2), .inl (D.1 5, 24, .inl fs)), ((o 3), .inl (D.1 5, 26, .inl fl)), ((o 4), .inl (D.1 5, 10, .inl fn))] (fun v (_ : Unit) => v = some (.int (ixv L k))) (fun _ => [((o 0), .inr (4, [.int th, .ref (o 1), .ref (o 2), .ref (o 3), .ref (o 4)])), ((o 1), .inl (D.1 5, 160, .inl fj)), ((o 2), .inl (D.1 5, 24, .inl fs)), ((o 3), .inl (D.1 5, 26, .inl fl)), ((o 4), .inl (D.1 5, 10, .inl fn))]) 0 0 := by
  refine MU.enter (by decide) [(0, .ref (o 0)), (1, .int (nI sh)), (2, .int (nI k))] rfl (Nat.le_of_ble_eq_true rfl) (fun G hC hE => ?_)
  have hC : CX G D cX4_listPlace RX4 4 := hC
  refine k_iconst hC 0 dX4_listPlace_0 (nI 0) (by decide) ?_
  refine k_istore_n hC 1 3 [(3, .int (nI 0)), (0, .ref (o 0)), (1, .int (nI sh)), (2, .int (nI k))] dX4_listPlace_1 rfl (by decide) rfl ?_
  have loop2 : ∀ (n2 : Nat) (i : Nat), L.length - i < n2 → i ≤ L.length → (∀ j : Nat, j < i → ¬ L.getD j 0 = k) → KJ l G D ({ frames := 1, cells := 0, slots := 0, locals := 22 } : Room) 4 0 0 [((o 0), .inr (4, [.int th, .ref (o 1), .ref (o 2), .ref (o 3), .ref (o 4)])), ((o 1), .inl (D.1 5, 160, .inl fj)), ((o 2), .inl (D.1 5, 24, .inl fs)), ((o 3), .inl (D.1 5, 26, .inl fl)), ((o 4), .inl (D.1 5, 10, .inl fn))] [(3, .int (nI i)), (0, .ref (o 0)), (1, .int (nI sh)), (2, .int (nI k))] 2 [] := by
    intro n2
    induction n2 with
    | zero => intro i h; exact absurd h (Nat.not_lt_zero _)
    | succ n2 ih2 =>
      intro i hn2 hi hb
      have hg := hK.g i
      refine k_iload_n hC 2 dX4_listPlace_2 rfl ?_
      refine k_aload_n hC 3 dX4_listPlace_3 rfl ?_
      refine k_iload_n hC 4 dX4_listPlace_4 rfl ?_
      refine k_callVr hC 5 0 [0, 1, 2, 3, 4] (m_listed l D o th fj fs fl fn sh hs) cw_RX4_44 dX4_listPlace_5 ⟨Nat.le_of_ble_eq_true rfl, Nat.le_of_ble_eq_true rfl, Nat.le_of_ble_eq_true rfl, Nat.le_of_ble_eq_true rfl⟩ rfl (Nat.le_of_ble_eq_true rfl) rfl rfl rfl (by decide) rfl (fun _ => Nat.le_of_ble_eq_true rfl) (fun _ => rfl) _ rfl (fun v u hp => ?_)
      obtain rfl := hp
      refine KJ.eqs (st' := .int (fn (8 + sh)) :: .int (nI i) :: []) rfl ?_
      refine KJ.topi (y := (nI L.length)) hc ?_
      refine n_icmp_ge hC 8 29 dX4_listPlace_8 (by decide) (by omega) (by omega) (fun h8 => ?_) (fun h8 => ?_)
      · skip
        refine k_iconst hC 29 dX4_listPlace_29 (-1) (by decide) ?_
        exact k_iret hC hE 30 () dX4_listPlace_30 rfl (by rw [ixv, if_neg (ix_none (fun j hj => hb j (by omega)))]) rfl ⟨Nat.zero_le _, Nat.zero_le _⟩
      · skip
        refine k_aload_n hC 11 dX4_listPlace_11 rfl ?_
        refine k_iload_n hC 12 dX4_listPlace_12 rfl ?_
        refine k_iload_n hC 13 dX4_listPlace_13 rfl ?_
        refine k_callVr hC 14 0 [0, 1, 2, 3, 4] (m_listedAt l D o th fj fs fl fn sh i (by omega)) cw_RX4_55 dX4_listPlace_14 ⟨Nat.le_of_ble_eq_true rfl, Nat.le_of_ble_eq_true rfl, Nat.le_of_ble_eq_true rfl, Nat.le_of_ble_eq_true rfl⟩ rfl (Nat.le_of_ble_eq_true rfl) rfl rfl rfl (by decide) rfl (fun _ => Nat.le_of_ble_eq_true rfl) (fun _ => rfl) _ rfl (fun v u hp => ?_)
        obtain rfl := hp
        refine KJ.eqs (st' := .int (fl (13 * sh + i)) :: []) rfl ?_
        refine KJ.topi (y := (nI (L.getD i 0))) (hR i h8) ?_
        refine k_iload_n hC 17 dX4_listPlace_17 rfl ?_
        refine n_icmp_ne hC 18 23 dX4_listPlace_18 (by decide) (by omega) (by omega) (fun h18 => ?_) (fun h18 => ?_)
        · skip
          refine k_iinc hC 23 0 (nI (i + 1)) [(3, .int (nI (i + 1))), (0, .ref (o 0)), (1, .int (nI sh)), (2, .int (nI k))] dX4_listPlace_23 rfl (nI_1 _) (by decide) rfl ?_
          refine k_goto hC 26 2 dX4_listPlace_26 (by decide) ?_
          exact ih2 (i + 1) (by omega) (by omega) (lt_s hb h18)
        · skip
          refine k_iload_n hC 21 dX4_listPlace_21 rfl ?_
          exact k_iret hC hE 22 () dX4_listPlace_22 rfl (by rw [ixv, if_pos (ix_found h8 h18 hb).1, (ix_found h8 h18 hb).2]) rfl ⟨Nat.zero_le _, Nat.zero_le _⟩
  exact loop2 (L.length + 1) 0 (by omega) (by omega) (fun j hj => absurd hj (Nat.not_lt_zero j))
set_option maxHeartbeats 4000000 in
set_option maxRecDepth 100000 in
/-- m_listOf -/
theorem m_listOf (l : Launch) (D : va_G) (o : Nat → Nat) (th : Int32) (fj fs fl fn : Nat → Int32) (A B : List Nat) (k : Nat)  (n8 : fn 8 = nI A.length) (n9 : fn 9 = nI B.length) (lA : A.length ≤ 12) (lB : B.length ≤ 12) (kA : KL A) (kB : KL B) (r2 : RowL A (fun i => fl (13 * 0 + i))) (r3 : RowL B (fun i => fl (13 * 1 + i))) (hk : k < 40) : MU l yX4_listOf cX4_listOf 2 (some .int) 2 45 D [.ref (o 0), .int (nI k)] [((o 0), .inr (4, [.int th, .ref (o 1), .ref (o 2), .ref (o 3), .ref (o 4)])), ((o 1), .inl (D.1 5, 160, .inl fj)), ((o 2), .inl (D.1 5, 24, .inl fs)), ((o 3), .inl (D.1 5, 26, .inl fl)), ((o 4), .inl (D.1 5, 10, .inl fn))] (fun v (_ : Unit) => v = some (.int (sfI A B k))) (fun _ => [((o 0), .inr (4, [.int th, .ref (o 1), .ref (o 2), .ref (o 3), .ref (o 4)])), ((o 1), .inl (D.1 5, 160, .inl fj)), ((o 2), .inl (D.1 5, 24, .inl fs)), ((o 3), .inl (D.1 5, 26, .inl fl)), ((o 4), .inl (D.1 5, 10, .inl fn))]) 0 0 := by
  refine MU.enter (by decide) [(0, .ref (o 0)), (1, .int (nI k))] rfl (Nat.le_of_ble_eq_true rfl) (fun G hC hE => ?_)
  have hC : CX G D cX4_listOf RX4 2 := hC
  refine k_aload_n hC 0 dX4_listOf_0 rfl ?_
  refine k_iconst hC 1 dX4_listOf_1 (nI 0) (by decide) ?_
  refine k_iload_n hC 2 dX4_listOf_2 rfl ?_
  refine k_callVr hC 3 0 [0, 1, 2, 3, 4] (m_listPlace l D o th fj fs fl fn 0 A k (by decide) n8 lA kA r2 hk) cw_RX4_89 dX4_listOf_3 ⟨Nat.le_of_ble_eq_true rfl, Nat.le_of_ble_eq_true rfl, Nat.le_of_ble_eq_true rfl, Nat.le_of_ble_eq_true rfl⟩ rfl (Nat.le_of_ble_eq_true rfl) rfl rfl rfl (by decide) rfl (fun _ => Nat.le_of_ble_eq_true rfl) (fun _ => rfl) _ rfl (fun v u hp => ?_)
  obtain rfl := hp
  refine KJ.eqs (st' := .int (ixv A k) :: []) rfl ?_
  refine k_iconst hC 6 dX4_listOf_6 (-1) (by decide) ?_
  refine k_icmp_eq hC 7 14 dX4_listOf_7 (by decide) (fun h7 => ?_) (fun h7 => ?_)
  · skip
    refine k_aload_n hC 14 dX4_listOf_14 rfl ?_
    refine k_iconst hC 15 dX4_listOf_15 (nI 1) (by decide) ?_
    refine k_iload_n hC 16 dX4_listOf_16 rfl ?_
    refine k_callVr hC 17 0 [0, 1, 2, 3, 4] (m_listPlace l D o th fj fs fl fn 1 B k (by decide) n9 lB kB r3 hk) cw_RX4_89 dX4_listOf_17 ⟨Nat.le_of_ble_eq_true rfl, Nat.le_of_ble_eq_true rfl, Nat.le_of_ble_eq_true rfl, Nat.le_of_ble_eq_true rfl⟩ rfl (Nat.le_of_ble_eq_true rfl) rfl rfl rfl (by decide) rfl (fun _ => Nat.le_of_ble_eq_true rfl) (fun _ => rfl) _ rfl (fun v u hp => ?_)
    obtain rfl := hp
    refine KJ.eqs (st' := .int (ixv B k) :: []) rfl ?_
    refine k_iconst hC 20 dX4_listOf_20 (-1) (by decide) ?_
    refine k_icmp_eq hC 21 28 dX4_listOf_21 (by decide) (fun h21 => ?_) (fun h21 => ?_)
    · skip
      refine k_iconst hC 28 dX4_listOf_28 (-1) (by decide) ?_
      exact k_iret hC hE 29 () dX4_listOf_29 rfl (by rw [sf_m ((ixv_m1 (by omega)).mp h7) ((ixv_m1 (by omega)).mp h21)]) rfl ⟨Nat.zero_le _, Nat.zero_le _⟩
    · skip
      refine k_iconst hC 24 dX4_listOf_24 (nI 1) (by decide) ?_
      refine k_goto hC 25 29 dX4_listOf_25 (by decide) ?_
      exact k_iret hC hE 29 () dX4_listOf_29 rfl (by rw [sf_1 ((ixv_m1 (by omega)).mp h7) (Classical.byContradiction (fun z => h21 ((ixv_m1 (by omega)).mpr z)))]) rfl ⟨Nat.zero_le _, Nat.zero_le _⟩
  · skip
    refine k_iconst hC 10 dX4_listOf_10 (nI 0) (by decide) ?_
    refine k_goto hC 11 29 dX4_listOf_11 (by decide) ?_
    exact k_iret hC hE 29 () dX4_listOf_29 rfl (by rw [sf_0 (Classical.byContradiction (fun z => h7 ((ixv_m1 (by omega)).mpr z)))]) rfl ⟨Nat.zero_le _, Nat.zero_le _⟩
set_option maxHeartbeats 4000000 in
set_option maxRecDepth 100000 in
/-- m_placeOf -/
theorem m_placeOf (l : Launch) (D : va_G) (o : Nat → Nat) (th : Int32) (fj fs fl fn : Nat → Int32) (sh : Nat) (L : List Nat) (k : Nat)  (hs : sh < 2) (hL : L.length ≤ 12) (hK : KL L) (hR : RowL L (fun i => fs (12 * sh + i))) (hk : k < 40) (hm : k ∈ L) (hf : fj (4 * k) = nI sh) : MU l yX4_placeOf cX4_placeOf 3 (some .int) 1 22 D [.ref (o 0), .int (nI k)] [((o 0), .inr (4, [.int th, .ref (o 1), .ref (o 2), .ref (o 3), .ref (o 4)])), ((o 1), .inl (D.1 5, 160, .inl fj)), ((o 2), .inl (D.1 5, 24, .inl fs)), ((o 3), .inl (D.1 5, 26, .inl fl)), ((o 4), .inl (D.1 5, 10, .inl fn))] (fun v (_ : Unit) => v = some (.int (nI (L.idxOf k)))) (fun _ => [((o 0), .inr (4, [.int th, .ref (o 1), .ref (o 2), .ref (o 3), .ref (o 4)])), ((o 1), .inl (D.1 5, 160, .inl fj)), ((o 2), .inl (D.1 5, 24, .inl fs)), ((o 3), .inl (D.1 5, 26, .inl fl)), ((o 4), .inl (D.1 5, 10, .inl fn))]) 0 0 := by
  refine MU.enter (by decide) [(0, .ref (o 0)), (1, .int (nI k))] rfl (Nat.le_of_ble_eq_true rfl) (fun G hC hE => ?_)
  have hC : CX G D cX4_placeOf RX4 3 := hC
  refine k_iconst hC 0 dX4_placeOf_0 (nI 0) (by decide) ?_
  refine k_istore_n hC 1 2 [(2, .int (nI 0)), (0, .ref (o 0)), (1, .int (nI k))] dX4_placeOf_1 rfl (by decide) rfl ?_
  have loop2 : ∀ (n2 : Nat) (i : Nat), L.length - i < n2 → i ≤ L.length → (∀ j : Nat, j < i → ¬ L.getD j 0 = k) → KJ l G D ({ frames := 1, cells := 0, slots := 0, locals := 22 } : Room) 3 0 0 [((o 0), .inr (4, [.int th, .ref (o 1), .ref (o 2), .ref (o 3), .ref (o 4)])), ((o 1), .inl (D.1 5, 160, .inl fj)), ((o 2), .inl (D.1 5, 24, .inl fs)), ((o 3), .inl (D.1 5, 26, .inl fl)), ((o 4), .inl (D.1 5, 10, .inl fn))] [(2, .int (nI i)), (0, .ref (o 0)), (1, .int (nI k))] 2 [] := by
    intro n2
    induction n2 with
    | zero => intro i h; exact absurd h (Nat.not_lt_zero _)
    | succ n2 ih2 =>
      intro i hn2 hi2 hb
      have hg := hK.g i
      have hi : i < L.length := Classical.byContradiction (fun z => ix_none (fun j hj => hb j (by omega)) hm)
      refine k_aload_n hC 2 dX4_placeOf_2 rfl ?_
      refine k_aload_n hC 3 dX4_placeOf_3 rfl ?_
      refine k_iload_n hC 4 dX4_placeOf_4 rfl ?_
      refine k_iconst hC 5 dX4_placeOf_5 (nI 0) (by decide) ?_
      refine k_callVr hC 6 0 [0, 1, 2, 3, 4] (m_ja l D o th fj fs fl fn k 0 hk (by decide)) cw_RX4_30 dX4_placeOf_6 ⟨Nat.le_of_ble_eq_true rfl, Nat.le_of_ble_eq_true rfl, Nat.le_of_ble_eq_true rfl, Nat.le_of_ble_eq_true rfl⟩ rfl (Nat.le_of_ble_eq_true rfl) rfl rfl rfl (by decide) rfl (fun _ => Nat.le_of_ble_eq_true rfl) (fun _ => rfl) _ rfl (fun v u hp => ?_)
      obtain rfl := hp
      refine KJ.eqs (st' := .int (fj (4 * k + 0)) :: .ref (o 0) :: []) rfl ?_
      refine KJ.topi (y := (nI sh)) hf ?_
      refine k_iload_n hC 9 dX4_placeOf_9 rfl ?_
      refine k_callVr hC 10 0 [0, 1, 2, 3, 4] (m_kindAt l D o th fj fs fl fn sh i (by omega)) cw_RX4_58 dX4_placeOf_10 ⟨Nat.le_of_ble_eq_true rfl, Nat.le_of_ble_eq_true rfl, Nat.le_of_ble_eq_true rfl, Nat.le_of_ble_eq_true rfl⟩ rfl (Nat.le_of_ble_eq_true rfl) rfl rfl rfl (by decide) rfl (fun _ => Nat.le_of_ble_eq_true rfl) (fun _ => rfl) _ rfl (fun v u hp => ?_)
      obtain rfl := hp
      refine KJ.eqs (st' := .int (fs (12 * sh + i)) :: []) rfl ?_
      refine KJ.topi (y := (nI (L.getD i 0))) (hR i hi) ?_
      refine k_iload_n hC 13 dX4_placeOf_13 rfl ?_
      refine n_icmp_eq hC 14 23 dX4_placeOf_14 (by decide) (by omega) (by omega) (fun h14 => ?_) (fun h14 => ?_)
      · skip
        refine k_iload_n hC 23 dX4_placeOf_23 rfl ?_
        exact k_iret hC hE 24 () dX4_placeOf_24 rfl (by rw [(ix_found hi h14 hb).2]) rfl ⟨Nat.zero_le _, Nat.zero_le _⟩
      · skip
        refine k_iinc hC 17 0 (nI (i + 1)) [(2, .int (nI (i + 1))), (0, .ref (o 0)), (1, .int (nI k))] dX4_placeOf_17 rfl (nI_1 _) (by decide) rfl ?_
        refine k_goto hC 20 2 dX4_placeOf_20 (by decide) ?_
        exact ih2 (i + 1) (by omega) (by omega) (lt_s hb h14)
  exact loop2 (L.length + 1) 0 (by omega) (by omega) (fun j hj => absurd hj (Nat.not_lt_zero j))
set_option maxHeartbeats 4000000 in
set_option maxRecDepth 100000 in
/-- forget -/
theorem m_forget (l : Launch) (D : va_G) (o : Nat → Nat) (th : Int32) (fj fs fl fn : Nat → Int32) (sh : Nat) (L : List Nat) (pl : Nat)  (hs : sh < 2) (hc : fn (8 + sh) = nI L.length) (hL : L.length ≤ 13) (hR : RowL L (fun i => fl (13 * sh + i))) (h0 : fn 0 = nI pl) (hpl : pl ≤ 12) : MU l yX4_forget cX4_forget 2 none 2 62 D [.ref (o 0), .int (nI sh)] [((o 0), .inr (4, [.int th, .ref (o 1), .ref (o 2), .ref (o 3), .ref (o 4)])), ((o 1), .inl (D.1 5, 160, .inl fj)), ((o 2), .inl (D.1 5, 24, .inl fs)), ((o 3), .inl (D.1 5, 26, .inl fl)), ((o 4), .inl (D.1 5, 10, .inl fn))] (fun v (u : (Nat → Int32) × (Nat → Int32)) => v = none ∧ RowL (tr pl L) (fun i => u.1 (13 * sh + i)) ∧ u.2 (8 + sh) = nI (tr pl L).length ∧ (∀ j : Nat, j < 13 * sh ∨ 13 * sh + 13 ≤ j → u.1 j = fl j) ∧ (∀ j : Nat, j ≠ 8 + sh → u.2 j = fn j)) (fun u => [((o 0), .inr (4, [.int th, .ref (o 1), .ref (o 2), .ref (o 3), .ref (o 4)])), ((o 1), .inl (D.1 5, 160, .inl fj)), ((o 2), .inl (D.1 5, 24, .inl fs)), ((o 3), .inl (D.1 5, 26, .inl u.1)), ((o 4), .inl (D.1 5, 10, .inl u.2))]) 0 0 := by
  refine MU.enter (by decide) [(0, .ref (o 0)), (1, .int (nI sh))] rfl (Nat.le_of_ble_eq_true rfl) (fun G hC hE => ?_)
  have hC : CX G D cX4_forget RX4 2 := hC
  have loop0 : ∀ (n0 : Nat) (L2 : List Nat) (f2 m2 : Nat → Int32), L2.length < n0 → L2.length ≤ 13 → m2 (8 + sh) = nI L2.length → m2 0 = nI pl → RowL L2 (fun i => f2 (13 * sh + i)) → tr pl L2 = tr pl L → (∀ j : Nat, j < 13 * sh ∨ 13 * sh + 13 ≤ j → f2 j = fl j) → (∀ j : Nat, j ≠ 8 + sh → m2 j = fn j) → KJ l G D ({ frames := 2, cells := 0, slots := 0, locals := 62 } : Room) 2 0 0 [((o 0), .inr (4, [.int th, .ref (o 1), .ref (o 2), .ref (o 3), .ref (o 4)])), ((o 1), .inl (D.1 5, 160, .inl fj)), ((o 2), .inl (D.1 5, 24, .inl fs)), ((o 3), .inl (D.1 5, 26, .inl f2)), ((o 4), .inl (D.1 5, 10, .inl m2))] [(0, .ref (o 0)), (1, .int (nI sh))] 0 [] := by
    intro n0
    induction n0 with
    | zero => intro L2 f2 m2 h; exact absurd h (Nat.not_lt_zero _)
    | succ n0 ih0 =>
      intro L2 f2 m2 hn0 hL2 hc2 h02 hR2 ht hfr1 hfr2
      refine k_aload_n hC 0 dX4_forget_0 rfl ?_
      refine k_iload_n hC 1 dX4_forget_1 rfl ?_
      refine k_callVr hC 2 0 [0, 1, 2, 3, 4] (m_listed l D o th fj fs f2 m2 sh hs) cw_RX4_44 dX4_forget_2 ⟨Nat.le_of_ble_eq_true rfl, Nat.le_of_ble_eq_true rfl, Nat.le_of_ble_eq_true rfl, Nat.le_of_ble_eq_true rfl⟩ rfl (Nat.le_of_ble_eq_true rfl) rfl rfl rfl (by decide) rfl (fun _ => Nat.le_of_ble_eq_true rfl) (fun _ => rfl) _ rfl (fun v u hp => ?_)
      obtain rfl := hp
      refine KJ.eqs (st' := .int (m2 (8 + sh)) :: []) rfl ?_
      refine KJ.topi (y := (nI L2.length)) hc2 ?_
      refine k_aload_n hC 5 dX4_forget_5 rfl ?_
      refine k_getf hC 6 0 4 dX4_forget_6 rfl rfl inlX4 (by decide) wq_3_7 rfl ?_
      refine k_iconst hC 9 dX4_forget_9 (nI 0) (by decide) ?_
      refine n_iald hC 10 4 (nI pl) dX4_forget_10 rfl (by omega) (by decide) h02 ?_
      refine n_icmp_le hC 11 23 dX4_forget_11 (by decide) (by omega) (by omega) (fun h11 => ?_) (fun h11 => ?_)
      · skip
        exact k_vret hC hE 23 (f2, m2) dX4_forget_23 (⟨rfl, by rw [← ht, tr_le h11]; exact hR2, by rw [← ht, tr_le h11]; exact hc2, hfr1, hfr2⟩) rfl ⟨Nat.zero_le _, Nat.zero_le _⟩
      · skip
        refine k_aload_n hC 14 dX4_forget_14 rfl ?_
        refine k_iload_n hC 15 dX4_forget_15 rfl ?_
        refine k_iconst hC 16 dX4_forget_16 (nI 0) (by decide) ?_
        refine k_callV hC 17 0 [0, 1, 2, 3, 4] (fun (_ : Unit) => [((o 0), .inr (4, [.int th, .ref (o 1), .ref (o 2), .ref (o 3), .ref (o 4)])), ((o 1), .inl (D.1 5, 160, .inl fj)), ((o 2), .inl (D.1 5, 24, .inl fs)), ((o 3), .inl (D.1 5, 26, .inl (va_cpy f2 f2 (13 * sh + 0 + 1) (13 * sh + 0) (L2.length - 1 - 0)))), ((o 4), .inl (D.1 5, 10, .inl (upd m2 (8 + sh) (nI (L2.length - 1)))))]) (m_takeOff l D o th fj fs f2 m2 sh 0 L2.length hs hc2 (by omega) hL2) cw_RX4_47 dX4_forget_17 ⟨Nat.le_of_ble_eq_true rfl, Nat.le_of_ble_eq_true rfl, Nat.le_of_ble_eq_true rfl, Nat.le_of_ble_eq_true rfl⟩ rfl (Nat.le_of_ble_eq_true rfl) rfl rfl rfl (by decide) rfl (fun _ => Nat.le_of_ble_eq_true rfl) (fun _ => rfl) _ rfl (fun v (_ : Unit) hp => ?_)
        obtain rfl := hp
        refine KJ.eqs (st' := []) rfl ?_
        refine k_goto hC 20 0 dX4_forget_20 (by decide) ?_
        have le := List.length_eraseIdx_of_lt (show 0 < L2.length by omega)
        exact ih0 (L2.eraseIdx 0) _ _ (by omega) (by omega) (by rw [upd_s, le]) (by rw [upd_n (by omega)]; exact h02) (RowL_cut hR2 (by omega)) ((tr_cut (by omega)).trans ht) (fun j hj => (cpy_out (by omega)).trans (hfr1 j hj)) (fun j hj => by rw [upd_n hj]; exact hfr2 j hj)
  exact loop0 (L.length + 1) L fl fn (by omega) hL hc h0 hR rfl (fun _ _ => rfl) (fun _ _ => rfl)
set_option maxHeartbeats 4000000 in
set_option maxRecDepth 100000 in
/-- remember -/
theorem m_remember (l : Launch) (D : va_G) (o : Nat → Nat) (th : Int32) (fj fs fl fn : Nat → Int32) (sh : Nat) (L : List Nat) (pl k : Nat)  (hs : sh < 2) (hc : fn (8 + sh) = nI L.length) (hL : L.length ≤ 12) (hR : RowL L (fun i => fl (13 * sh + i))) (h0 : fn 0 = nI pl) (hpl : pl ≤ 12) : MU l yX4_remember cX4_remember 3 none 3 83 D [.ref (o 0), .int (nI sh), .int (nI k)] [((o 0), .inr (4, [.int th, .ref (o 1), .ref (o 2), .ref (o 3), .ref (o 4)])), ((o 1), .inl (D.1 5, 160, .inl fj)), ((o 2), .inl (D.1 5, 24, .inl fs)), ((o 3), .inl (D.1 5, 26, .inl fl)), ((o 4), .inl (D.1 5, 10, .inl fn))] (fun v (u : (Nat → Int32) × (Nat → Int32)) => v = none ∧ RowL (tr pl (L ++ [k])) (fun i => u.1 (13 * sh + i)) ∧ u.2 (8 + sh) = nI (tr pl (L ++ [k])).length ∧ (∀ j : Nat, j < 13 * sh ∨ 13 * sh + 13 ≤ j → u.1 j = fl j) ∧ (∀ j : Nat, j ≠ 8 + sh → u.2 j = fn j)) (fun u => [((o 0), .inr (4, [.int th, .ref (o 1), .ref (o 2), .ref (o 3), .ref (o 4)])), ((o 1), .inl (D.1 5, 160, .inl fj)), ((o 2), .inl (D.1 5, 24, .inl fs)), ((o 3), .inl (D.1 5, 26, .inl u.1)), ((o 4), .inl (D.1 5, 10, .inl u.2))]) 0 0 := by
  refine MU.enter (by decide) [(0, .ref (o 0)), (1, .int (nI sh)), (2, .int (nI k))] rfl (Nat.le_of_ble_eq_true rfl) (fun G hC hE => ?_)
  have hC : CX G D cX4_remember RX4 3 := hC
  refine k_aload_n hC 0 dX4_remember_0 rfl ?_
  refine k_getf hC 1 0 3 dX4_remember_1 rfl rfl inlX4 (by decide) wq_3_6 rfl ?_
  refine k_bipush hC 4 dX4_remember_4 (nI 13) (by decide) ?_
  refine k_iload_n hC 6 dX4_remember_6 rfl ?_
  refine n_imul hC 7 (13 * sh) dX4_remember_7 rfl ?_
  refine k_aload_n hC 8 dX4_remember_8 rfl ?_
  refine k_iload_n hC 9 dX4_remember_9 rfl ?_
  refine k_callVr hC 10 0 [0, 1, 2, 3, 4] (m_listed l D o th fj fs fl fn sh hs) cw_RX4_44 dX4_remember_10 ⟨Nat.le_of_ble_eq_true rfl, Nat.le_of_ble_eq_true rfl, Nat.le_of_ble_eq_true rfl, Nat.le_of_ble_eq_true rfl⟩ rfl (Nat.le_of_ble_eq_true rfl) rfl rfl rfl (by decide) rfl (fun _ => Nat.le_of_ble_eq_true rfl) (fun _ => rfl) _ rfl (fun v u hp => ?_)
  obtain rfl := hp
  refine KJ.eqs (st' := .int (fn (8 + sh)) :: .int (nI (13 * sh)) :: .ref (o 3) :: []) rfl ?_
  refine KJ.topi (y := (nI L.length)) hc ?_
  refine n_iadd hC 13 ((13 * sh) + L.length) dX4_remember_13 rfl ?_
  refine k_iload_n hC 14 dX4_remember_14 rfl ?_
  refine n_iast hC 15 3 [((o 0), .inr (4, [.int th, .ref (o 1), .ref (o 2), .ref (o 3), .ref (o 4)])), ((o 1), .inl (D.1 5, 160, .inl fj)), ((o 2), .inl (D.1 5, 24, .inl fs)), ((o 3), .inl (D.1 5, 26, .inl (upd fl ((13 * sh) + L.length) (nI k)))), ((o 4), .inl (D.1 5, 10, .inl fn))] dX4_remember_15 rfl (by omega) (by decide) rfl ?_
  refine k_aload_n hC 16 dX4_remember_16 rfl ?_
  refine k_getf hC 17 0 4 dX4_remember_17 rfl rfl inlX4 (by decide) wq_3_7 rfl ?_
  refine k_bipush hC 20 dX4_remember_20 (nI 8) (by decide) ?_
  refine k_iload_n hC 22 dX4_remember_22 rfl ?_
  refine n_iadd hC 23 (8 + sh) dX4_remember_23 rfl ?_
  refine k_dup2 hC 24 dX4_remember_24 rfl rfl ?_
  refine n_iald hC 25 4 (nI L.length) dX4_remember_25 rfl (by omega) (by decide) hc ?_
  refine k_iconst hC 26 dX4_remember_26 (nI 1) (by decide) ?_
  refine n_iadd hC 27 (L.length + 1) dX4_remember_27 rfl ?_
  refine n_iast hC 28 4 [((o 0), .inr (4, [.int th, .ref (o 1), .ref (o 2), .ref (o 3), .ref (o 4)])), ((o 1), .inl (D.1 5, 160, .inl fj)), ((o 2), .inl (D.1 5, 24, .inl fs)), ((o 3), .inl (D.1 5, 26, .inl (upd fl ((13 * sh) + L.length) (nI k)))), ((o 4), .inl (D.1 5, 10, .inl (upd fn (8 + sh) (nI (L.length + 1)))))] dX4_remember_28 rfl (by omega) (by decide) rfl ?_
  refine k_aload_n hC 29 dX4_remember_29 rfl ?_
  refine k_iload_n hC 30 dX4_remember_30 rfl ?_
  refine k_callV hC 31 0 [0, 1, 2, 3, 4] (fun (u : (Nat → Int32) × (Nat → Int32)) => [((o 0), .inr (4, [.int th, .ref (o 1), .ref (o 2), .ref (o 3), .ref (o 4)])), ((o 1), .inl (D.1 5, 160, .inl fj)), ((o 2), .inl (D.1 5, 24, .inl fs)), ((o 3), .inl (D.1 5, 26, .inl u.1)), ((o 4), .inl (D.1 5, 10, .inl u.2))]) (m_forget l D o th fj fs (upd fl ((13 * sh) + L.length) (nI k)) (upd fn (8 + sh) (nI (L.length + 1))) sh (L ++ [k]) pl hs (by rw [upd_s, List.length_append, List.length_singleton]) (by rw [List.length_append, List.length_singleton]; omega) (RowL_put hR k) (by rw [upd_n (by omega)]; exact h0) hpl) cw_RX4_51 dX4_remember_31 ⟨Nat.le_of_ble_eq_true rfl, Nat.le_of_ble_eq_true rfl, Nat.le_of_ble_eq_true rfl, Nat.le_of_ble_eq_true rfl⟩ rfl (Nat.le_of_ble_eq_true rfl) rfl rfl rfl (by decide) rfl (fun _ => Nat.le_of_ble_eq_true rfl) (fun _ => rfl) _ rfl (fun v (u : (Nat → Int32) × (Nat → Int32)) hp => ?_)
  obtain ⟨rfl, q1, q2, q3, q4⟩ := hp
  refine KJ.eqs (st' := []) rfl ?_
  exact k_vret hC hE 34 u dX4_remember_34 (⟨rfl, q1, q2, fun j hj => (q3 j hj).trans (upd_n (by omega)), fun j hj => (q4 j hj).trans (upd_n hj)⟩) rfl ⟨Nat.zero_le _, Nat.zero_le _⟩
