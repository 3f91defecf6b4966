/-! PinnedPantryModel: sweeping, fetching -/
set_option maxHeartbeats 4000000 in
set_option maxRecDepth 100000 in
/-- m_takeOutR -/
theorem m_takeOutR (l : Launch) (D : va_G) (o : Nat → Nat) (th : Int32) (fj fs fl fn : Nat → Int32) (sh p : Nat) (L : List Nat)  (hs : sh < 2) (hc : fn (6 + sh) = nI L.length) (hp : p < L.length) (hL : L.length ≤ 12) (hR : RowL L (fun i => fs (12 * sh + i))) : MU l yX4_takeOut cX4_takeOut 3 none 1 40 D [.ref (o 0), .int (nI sh), .int (nI p)] [((o 0), .inr (4, [.int th, .ref (o 1), .ref (o 2), .ref (o 3), .ref (o 4)])), ((o 1), .inl (D.1 5, 160, .inl fj)), ((o 2), .inl (D.1 5, 24, .inl fs)), ((o 3), .inl (D.1 5, 26, .inl fl)), ((o 4), .inl (D.1 5, 10, .inl fn))] (fun v (u : (Nat → Int32) × (Nat → Int32)) => v = none ∧ RowL (L.eraseIdx p) (fun i => u.1 (12 * sh + i)) ∧ u.2 (6 + sh) = nI (L.eraseIdx p).length ∧ (∀ j : Nat, j < 12 * sh ∨ 12 * sh + 12 ≤ j → u.1 j = fs j) ∧ (∀ j : Nat, j ≠ 6 + sh → u.2 j = fn j)) (fun u => [((o 0), .inr (4, [.int th, .ref (o 1), .ref (o 2), .ref (o 3), .ref (o 4)])), ((o 1), .inl (D.1 5, 160, .inl fj)), ((o 2), .inl (D.1 5, 24, .inl u.1)), ((o 3), .inl (D.1 5, 26, .inl fl)), ((o 4), .inl (D.1 5, 10, .inl u.2))]) 0 0 := by
  refine MU.enter (by decide) [(0, .ref (o 0)), (1, .int (nI sh)), (2, .int (nI p))] rfl (Nat.le_of_ble_eq_true rfl) (fun G hC hE => ?_)
  have hC : CX G D cX4_takeOut RX4 3 := hC
  refine k_aload_n hC 0 dX4_takeOut_0 rfl ?_
  refine k_getf hC 1 0 4 dX4_takeOut_1 rfl rfl inlX4 (by decide) wq_3_7 rfl ?_
  refine k_bipush hC 4 dX4_takeOut_4 (nI 6) (by decide) ?_
  refine k_iload_n hC 6 dX4_takeOut_6 rfl ?_
  refine n_iadd hC 7 (6 + sh) dX4_takeOut_7 rfl ?_
  refine k_dup2 hC 8 dX4_takeOut_8 rfl rfl ?_
  refine n_iald hC 9 4 (nI L.length) dX4_takeOut_9 rfl (by omega) (by decide) hc ?_
  refine k_iconst hC 10 dX4_takeOut_10 (nI 1) (by decide) ?_
  refine n_isub hC 11 (L.length - 1) dX4_takeOut_11 (by omega) rfl ?_
  refine n_iast hC 12 4 [((o 0), .inr (4, [.int th, .ref (o 1), .ref (o 2), .ref (o 3), .ref (o 4)])), ((o 1), .inl (D.1 5, 160, .inl fj)), ((o 2), .inl (D.1 5, 24, .inl fs)), ((o 3), .inl (D.1 5, 26, .inl fl)), ((o 4), .inl (D.1 5, 10, .inl (upd fn (6 + sh) (nI (L.length - 1)))))] dX4_takeOut_12 rfl (by omega) (by decide) rfl ?_
  refine k_aload_n hC 13 dX4_takeOut_13 rfl ?_
  refine k_getf hC 14 0 2 dX4_takeOut_14 rfl rfl inlX4 (by decide) wq_3_5 rfl ?_
  refine k_bipush hC 17 dX4_takeOut_17 (nI 12) (by decide) ?_
  refine k_iload_n hC 19 dX4_takeOut_19 rfl ?_
  refine n_imul hC 20 (12 * sh) dX4_takeOut_20 rfl ?_
  refine k_iload_n hC 21 dX4_takeOut_21 rfl ?_
  refine n_iadd hC 22 ((12 * sh) + p) dX4_takeOut_22 rfl ?_
  refine k_iconst hC 23 dX4_takeOut_23 (nI 1) (by decide) ?_
  refine n_iadd hC 24 (((12 * sh) + p) + 1) dX4_takeOut_24 rfl ?_
  refine k_aload_n hC 25 dX4_takeOut_25 rfl ?_
  refine k_getf hC 26 0 2 dX4_takeOut_26 rfl rfl inlX4 (by decide) wq_3_5 rfl ?_
  refine k_bipush hC 29 dX4_takeOut_29 (nI 12) (by decide) ?_
  refine k_iload_n hC 31 dX4_takeOut_31 rfl ?_
  refine n_imul hC 32 (12 * sh) dX4_takeOut_32 rfl ?_
  refine k_iload_n hC 33 dX4_takeOut_33 rfl ?_
  refine n_iadd hC 34 ((12 * sh) + p) dX4_takeOut_34 rfl ?_
  refine k_aload_n hC 35 dX4_takeOut_35 rfl ?_
  refine k_iload_n hC 36 dX4_takeOut_36 rfl ?_
  refine k_callVr hC 37 0 [0, 1, 2, 3, 4] (m_many l D o th fj fs fl (upd fn (6 + sh) (nI (L.length - 1))) sh hs) cw_RX4_34 dX4_takeOut_37 ⟨Nat.le_of_ble_eq_true rfl, Nat.le_of_ble_eq_true rfl, Nat.le_of_ble_eq_true rfl, Nat.le_of_ble_eq_true rfl⟩ rfl (Nat.le_of_ble_eq_true rfl) rfl rfl rfl (by decide) rfl (fun _ => Nat.le_of_ble_eq_true rfl) (fun _ => rfl) _ rfl (fun v u hp => ?_)
  obtain rfl := hp
  refine KJ.eqs (st' := .int ((upd fn (6 + sh) (nI (L.length - 1))) (6 + sh)) :: .int (nI ((12 * sh) + p)) :: .ref (o 2) :: .int (nI (((12 * sh) + p) + 1)) :: .ref (o 2) :: []) rfl ?_
  refine KJ.topi (y := (nI (L.length - 1))) (upd_s _ _ _) ?_
  refine k_iload_n hC 40 dX4_takeOut_40 rfl ?_
  refine n_isub hC 41 ((L.length - 1) - p) dX4_takeOut_41 (by omega) rfl ?_
  refine k_copy hC 42 (sp := ((12 * sh) + p) + 1) (dp := (12 * sh) + p) (n := (L.length - 1) - p) 2 2 [((o 0), .inr (4, [.int th, .ref (o 1), .ref (o 2), .ref (o 3), .ref (o 4)])), ((o 1), .inl (D.1 5, 160, .inl fj)), ((o 2), .inl (D.1 5, 24, .inl (va_cpy fs fs (((12 * sh) + p) + 1) ((12 * sh) + p) ((L.length - 1) - p)))), ((o 3), .inl (D.1 5, 26, .inl fl)), ((o 4), .inl (D.1 5, 10, .inl (upd fn (6 + sh) (nI (L.length - 1)))))] dX4_takeOut_42 wq_10_0 wq_10_1 wq_10_2 wq_10_3 ⟨Nat.le_of_ble_eq_true rfl, Nat.le_of_ble_eq_true rfl⟩ rfl rfl ⟨by decide, by decide⟩ (by omega) (by omega) rfl ?_
  exact k_vret hC hE 45 (va_cpy fs fs (((12 * sh) + p) + 1) ((12 * sh) + p) ((L.length - 1) - p), upd fn (6 + sh) (nI (L.length - 1))) dX4_takeOut_45 (⟨rfl, RowL_cut hR hp, (upd_s _ _ _).trans (by rw [List.length_eraseIdx_of_lt hp]), fun j hj => cpy_out (by omega), fun j hj => upd_n hj⟩) rfl ⟨Nat.zero_le _, Nat.zero_le _⟩
set_option maxHeartbeats 4000000 in
set_option maxRecDepth 100000 in
/-- m_takeOffR -/
theorem m_takeOffR (l : Launch) (D : va_G) (o : Nat → Nat) (th : Int32) (fj fs fl fn : Nat → Int32) (sh p : Nat) (L : List Nat)  (hs : sh < 2) (hc : fn (8 + sh) = nI L.length) (hp : p < L.length) (hL : L.length ≤ 12) (hR : RowL L (fun i => fl (13 * sh + i))) : MU l yX4_takeOff cX4_takeOff 3 none 1 40 D [.ref (o 0), .int (nI sh), .int (nI p)] [((o 0), .inr (4, [.int th, .ref (o 1), .ref (o 2), .ref (o 3), .ref (o 4)])), ((o 1), .inl (D.1 5, 160, .inl fj)), ((o 2), .inl (D.1 5, 24, .inl fs)), ((o 3), .inl (D.1 5, 26, .inl fl)), ((o 4), .inl (D.1 5, 10, .inl fn))] (fun v (u : (Nat → Int32) × (Nat → Int32)) => v = none ∧ RowL (L.eraseIdx p) (fun i => u.1 (13 * sh + i)) ∧ u.2 (8 + sh) = nI (L.eraseIdx p).length ∧ (∀ j : Nat, j < 13 * sh ∨ 13 * sh + 13 ≤ j → u.1 j = fl j) ∧ (∀ j : Nat, j ≠ 8 + sh → u.2 j = fn j)) (fun u => [((o 0), .inr (4, [.int th, .ref (o 1), .ref (o 2), .ref (o 3), .ref (o 4)])), ((o 1), .inl (D.1 5, 160, .inl fj)), ((o 2), .inl (D.1 5, 24, .inl fs)), ((o 3), .inl (D.1 5, 26, .inl u.1)), ((o 4), .inl (D.1 5, 10, .inl u.2))]) 0 0 := by
  refine MU.enter (by decide) [(0, .ref (o 0)), (1, .int (nI sh)), (2, .int (nI p))] rfl (Nat.le_of_ble_eq_true rfl) (fun G hC hE => ?_)
  have hC : CX G D cX4_takeOff RX4 3 := hC
  refine k_aload_n hC 0 dX4_takeOff_0 rfl ?_
  refine k_getf hC 1 0 4 dX4_takeOff_1 rfl rfl inlX4 (by decide) wq_3_7 rfl ?_
  refine k_bipush hC 4 dX4_takeOff_4 (nI 8) (by decide) ?_
  refine k_iload_n hC 6 dX4_takeOff_6 rfl ?_
  refine n_iadd hC 7 (8 + sh) dX4_takeOff_7 rfl ?_
  refine k_dup2 hC 8 dX4_takeOff_8 rfl rfl ?_
  refine n_iald hC 9 4 (nI L.length) dX4_takeOff_9 rfl (by omega) (by decide) hc ?_
  refine k_iconst hC 10 dX4_takeOff_10 (nI 1) (by decide) ?_
  refine n_isub hC 11 (L.length - 1) dX4_takeOff_11 (by omega) rfl ?_
  refine n_iast hC 12 4 [((o 0), .inr (4, [.int th, .ref (o 1), .ref (o 2), .ref (o 3), .ref (o 4)])), ((o 1), .inl (D.1 5, 160, .inl fj)), ((o 2), .inl (D.1 5, 24, .inl fs)), ((o 3), .inl (D.1 5, 26, .inl fl)), ((o 4), .inl (D.1 5, 10, .inl (upd fn (8 + sh) (nI (L.length - 1)))))] dX4_takeOff_12 rfl (by omega) (by decide) rfl ?_
  refine k_aload_n hC 13 dX4_takeOff_13 rfl ?_
  refine k_getf hC 14 0 3 dX4_takeOff_14 rfl rfl inlX4 (by decide) wq_3_6 rfl ?_
  refine k_bipush hC 17 dX4_takeOff_17 (nI 13) (by decide) ?_
  refine k_iload_n hC 19 dX4_takeOff_19 rfl ?_
  refine n_imul hC 20 (13 * sh) dX4_takeOff_20 rfl ?_
  refine k_iload_n hC 21 dX4_takeOff_21 rfl ?_
  refine n_iadd hC 22 ((13 * sh) + p) dX4_takeOff_22 rfl ?_
  refine k_iconst hC 23 dX4_takeOff_23 (nI 1) (by decide) ?_
  refine n_iadd hC 24 (((13 * sh) + p) + 1) dX4_takeOff_24 rfl ?_
  refine k_aload_n hC 25 dX4_takeOff_25 rfl ?_
  refine k_getf hC 26 0 3 dX4_takeOff_26 rfl rfl inlX4 (by decide) wq_3_6 rfl ?_
  refine k_bipush hC 29 dX4_takeOff_29 (nI 13) (by decide) ?_
  refine k_iload_n hC 31 dX4_takeOff_31 rfl ?_
  refine n_imul hC 32 (13 * sh) dX4_takeOff_32 rfl ?_
  refine k_iload_n hC 33 dX4_takeOff_33 rfl ?_
  refine n_iadd hC 34 ((13 * sh) + p) dX4_takeOff_34 rfl ?_
  refine k_aload_n hC 35 dX4_takeOff_35 rfl ?_
  refine k_iload_n hC 36 dX4_takeOff_36 rfl ?_
  refine k_callVr hC 37 0 [0, 1, 2, 3, 4] (m_listed l D o th fj fs fl (upd fn (8 + sh) (nI (L.length - 1))) sh hs) cw_RX4_44 dX4_takeOff_37 ⟨Nat.le_of_ble_eq_true rfl, Nat.le_of_ble_eq_true rfl, Nat.le_of_ble_eq_true rfl, Nat.le_of_ble_eq_true rfl⟩ rfl (Nat.le_of_ble_eq_true rfl) rfl rfl rfl (by decide) rfl (fun _ => Nat.le_of_ble_eq_true rfl) (fun _ => rfl) _ rfl (fun v u hp => ?_)
  obtain rfl := hp
  refine KJ.eqs (st' := .int ((upd fn (8 + sh) (nI (L.length - 1))) (8 + sh)) :: .int (nI ((13 * sh) + p)) :: .ref (o 3) :: .int (nI (((13 * sh) + p) + 1)) :: .ref (o 3) :: []) rfl ?_
  refine KJ.topi (y := (nI (L.length - 1))) (upd_s _ _ _) ?_
  refine k_iload_n hC 40 dX4_takeOff_40 rfl ?_
  refine n_isub hC 41 ((L.length - 1) - p) dX4_takeOff_41 (by omega) rfl ?_
  refine k_copy hC 42 (sp := ((13 * sh) + p) + 1) (dp := (13 * sh) + p) (n := (L.length - 1) - p) 3 3 [((o 0), .inr (4, [.int th, .ref (o 1), .ref (o 2), .ref (o 3), .ref (o 4)])), ((o 1), .inl (D.1 5, 160, .inl fj)), ((o 2), .inl (D.1 5, 24, .inl fs)), ((o 3), .inl (D.1 5, 26, .inl (va_cpy fl fl (((13 * sh) + p) + 1) ((13 * sh) + p) ((L.length - 1) - p)))), ((o 4), .inl (D.1 5, 10, .inl (upd fn (8 + sh) (nI (L.length - 1)))))] dX4_takeOff_42 wq_10_0 wq_10_1 wq_10_2 wq_10_3 ⟨Nat.le_of_ble_eq_true rfl, Nat.le_of_ble_eq_true rfl⟩ rfl rfl ⟨by decide, by decide⟩ (by omega) (by omega) rfl ?_
  exact k_vret hC hE 45 (va_cpy fl fl (((13 * sh) + p) + 1) ((13 * sh) + p) ((L.length - 1) - p), upd fn (8 + sh) (nI (L.length - 1))) dX4_takeOff_45 (⟨rfl, RowL_cut hR hp, (upd_s _ _ _).trans (by rw [List.length_eraseIdx_of_lt hp]), fun j hj => cpy_out (by omega), fun j hj => upd_n hj⟩) rfl ⟨Nat.zero_le _, Nat.zero_le _⟩
set_option maxHeartbeats 4000000 in
set_option maxRecDepth 100000 in
/-- m_putLastR -/
theorem m_putLastR (l : Launch) (D : va_G) (o : Nat → Nat) (th : Int32) (fj fs fl fn : Nat → Int32) (sh k : Nat) (L : List Nat)  (hs : sh < 2) (hc : fn (6 + sh) = nI L.length) (hL : L.length < 12) (hk : k < 40) (hR : RowL L (fun i => fs (12 * sh + i))) : MU l yX4_putLast cX4_putLast 3 none 1 21 D [.ref (o 0), .int (nI sh), .int (nI k)] [((o 0), .inr (4, [.int th, .ref (o 1), .ref (o 2), .ref (o 3), .ref (o 4)])), ((o 1), .inl (D.1 5, 160, .inl fj)), ((o 2), .inl (D.1 5, 24, .inl fs)), ((o 3), .inl (D.1 5, 26, .inl fl)), ((o 4), .inl (D.1 5, 10, .inl fn))] (fun v (u : (Nat → Int32) × (Nat → Int32)) => v = none ∧ RowL (L ++ [k]) (fun i => u.1 (12 * sh + i)) ∧ u.2 (6 + sh) = nI (L ++ [k]).length ∧ (∀ j : Nat, j < 12 * sh ∨ 12 * sh + 12 ≤ j → u.1 j = fs j) ∧ (∀ j : Nat, j ≠ 6 + sh → u.2 j = fn j)) (fun u => [((o 0), .inr (4, [.int th, .ref (o 1), .ref (o 2), .ref (o 3), .ref (o 4)])), ((o 1), .inl (D.1 5, 160, .inl (upd fj (4 * k) (nI sh)))), ((o 2), .inl (D.1 5, 24, .inl u.1)), ((o 3), .inl (D.1 5, 26, .inl fl)), ((o 4), .inl (D.1 5, 10, .inl u.2))]) 0 0 := by
  refine MU.enter (by decide) [(0, .ref (o 0)), (1, .int (nI sh)), (2, .int (nI k))] rfl (Nat.le_of_ble_eq_true rfl) (fun G hC hE => ?_)
  have hC : CX G D cX4_putLast RX4 3 := hC
  refine k_aload_n hC 0 dX4_putLast_0 rfl ?_
  refine k_getf hC 1 0 2 dX4_putLast_1 rfl rfl inlX4 (by decide) wq_3_5 rfl ?_
  refine k_bipush hC 4 dX4_putLast_4 (nI 12) (by decide) ?_
  refine k_iload_n hC 6 dX4_putLast_6 rfl ?_
  refine n_imul hC 7 (12 * sh) dX4_putLast_7 rfl ?_
  refine k_aload_n hC 8 dX4_putLast_8 rfl ?_
  refine k_iload_n hC 9 dX4_putLast_9 rfl ?_
  refine k_callVr hC 10 0 [0, 1, 2, 3, 4] (m_many l D o th fj fs fl fn sh hs) cw_RX4_34 dX4_putLast_10 ⟨Nat.le_of_ble_eq_true rfl, Nat.le_of_ble_eq_true rfl, Nat.le_of_ble_eq_true rfl, Nat.le_of_ble_eq_true rfl⟩ rfl (Nat.le_of_ble_eq_true rfl) rfl rfl rfl (by decide) rfl (fun _ => Nat.le_of_ble_eq_true rfl) (fun _ => rfl) _ rfl (fun v u hp => ?_)
  obtain rfl := hp
  refine KJ.eqs (st' := .int (fn (6 + sh)) :: .int (nI (12 * sh)) :: .ref (o 2) :: []) rfl ?_
  refine KJ.topi (y := (nI L.length)) hc ?_
  refine n_iadd hC 13 ((12 * sh) + L.length) dX4_putLast_13 rfl ?_
  refine k_iload_n hC 14 dX4_putLast_14 rfl ?_
  refine n_iast hC 15 2 [((o 0), .inr (4, [.int th, .ref (o 1), .ref (o 2), .ref (o 3), .ref (o 4)])), ((o 1), .inl (D.1 5, 160, .inl fj)), ((o 2), .inl (D.1 5, 24, .inl (upd fs ((12 * sh) + L.length) (nI k)))), ((o 3), .inl (D.1 5, 26, .inl fl)), ((o 4), .inl (D.1 5, 10, .inl fn))] dX4_putLast_15 rfl (by omega) (by decide) rfl ?_
  refine k_aload_n hC 16 dX4_putLast_16 rfl ?_
  refine k_getf hC 17 0 4 dX4_putLast_17 rfl rfl inlX4 (by decide) wq_3_7 rfl ?_
  refine k_bipush hC 20 dX4_putLast_20 (nI 6) (by decide) ?_
  refine k_iload_n hC 22 dX4_putLast_22 rfl ?_
  refine n_iadd hC 23 (6 + sh) dX4_putLast_23 rfl ?_
  refine k_dup2 hC 24 dX4_putLast_24 rfl rfl ?_
  refine n_iald hC 25 4 (nI L.length) dX4_putLast_25 rfl (by omega) (by decide) hc ?_
  refine k_iconst hC 26 dX4_putLast_26 (nI 1) (by decide) ?_
  refine n_iadd hC 27 (L.length + 1) dX4_putLast_27 rfl ?_
  refine n_iast hC 28 4 [((o 0), .inr (4, [.int th, .ref (o 1), .ref (o 2), .ref (o 3), .ref (o 4)])), ((o 1), .inl (D.1 5, 160, .inl fj)), ((o 2), .inl (D.1 5, 24, .inl (upd fs ((12 * sh) + L.length) (nI k)))), ((o 3), .inl (D.1 5, 26, .inl fl)), ((o 4), .inl (D.1 5, 10, .inl (upd fn (6 + sh) (nI (L.length + 1)))))] dX4_putLast_28 rfl (by omega) (by decide) rfl ?_
  refine k_aload_n hC 29 dX4_putLast_29 rfl ?_
  refine k_getf hC 30 0 1 dX4_putLast_30 rfl rfl inlX4 (by decide) wq_3_4 rfl ?_
  refine k_iconst hC 33 dX4_putLast_33 (nI 4) (by decide) ?_
  refine k_iload_n hC 34 dX4_putLast_34 rfl ?_
  refine n_imul hC 35 (4 * k) dX4_putLast_35 rfl ?_
  refine k_iconst hC 36 dX4_putLast_36 (nI 0) (by decide) ?_
  refine n_iadd hC 37 (4 * k) dX4_putLast_37 (by omega) ?_
  refine k_iload_n hC 38 dX4_putLast_38 rfl ?_
  refine n_iast hC 39 1 [((o 0), .inr (4, [.int th, .ref (o 1), .ref (o 2), .ref (o 3), .ref (o 4)])), ((o 1), .inl (D.1 5, 160, .inl (upd fj (4 * k) (nI sh)))), ((o 2), .inl (D.1 5, 24, .inl (upd fs ((12 * sh) + L.length) (nI k)))), ((o 3), .inl (D.1 5, 26, .inl fl)), ((o 4), .inl (D.1 5, 10, .inl (upd fn (6 + sh) (nI (L.length + 1)))))] dX4_putLast_39 rfl (by omega) (by decide) rfl ?_
  exact k_vret hC hE 40 (upd fs ((12 * sh) + L.length) (nI k), upd fn (6 + sh) (nI (L.length + 1))) dX4_putLast_40 (⟨rfl, RowL_put hR k, (upd_s _ _ _).trans (by rw [List.length_append, List.length_singleton]), fun j hj => upd_n (by omega), fun j hj => upd_n hj⟩) rfl ⟨Nat.zero_le _, Nat.zero_le _⟩
set_option maxHeartbeats 4000000 in
set_option maxRecDepth 100000 in
/-- m_sweep -/
theorem m_sweep (l : Launch) (D : va_G) (o : Nat → Nat) (th : Int32) (fj fs fl fn : Nat → Int32) (N T A B : List Nat) (to pi : Nat → Nat) (fe : Nat → Int32) (pl go : Nat) (hi mi re lo : Int32) (n : Nat) (s' : PS) (kk : Nat) (hM : MR (N, T, A, B, to, pi, fe, pl, go, hi, mi, re, lo) (fj, fs, fl, fn)) (hW : WF (N, T, A, B, to, pi, fe, pl, go, hi, mi, re, lo)) (hsw : swN n (N, T, A, B, to, pi, fe, pl, go, hi, mi, re, lo) = some (s', kk)) (hpj : pc pi N + pc pi T < N.length + T.length) : MU l yX4_sweep cX4_sweep 4 (some .int) 4 105 D [.ref (o 0)] [((o 0), .inr (4, [.int th, .ref (o 1), .ref (o 2), .ref (o 3), .ref (o 4)])), ((o 1), .inl (D.1 5, 160, .inl fj)), ((o 2), .inl (D.1 5, 24, .inl fs)), ((o 3), .inl (D.1 5, 26, .inl fl)), ((o 4), .inl (D.1 5, 10, .inl fn))] (fun v (u : MG) => v = some (.int (nI kk)) ∧ MR s' u) (fun u => [((o 0), .inr (4, [.int th, .ref (o 1), .ref (o 2), .ref (o 3), .ref (o 4)])), ((o 1), .inl (D.1 5, 160, .inl u.1)), ((o 2), .inl (D.1 5, 24, .inl u.2.1)), ((o 3), .inl (D.1 5, 26, .inl u.2.2.1)), ((o 4), .inl (D.1 5, 10, .inl u.2.2.2))]) 0 0 := by
  refine MU.enter (by decide) [(0, .ref (o 0))] rfl (Nat.le_of_ble_eq_true rfl) (fun G hC hE => ?_)
  have hC : CX G D cX4_sweep RX4 4 := hC
  have loop0 : ∀ (n0 : Nat) (n : Nat) (N T A B : List Nat) (to pi : Nat → Nat) (fe : Nat → Int32) (pl go : Nat) (hi mi re lo : Int32) (fj fs fl fn : Nat → Int32), n < n0 → MR (N, T, A, B, to, pi, fe, pl, go, hi, mi, re, lo) (fj, fs, fl, fn) → WF (N, T, A, B, to, pi, fe, pl, go, hi, mi, re, lo) → swN n (N, T, A, B, to, pi, fe, pl, go, hi, mi, re, lo) = some (s', kk) → pc pi N + pc pi T < N.length + T.length → KJ l G D ({ frames := 4, cells := 0, slots := 0, locals := 105 } : Room) 4 0 0 [((o 0), .inr (4, [.int th, .ref (o 1), .ref (o 2), .ref (o 3), .ref (o 4)])), ((o 1), .inl (D.1 5, 160, .inl fj)), ((o 2), .inl (D.1 5, 24, .inl fs)), ((o 3), .inl (D.1 5, 26, .inl fl)), ((o 4), .inl (D.1 5, 10, .inl fn))] [(0, .ref (o 0))] 0 [] := by
    intro n0
    induction n0 with
    | zero => intro n N T A B to pi fe pl go hi mi re lo fj fs fl fn h; exact absurd h (Nat.not_lt_zero _)
    | succ n0 ih0 =>
      intro n N T A B to pi fe pl go hi mi re lo fj fs fl fn hn0 hM hW hsw hpj
      obtain ⟨n, rfl⟩ := swN_pos hsw
      have hM0 := hM
      have hW0 := hW
      obtain ⟨⟨r0, r1, r2, r3⟩, hj, ⟨n0, n1, n2, n3, n4, n5⟩, n6, n7, n8, n9⟩ := hM
      obtain ⟨kN, kT, kA, kB, nd, len, lA, lB, p2, p12, g12, t1, p9⟩ := hW
      have q0 := pc_le pi N
      have q1 := pc_le pi T
      refine k_aload_n hC 0 dX4_sweep_0 rfl ?_
      refine k_iconst hC 1 dX4_sweep_1 (nI 0) (by decide) ?_
      refine k_callVr hC 2 0 [0, 1, 2, 3, 4] (m_canGive l D o th fj fs fl fn 0 N pi (by decide) n6 (by omega) kN r0 (fun k hk => (hj k hk).2.2.1) p9) cw_RX4_65 dX4_sweep_2 ⟨Nat.le_of_ble_eq_true rfl, Nat.le_of_ble_eq_true rfl, Nat.le_of_ble_eq_true rfl, Nat.le_of_ble_eq_true rfl⟩ rfl (Nat.le_of_ble_eq_true rfl) rfl rfl rfl (by decide) rfl (fun _ => Nat.le_of_ble_eq_true rfl) (fun _ => rfl) _ rfl (fun v u hp => ?_)
      obtain rfl := hp
      refine KJ.eqs (st' := .int (nI (yn (pc pi N < N.length))) :: []) rfl ?_
      refine n_if_eq hC 5 38 dX4_sweep_5 (by decide) (Nat.lt_of_le_of_lt yn_le (by decide)) (fun h5 => ?_) (fun h5 => ?_)
      · skip
        have a5 := yn_0.mp h5
        refine k_iconst hC 38 dX4_sweep_38 (nI 0) (by decide) ?_
        refine k_istore_n hC 39 1 [(1, .int (nI 0)), (0, .ref (o 0))] dX4_sweep_39 rfl (by decide) rfl ?_
        refine k_iload_n hC 40 dX4_sweep_40 rfl ?_
        refine n_if_eq hC 41 48 dX4_sweep_41 (by decide) (by omega) (fun h41 => ?_) (fun h41 => ?_)
        · skip
          refine k_iconst hC 48 dX4_sweep_48 (nI 1) (by decide) ?_
          refine k_istore_n hC 49 2 [(2, .int (nI 1)), (1, .int (nI 0)), (0, .ref (o 0))] dX4_sweep_49 rfl (by decide) rfl ?_
          have hg : gv N T pi go = 1 := by
            unfold gv
            split
            · first | rfl | (exfalso; omega)
            · first | rfl | (exfalso; omega)
          obtain ⟨k, T', rfl⟩ := gv_1 hg hpj
          have kd : k ∉ N ∧ k ∉ T' := by
            have h := List.perm_middle.nodup_iff.mp nd
            simp only [List.nodup_cons, List.mem_append, not_or] at h
            exact h.1
          have hk : k < 40 := kT k List.mem_cons_self
          have lX : T'.length + 1 = (k :: T').length := rfl
          have t1k := t1 k
          have p9k := p9 k
          refine k_aload_n hC 50 dX4_sweep_50 rfl ?_
          refine k_iload_n hC 51 dX4_sweep_51 rfl ?_
          refine k_iconst hC 52 dX4_sweep_52 (nI 0) (by decide) ?_
          refine k_callVr hC 53 0 [0, 1, 2, 3, 4] (m_kindAt l D o th fj fs fl fn 1 0 (by decide)) cw_RX4_58 dX4_sweep_53 ⟨Nat.le_of_ble_eq_true rfl, Nat.le_of_ble_eq_true rfl, Nat.le_of_ble_eq_true rfl, Nat.le_of_ble_eq_true rfl⟩ rfl (Nat.le_of_ble_eq_true rfl) rfl rfl rfl (by decide) rfl (fun _ => Nat.le_of_ble_eq_true rfl) (fun _ => rfl) _ rfl (fun v u hp => ?_)
          obtain rfl := hp
          refine KJ.eqs (st' := .int (fs (12 * 1 + 0)) :: []) rfl ?_
          refine KJ.topi (y := (nI k)) (r1 0 (Nat.succ_pos _)) ?_
          refine k_istore_n hC 56 3 [(3, .int (nI k)), (2, .int (nI 1)), (1, .int (nI 0)), (0, .ref (o 0))] dX4_sweep_56 rfl (by decide) rfl ?_
          refine k_aload_n hC 57 dX4_sweep_57 rfl ?_
          refine k_iload_n hC 58 dX4_sweep_58 rfl ?_
          refine k_iconst hC 59 dX4_sweep_59 (nI 0) (by decide) ?_
          refine k_callV hC 60 0 [0, 1, 2, 3, 4] (fun (x0 : (Nat → Int32) × (Nat → Int32)) => [((o 0), .inr (4, [.int th, .ref (o 1), .ref (o 2), .ref (o 3), .ref (o 4)])), ((o 1), .inl (D.1 5, 160, .inl fj)), ((o 2), .inl (D.1 5, 24, .inl x0.1)), ((o 3), .inl (D.1 5, 26, .inl fl)), ((o 4), .inl (D.1 5, 10, .inl x0.2))]) (m_takeOutR l D o th fj fs fl fn 1 0 (k :: T') (by decide) n7 (Nat.succ_pos _) (by omega) r1) cw_RX4_73 dX4_sweep_60 ⟨Nat.le_of_ble_eq_true rfl, Nat.le_of_ble_eq_true rfl, Nat.le_of_ble_eq_true rfl, Nat.le_of_ble_eq_true rfl⟩ rfl (Nat.le_of_ble_eq_true rfl) rfl rfl rfl (by decide) rfl (fun _ => Nat.le_of_ble_eq_true rfl) (fun _ => rfl) _ rfl (fun v (x0 : (Nat → Int32) × (Nat → Int32)) hp => ?_)
          obtain ⟨rfl, x1, x2, x3, x4⟩ := hp
          refine KJ.eqs (st' := []) rfl ?_
          refine k_aload_n hC 63 dX4_sweep_63 rfl ?_
          refine k_getf hC 64 0 4 dX4_sweep_64 rfl rfl inlX4 (by decide) wq_3_7 rfl ?_
          refine k_iconst hC 67 dX4_sweep_67 (nI 5) (by decide) ?_
          refine k_dup2 hC 68 dX4_sweep_68 rfl rfl ?_
          refine n_iald hC 69 4 lo dX4_sweep_69 rfl (by omega) (by decide) ((x4 5 (by decide)).trans n5) ?_
          refine k_iconst hC 70 dX4_sweep_70 (nI 1) (by decide) ?_
          refine k_iadd hC 71 dX4_sweep_71 (KJ.topi (y := (lo + 1)) rfl ?_)
          refine n_iast hC 72 4 [((o 0), .inr (4, [.int th, .ref (o 1), .ref (o 2), .ref (o 3), .ref (o 4)])), ((o 1), .inl (D.1 5, 160, .inl fj)), ((o 2), .inl (D.1 5, 24, .inl x0.1)), ((o 3), .inl (D.1 5, 26, .inl fl)), ((o 4), .inl (D.1 5, 10, .inl (upd x0.2 5 (lo + 1))))] dX4_sweep_72 rfl (by omega) (by decide) rfl ?_
          refine k_aload_n hC 73 dX4_sweep_73 rfl ?_
          refine k_iload_n hC 74 dX4_sweep_74 rfl ?_
          refine k_iconst hC 75 dX4_sweep_75 (nI 2) (by decide) ?_
          refine k_callVr hC 76 0 [0, 1, 2, 3, 4] (m_ja l D o th fj x0.1 fl (upd x0.2 5 (lo + 1)) k 2 hk (by decide)) cw_RX4_30 dX4_sweep_76 ⟨Nat.le_of_ble_eq_true rfl, Nat.le_of_ble_eq_true rfl, Nat.le_of_ble_eq_true rfl, Nat.le_of_ble_eq_true rfl⟩ rfl (Nat.le_of_ble_eq_true rfl) rfl rfl rfl (by decide) rfl (fun _ => Nat.le_of_ble_eq_true rfl) (fun _ => rfl) _ rfl (fun v u hp => ?_)
          obtain rfl := hp
          refine KJ.eqs (st' := .int (fj (4 * k + 2)) :: []) rfl ?_
          refine KJ.topi (y := (nI (pi k))) (hj k hk).2.2.1 ?_
          refine n_if_le hC 79 91 dX4_sweep_79 (by decide) (by omega) (fun hp => ?_) (fun hp => ?_)
          · skip
            refine k_aload_n hC 91 dX4_sweep_91 rfl ?_
            refine k_iload_n hC 92 dX4_sweep_92 rfl ?_
            refine k_iconst hC 93 dX4_sweep_93 (nI 1) (by decide) ?_
            refine k_callVr hC 94 0 [0, 1, 2, 3, 4] (m_ja l D o th fj x0.1 fl (upd x0.2 5 (lo + 1)) k 1 hk (by decide)) cw_RX4_30 dX4_sweep_94 ⟨Nat.le_of_ble_eq_true rfl, Nat.le_of_ble_eq_true rfl, Nat.le_of_ble_eq_true rfl, Nat.le_of_ble_eq_true rfl⟩ rfl (Nat.le_of_ble_eq_true rfl) rfl rfl rfl (by decide) rfl (fun _ => Nat.le_of_ble_eq_true rfl) (fun _ => rfl) _ rfl (fun v u hp => ?_)
            obtain rfl := hp
            refine KJ.eqs (st' := .int (fj (4 * k + 1)) :: []) rfl ?_
            refine KJ.topi (y := (nI (to k))) (hj k hk).2.1 ?_
            refine k_iconst hC 97 dX4_sweep_97 (nI 1) (by decide) ?_
            refine n_icmp_ne hC 98 121 dX4_sweep_98 (by decide) (by omega) (by omega) (fun ht => ?_) (fun ht => ?_)
            · skip
              refine k_aload_n hC 121 dX4_sweep_121 rfl ?_
              refine k_getf hC 122 0 1 dX4_sweep_122 rfl rfl inlX4 (by decide) wq_3_4 rfl ?_
              refine k_iconst hC 125 dX4_sweep_125 (nI 4) (by decide) ?_
              refine k_iload_n hC 126 dX4_sweep_126 rfl ?_
              refine n_imul hC 127 (4 * k) dX4_sweep_127 rfl ?_
              refine k_iconst hC 128 dX4_sweep_128 (nI 0) (by decide) ?_
              refine n_iadd hC 129 (4 * k) dX4_sweep_129 (by omega) ?_
              refine k_iconst hC 130 dX4_sweep_130 (-1) (by decide) ?_
              refine n_iast hC 131 1 [((o 0), .inr (4, [.int th, .ref (o 1), .ref (o 2), .ref (o 3), .ref (o 4)])), ((o 1), .inl (D.1 5, 160, .inl (upd fj (4 * k) (-1)))), ((o 2), .inl (D.1 5, 24, .inl x0.1)), ((o 3), .inl (D.1 5, 26, .inl fl)), ((o 4), .inl (D.1 5, 10, .inl (upd x0.2 5 (lo + 1))))] dX4_sweep_131 rfl (by omega) (by decide) rfl ?_
              refine k_aload_n hC 132 dX4_sweep_132 rfl ?_
              refine k_iload_n hC 133 dX4_sweep_133 rfl ?_
              refine k_iload_n hC 134 dX4_sweep_134 rfl ?_
              have e := lk_1l (A := A) (B := B) (to := to) (fe := fe) (pl := pl) (hi := hi) (mi := mi) (re := re) (lo := lo) hg hp (by omega)
              refine k_callV hC 135 0 [0, 1, 2, 3, 4] (fun (z : (Nat → Int32) × (Nat → Int32)) => [((o 0), .inr (4, [.int th, .ref (o 1), .ref (o 2), .ref (o 3), .ref (o 4)])), ((o 1), .inl (D.1 5, 160, .inl (upd fj (4 * k) (-1)))), ((o 2), .inl (D.1 5, 24, .inl x0.1)), ((o 3), .inl (D.1 5, 26, .inl z.1)), ((o 4), .inl (D.1 5, 10, .inl z.2))]) (m_remember l D o th (upd fj (4 * k) (-1)) x0.1 fl (upd x0.2 5 (lo + 1)) 1 B pl k (by decide) ((upd_n (by decide)).trans ((x4 9 (by decide)).trans n9)) lB r3 ((upd_n (by decide)).trans ((x4 0 (by decide)).trans n0)) p12) cw_RX4_79 dX4_sweep_135 ⟨Nat.le_of_ble_eq_true rfl, Nat.le_of_ble_eq_true rfl, Nat.le_of_ble_eq_true rfl, Nat.le_of_ble_eq_true rfl⟩ rfl (Nat.le_of_ble_eq_true rfl) rfl rfl rfl (by decide) rfl (fun _ => Nat.le_of_ble_eq_true rfl) (fun _ => rfl) _ rfl (fun v (z : (Nat → Int32) × (Nat → Int32)) hp => ?_)
              obtain ⟨rfl, y1, y2, y3, y4⟩ := hp
              refine KJ.eqs (st' := []) rfl ?_
              refine k_iload_n hC 138 dX4_sweep_138 rfl ?_
              exact k_iret hC hE 139 (upd fj (4 * k) (-1), x0.1, z.1, z.2) dX4_sweep_139 rfl (⟨by rw [(swN_e hsw e).2], (swN_e hsw e).1 ▸ (show MR _ _ from ⟨⟨(RowL_keep r0 (fun i hi => x3 _ (by omega))), x1, (RowL_keep r2 (fun i hi => y3 _ (by omega))), y1⟩, ((hj.sh k (-1)).as (sf_put (sf_m kd.1 kd.2) (fun y hy => Iff.rfl) (fun y hy => by simp [hy]))), ⟨((y4 0 (by decide)).trans ((upd_n (by decide)).trans ((x4 0 (by decide)).trans n0))), ((y4 1 (by decide)).trans ((upd_n (by decide)).trans ((x4 1 (by decide)).trans n1))), ((y4 2 (by decide)).trans ((upd_n (by decide)).trans ((x4 2 (by decide)).trans n2))), ((y4 3 (by decide)).trans ((upd_n (by decide)).trans ((x4 3 (by decide)).trans n3))), ((y4 4 (by decide)).trans ((upd_n (by decide)).trans ((x4 4 (by decide)).trans n4))), (y4 5 (by decide)).trans (upd_s _ _ _)⟩, ((y4 6 (by decide)).trans ((upd_n (by decide)).trans ((x4 6 (by decide)).trans n6))), ((y4 7 (by decide)).trans ((upd_n (by decide)).trans x2)), ((y4 8 (by decide)).trans ((upd_n (by decide)).trans ((x4 8 (by decide)).trans n8))), y2⟩)⟩) rfl ⟨Nat.zero_le _, Nat.zero_le _⟩
            · skip
              refine k_aload_n hC 101 dX4_sweep_101 rfl ?_
              refine k_getf hC 102 0 1 dX4_sweep_102 rfl rfl inlX4 (by decide) wq_3_4 rfl ?_
              refine k_iconst hC 105 dX4_sweep_105 (nI 4) (by decide) ?_
              refine k_iload_n hC 106 dX4_sweep_106 rfl ?_
              refine n_imul hC 107 (4 * k) dX4_sweep_107 rfl ?_
              refine k_iconst hC 108 dX4_sweep_108 (nI 1) (by decide) ?_
              refine n_iadd hC 109 ((4 * k) + 1) dX4_sweep_109 rfl ?_
              refine k_iconst hC 110 dX4_sweep_110 (nI 0) (by decide) ?_
              refine n_iast hC 111 1 [((o 0), .inr (4, [.int th, .ref (o 1), .ref (o 2), .ref (o 3), .ref (o 4)])), ((o 1), .inl (D.1 5, 160, .inl (upd fj ((4 * k) + 1) (nI 0)))), ((o 2), .inl (D.1 5, 24, .inl x0.1)), ((o 3), .inl (D.1 5, 26, .inl fl)), ((o 4), .inl (D.1 5, 10, .inl (upd x0.2 5 (lo + 1))))] dX4_sweep_111 rfl (by omega) (by decide) rfl ?_
              refine k_aload_n hC 112 dX4_sweep_112 rfl ?_
              refine k_iconst hC 113 dX4_sweep_113 (nI 1) (by decide) ?_
              refine k_iload_n hC 114 dX4_sweep_114 rfl ?_
              refine k_callV hC 115 0 [0, 1, 2, 3, 4] (fun (z : (Nat → Int32) × (Nat → Int32)) => [((o 0), .inr (4, [.int th, .ref (o 1), .ref (o 2), .ref (o 3), .ref (o 4)])), ((o 1), .inl (D.1 5, 160, .inl (upd (upd fj ((4 * k) + 1) (nI 0)) (4 * k) (nI 1)))), ((o 2), .inl (D.1 5, 24, .inl z.1)), ((o 3), .inl (D.1 5, 26, .inl fl)), ((o 4), .inl (D.1 5, 10, .inl z.2))]) (m_putLastR l D o th (upd fj ((4 * k) + 1) (nI 0)) x0.1 fl (upd x0.2 5 (lo + 1)) 1 k T' (by decide) ((upd_n (by decide)).trans x2) (by omega) hk x1) cw_RX4_76 dX4_sweep_115 ⟨Nat.le_of_ble_eq_true rfl, Nat.le_of_ble_eq_true rfl, Nat.le_of_ble_eq_true rfl, Nat.le_of_ble_eq_true rfl⟩ rfl (Nat.le_of_ble_eq_true rfl) rfl rfl rfl (by decide) rfl (fun _ => Nat.le_of_ble_eq_true rfl) (fun _ => rfl) _ rfl (fun v (z : (Nat → Int32) × (Nat → Int32)) hp => ?_)
              obtain ⟨rfl, y1, y2, y3, y4⟩ := hp
              refine KJ.eqs (st' := []) rfl ?_
              refine k_goto hC 118 140 dX4_sweep_118 (by decide) ?_
              refine k_goto hC 140 0 dX4_sweep_140 (by decide) ?_
              refine KJ.lvp [3] rfl ?_
              have e := lk_1t (A := A) (B := B) (to := to) (fe := fe) (pl := pl) (hi := hi) (mi := mi) (re := re) (lo := lo) hg hp (by omega)
              have w2 := lk_wf hW0 hpj
              have j2 := lk_pj (s := (N, (k :: T'), A, B, to, pi, fe, pl, go, hi, mi, re, lo)) hpj
              rw [e] at w2 j2
              exact ih0 n N (T' ++ [k]) A B (va_up to k 0) pi fe pl go hi mi re (lo + 1) (upd (upd fj ((4 * k) + 1) (nI 0)) (4 * k) (nI 1)) z.1 fl z.2 (by omega) ⟨⟨(RowL_keep r0 (fun i hi => (y3 _ (by omega)).trans (x3 _ (by omega)))), y1, r2, r3⟩, (((hj.uto k 0).sh k (nI 1)).as (sf_put (sf_1 kd.1 (by simp)) (fun y hy => Iff.rfl) (fun y hy => by simp [hy]))), ⟨((y4 0 (by decide)).trans ((upd_n (by decide)).trans ((x4 0 (by decide)).trans n0))), ((y4 1 (by decide)).trans ((upd_n (by decide)).trans ((x4 1 (by decide)).trans n1))), ((y4 2 (by decide)).trans ((upd_n (by decide)).trans ((x4 2 (by decide)).trans n2))), ((y4 3 (by decide)).trans ((upd_n (by decide)).trans ((x4 3 (by decide)).trans n3))), ((y4 4 (by decide)).trans ((upd_n (by decide)).trans ((x4 4 (by decide)).trans n4))), (y4 5 (by decide)).trans (upd_s _ _ _)⟩, ((y4 6 (by decide)).trans ((upd_n (by decide)).trans ((x4 6 (by decide)).trans n6))), y2, ((y4 8 (by decide)).trans ((upd_n (by decide)).trans ((x4 8 (by decide)).trans n8))), ((y4 9 (by decide)).trans ((upd_n (by decide)).trans ((x4 9 (by decide)).trans n9)))⟩ w2 (swN_n hsw e) (by have j3 := j2.1; have j4 := j2.2.1; simp only [pnd, jrs, if_true] at j3 j4; omega)
          · skip
            refine k_aload_n hC 82 dX4_sweep_82 rfl ?_
            refine k_iload_n hC 83 dX4_sweep_83 rfl ?_
            refine k_iload_n hC 84 dX4_sweep_84 rfl ?_
            refine k_callV hC 85 0 [0, 1, 2, 3, 4] (fun (z : (Nat → Int32) × (Nat → Int32)) => [((o 0), .inr (4, [.int th, .ref (o 1), .ref (o 2), .ref (o 3), .ref (o 4)])), ((o 1), .inl (D.1 5, 160, .inl (upd fj (4 * k) (nI 1)))), ((o 2), .inl (D.1 5, 24, .inl z.1)), ((o 3), .inl (D.1 5, 26, .inl fl)), ((o 4), .inl (D.1 5, 10, .inl z.2))]) (m_putLastR l D o th fj x0.1 fl (upd x0.2 5 (lo + 1)) 1 k T' (by decide) ((upd_n (by decide)).trans x2) (by omega) hk x1) cw_RX4_76 dX4_sweep_85 ⟨Nat.le_of_ble_eq_true rfl, Nat.le_of_ble_eq_true rfl, Nat.le_of_ble_eq_true rfl, Nat.le_of_ble_eq_true rfl⟩ rfl (Nat.le_of_ble_eq_true rfl) rfl rfl rfl (by decide) rfl (fun _ => Nat.le_of_ble_eq_true rfl) (fun _ => rfl) _ rfl (fun v (z : (Nat → Int32) × (Nat → Int32)) hp => ?_)
            obtain ⟨rfl, y1, y2, y3, y4⟩ := hp
            refine KJ.eqs (st' := []) rfl ?_
            refine k_goto hC 88 140 dX4_sweep_88 (by decide) ?_
            refine k_goto hC 140 0 dX4_sweep_140 (by decide) ?_
            refine KJ.lvp [3] rfl ?_
            have e := lk_1p (A := A) (B := B) (to := to) (fe := fe) (pl := pl) (hi := hi) (mi := mi) (re := re) (lo := lo) hg hp
            have w2 := lk_wf hW0 hpj
            have j2 := lk_pj (s := (N, (k :: T'), A, B, to, pi, fe, pl, go, hi, mi, re, lo)) hpj
            rw [e] at w2 j2
            exact ih0 n N (T' ++ [k]) A B to pi fe pl go hi mi re (lo + 1) (upd fj (4 * k) (nI 1)) z.1 fl z.2 (by omega) ⟨⟨(RowL_keep r0 (fun i hi => (y3 _ (by omega)).trans (x3 _ (by omega)))), y1, r2, r3⟩, ((hj.sh k (nI 1)).as (sf_put (sf_1 kd.1 (by simp)) (fun y hy => Iff.rfl) (fun y hy => by simp [hy]))), ⟨((y4 0 (by decide)).trans ((upd_n (by decide)).trans ((x4 0 (by decide)).trans n0))), ((y4 1 (by decide)).trans ((upd_n (by decide)).trans ((x4 1 (by decide)).trans n1))), ((y4 2 (by decide)).trans ((upd_n (by decide)).trans ((x4 2 (by decide)).trans n2))), ((y4 3 (by decide)).trans ((upd_n (by decide)).trans ((x4 3 (by decide)).trans n3))), ((y4 4 (by decide)).trans ((upd_n (by decide)).trans ((x4 4 (by decide)).trans n4))), (y4 5 (by decide)).trans (upd_s _ _ _)⟩, ((y4 6 (by decide)).trans ((upd_n (by decide)).trans ((x4 6 (by decide)).trans n6))), y2, ((y4 8 (by decide)).trans ((upd_n (by decide)).trans ((x4 8 (by decide)).trans n8))), ((y4 9 (by decide)).trans ((upd_n (by decide)).trans ((x4 9 (by decide)).trans n9)))⟩ w2 (swN_n hsw e) (by have j3 := j2.1; have j4 := j2.2.1; simp only [pnd, jrs, if_true] at j3 j4; omega)
        · skip
          exact absurd h41 (by decide)
      · skip
        have a5 : pc pi N < N.length := Classical.byContradiction (fun z => h5 (yn_f z))
        refine k_aload_n hC 8 dX4_sweep_8 rfl ?_
        refine k_iconst hC 9 dX4_sweep_9 (nI 0) (by decide) ?_
        refine k_callVr hC 10 0 [0, 1, 2, 3, 4] (m_many l D o th fj fs fl fn 0 (by decide)) cw_RX4_34 dX4_sweep_10 ⟨Nat.le_of_ble_eq_true rfl, Nat.le_of_ble_eq_true rfl, Nat.le_of_ble_eq_true rfl, Nat.le_of_ble_eq_true rfl⟩ rfl (Nat.le_of_ble_eq_true rfl) rfl rfl rfl (by decide) rfl (fun _ => Nat.le_of_ble_eq_true rfl) (fun _ => rfl) _ rfl (fun v u hp => ?_)
        obtain rfl := hp
        refine KJ.eqs (st' := .int (fn (6 + 0)) :: []) rfl ?_
        refine KJ.topi (y := (nI N.length)) n6 ?_
        refine k_iconst hC 13 dX4_sweep_13 (nI 1) (by decide) ?_
        refine k_aload_n hC 14 dX4_sweep_14 rfl ?_
        refine k_getf hC 15 0 4 dX4_sweep_15 rfl rfl inlX4 (by decide) wq_3_7 rfl ?_
        refine k_iconst hC 18 dX4_sweep_18 (nI 1) (by decide) ?_
        refine n_iald hC 19 4 (nI go) dX4_sweep_19 rfl (by omega) (by decide) n1 ?_
        refine k_max hC 20 dX4_sweep_20 wq_9_22 wq_6_10 wq_6_6 wq_6_11 ⟨Nat.le_of_ble_eq_true rfl, Nat.le_of_ble_eq_true rfl, Nat.le_of_ble_eq_true rfl, Nat.le_of_ble_eq_true rfl⟩ (KJ.topi (y := (nI (max 1 go))) (nmax (by decide) (by omega)) ?_)
        refine n_icmp_ge hC 23 34 dX4_sweep_23 (by decide) (by omega) (by omega) (fun h23 => ?_) (fun h23 => ?_)
        · skip
          refine k_iconst hC 34 dX4_sweep_34 (nI 1) (by decide) ?_
          refine k_goto hC 35 39 dX4_sweep_35 (by decide) ?_
          refine k_istore_n hC 39 1 [(1, .int (nI 1)), (0, .ref (o 0))] dX4_sweep_39 rfl (by decide) rfl ?_
          refine k_iload_n hC 40 dX4_sweep_40 rfl ?_
          refine n_if_eq hC 41 48 dX4_sweep_41 (by decide) (by omega) (fun h41 => ?_) (fun h41 => ?_)
          · skip
            exact absurd h41 (by decide)
          · skip
            refine k_iconst hC 44 dX4_sweep_44 (nI 0) (by decide) ?_
            refine k_goto hC 45 49 dX4_sweep_45 (by decide) ?_
            refine k_istore_n hC 49 2 [(2, .int (nI 0)), (1, .int (nI 1)), (0, .ref (o 0))] dX4_sweep_49 rfl (by decide) rfl ?_
            have hg : gv N T pi go = 0 := by
              unfold gv
              split
              · first | rfl | (exfalso; omega)
              · first | rfl | (exfalso; omega)
            obtain ⟨k, N', rfl⟩ := gv_0 hg
            have kd : k ∉ N' ∧ k ∉ T := by
              have h := nd
              simp only [List.cons_append, List.nodup_cons, List.mem_append, not_or] at h
              exact h.1
            have hk : k < 40 := kN k List.mem_cons_self
            have lX : N'.length + 1 = (k :: N').length := rfl
            have t1k := t1 k
            have p9k := p9 k
            refine k_aload_n hC 50 dX4_sweep_50 rfl ?_
            refine k_iload_n hC 51 dX4_sweep_51 rfl ?_
            refine k_iconst hC 52 dX4_sweep_52 (nI 0) (by decide) ?_
            refine k_callVr hC 53 0 [0, 1, 2, 3, 4] (m_kindAt l D o th fj fs fl fn 0 0 (by decide)) cw_RX4_58 dX4_sweep_53 ⟨Nat.le_of_ble_eq_true rfl, Nat.le_of_ble_eq_true rfl, Nat.le_of_ble_eq_true rfl, Nat.le_of_ble_eq_true rfl⟩ rfl (Nat.le_of_ble_eq_true rfl) rfl rfl rfl (by decide) rfl (fun _ => Nat.le_of_ble_eq_true rfl) (fun _ => rfl) _ rfl (fun v u hp => ?_)
            obtain rfl := hp
            refine KJ.eqs (st' := .int (fs (12 * 0 + 0)) :: []) rfl ?_
            refine KJ.topi (y := (nI k)) (r0 0 (Nat.succ_pos _)) ?_
            refine k_istore_n hC 56 3 [(3, .int (nI k)), (2, .int (nI 0)), (1, .int (nI 1)), (0, .ref (o 0))] dX4_sweep_56 rfl (by decide) rfl ?_
            refine k_aload_n hC 57 dX4_sweep_57 rfl ?_
            refine k_iload_n hC 58 dX4_sweep_58 rfl ?_
            refine k_iconst hC 59 dX4_sweep_59 (nI 0) (by decide) ?_
            refine k_callV hC 60 0 [0, 1, 2, 3, 4] (fun (x0 : (Nat → Int32) × (Nat → Int32)) => [((o 0), .inr (4, [.int th, .ref (o 1), .ref (o 2), .ref (o 3), .ref (o 4)])), ((o 1), .inl (D.1 5, 160, .inl fj)), ((o 2), .inl (D.1 5, 24, .inl x0.1)), ((o 3), .inl (D.1 5, 26, .inl fl)), ((o 4), .inl (D.1 5, 10, .inl x0.2))]) (m_takeOutR l D o th fj fs fl fn 0 0 (k :: N') (by decide) n6 (Nat.succ_pos _) (by omega) r0) cw_RX4_73 dX4_sweep_60 ⟨Nat.le_of_ble_eq_true rfl, Nat.le_of_ble_eq_true rfl, Nat.le_of_ble_eq_true rfl, Nat.le_of_ble_eq_true rfl⟩ rfl (Nat.le_of_ble_eq_true rfl) rfl rfl rfl (by decide) rfl (fun _ => Nat.le_of_ble_eq_true rfl) (fun _ => rfl) _ rfl (fun v (x0 : (Nat → Int32) × (Nat → Int32)) hp => ?_)
            obtain ⟨rfl, x1, x2, x3, x4⟩ := hp
            refine KJ.eqs (st' := []) rfl ?_
            refine k_aload_n hC 63 dX4_sweep_63 rfl ?_
            refine k_getf hC 64 0 4 dX4_sweep_64 rfl rfl inlX4 (by decide) wq_3_7 rfl ?_
            refine k_iconst hC 67 dX4_sweep_67 (nI 5) (by decide) ?_
            refine k_dup2 hC 68 dX4_sweep_68 rfl rfl ?_
            refine n_iald hC 69 4 lo dX4_sweep_69 rfl (by omega) (by decide) ((x4 5 (by decide)).trans n5) ?_
            refine k_iconst hC 70 dX4_sweep_70 (nI 1) (by decide) ?_
            refine k_iadd hC 71 dX4_sweep_71 (KJ.topi (y := (lo + 1)) rfl ?_)
            refine n_iast hC 72 4 [((o 0), .inr (4, [.int th, .ref (o 1), .ref (o 2), .ref (o 3), .ref (o 4)])), ((o 1), .inl (D.1 5, 160, .inl fj)), ((o 2), .inl (D.1 5, 24, .inl x0.1)), ((o 3), .inl (D.1 5, 26, .inl fl)), ((o 4), .inl (D.1 5, 10, .inl (upd x0.2 5 (lo + 1))))] dX4_sweep_72 rfl (by omega) (by decide) rfl ?_
            refine k_aload_n hC 73 dX4_sweep_73 rfl ?_
            refine k_iload_n hC 74 dX4_sweep_74 rfl ?_
            refine k_iconst hC 75 dX4_sweep_75 (nI 2) (by decide) ?_
            refine k_callVr hC 76 0 [0, 1, 2, 3, 4] (m_ja l D o th fj x0.1 fl (upd x0.2 5 (lo + 1)) k 2 hk (by decide)) cw_RX4_30 dX4_sweep_76 ⟨Nat.le_of_ble_eq_true rfl, Nat.le_of_ble_eq_true rfl, Nat.le_of_ble_eq_true rfl, Nat.le_of_ble_eq_true rfl⟩ rfl (Nat.le_of_ble_eq_true rfl) rfl rfl rfl (by decide) rfl (fun _ => Nat.le_of_ble_eq_true rfl) (fun _ => rfl) _ rfl (fun v u hp => ?_)
            obtain rfl := hp
            refine KJ.eqs (st' := .int (fj (4 * k + 2)) :: []) rfl ?_
            refine KJ.topi (y := (nI (pi k))) (hj k hk).2.2.1 ?_
            refine n_if_le hC 79 91 dX4_sweep_79 (by decide) (by omega) (fun hp => ?_) (fun hp => ?_)
            · skip
              refine k_aload_n hC 91 dX4_sweep_91 rfl ?_
              refine k_iload_n hC 92 dX4_sweep_92 rfl ?_
              refine k_iconst hC 93 dX4_sweep_93 (nI 1) (by decide) ?_
              refine k_callVr hC 94 0 [0, 1, 2, 3, 4] (m_ja l D o th fj x0.1 fl (upd x0.2 5 (lo + 1)) k 1 hk (by decide)) cw_RX4_30 dX4_sweep_94 ⟨Nat.le_of_ble_eq_true rfl, Nat.le_of_ble_eq_true rfl, Nat.le_of_ble_eq_true rfl, Nat.le_of_ble_eq_true rfl⟩ rfl (Nat.le_of_ble_eq_true rfl) rfl rfl rfl (by decide) rfl (fun _ => Nat.le_of_ble_eq_true rfl) (fun _ => rfl) _ rfl (fun v u hp => ?_)
              obtain rfl := hp
              refine KJ.eqs (st' := .int (fj (4 * k + 1)) :: []) rfl ?_
              refine KJ.topi (y := (nI (to k))) (hj k hk).2.1 ?_
              refine k_iconst hC 97 dX4_sweep_97 (nI 1) (by decide) ?_
              refine n_icmp_ne hC 98 121 dX4_sweep_98 (by decide) (by omega) (by omega) (fun ht => ?_) (fun ht => ?_)
              · skip
                refine k_aload_n hC 121 dX4_sweep_121 rfl ?_
                refine k_getf hC 122 0 1 dX4_sweep_122 rfl rfl inlX4 (by decide) wq_3_4 rfl ?_
                refine k_iconst hC 125 dX4_sweep_125 (nI 4) (by decide) ?_
                refine k_iload_n hC 126 dX4_sweep_126 rfl ?_
                refine n_imul hC 127 (4 * k) dX4_sweep_127 rfl ?_
                refine k_iconst hC 128 dX4_sweep_128 (nI 0) (by decide) ?_
                refine n_iadd hC 129 (4 * k) dX4_sweep_129 (by omega) ?_
                refine k_iconst hC 130 dX4_sweep_130 (-1) (by decide) ?_
                refine n_iast hC 131 1 [((o 0), .inr (4, [.int th, .ref (o 1), .ref (o 2), .ref (o 3), .ref (o 4)])), ((o 1), .inl (D.1 5, 160, .inl (upd fj (4 * k) (-1)))), ((o 2), .inl (D.1 5, 24, .inl x0.1)), ((o 3), .inl (D.1 5, 26, .inl fl)), ((o 4), .inl (D.1 5, 10, .inl (upd x0.2 5 (lo + 1))))] dX4_sweep_131 rfl (by omega) (by decide) rfl ?_
                refine k_aload_n hC 132 dX4_sweep_132 rfl ?_
                refine k_iload_n hC 133 dX4_sweep_133 rfl ?_
                refine k_iload_n hC 134 dX4_sweep_134 rfl ?_
                have e := lk_0l (A := A) (B := B) (to := to) (fe := fe) (pl := pl) (hi := hi) (mi := mi) (re := re) (lo := lo) hg hp (by omega)
                refine k_callV hC 135 0 [0, 1, 2, 3, 4] (fun (z : (Nat → Int32) × (Nat → Int32)) => [((o 0), .inr (4, [.int th, .ref (o 1), .ref (o 2), .ref (o 3), .ref (o 4)])), ((o 1), .inl (D.1 5, 160, .inl (upd fj (4 * k) (-1)))), ((o 2), .inl (D.1 5, 24, .inl x0.1)), ((o 3), .inl (D.1 5, 26, .inl z.1)), ((o 4), .inl (D.1 5, 10, .inl z.2))]) (m_remember l D o th (upd fj (4 * k) (-1)) x0.1 fl (upd x0.2 5 (lo + 1)) 0 A pl k (by decide) ((upd_n (by decide)).trans ((x4 8 (by decide)).trans n8)) lA r2 ((upd_n (by decide)).trans ((x4 0 (by decide)).trans n0)) p12) cw_RX4_79 dX4_sweep_135 ⟨Nat.le_of_ble_eq_true rfl, Nat.le_of_ble_eq_true rfl, Nat.le_of_ble_eq_true rfl, Nat.le_of_ble_eq_true rfl⟩ rfl (Nat.le_of_ble_eq_true rfl) rfl rfl rfl (by decide) rfl (fun _ => Nat.le_of_ble_eq_true rfl) (fun _ => rfl) _ rfl (fun v (z : (Nat → Int32) × (Nat → Int32)) hp => ?_)
                obtain ⟨rfl, y1, y2, y3, y4⟩ := hp
                refine KJ.eqs (st' := []) rfl ?_
                refine k_iload_n hC 138 dX4_sweep_138 rfl ?_
                exact k_iret hC hE 139 (upd fj (4 * k) (-1), x0.1, z.1, z.2) dX4_sweep_139 rfl (⟨by rw [(swN_e hsw e).2], (swN_e hsw e).1 ▸ (show MR _ _ from ⟨⟨x1, (RowL_keep r1 (fun i hi => x3 _ (by omega))), y1, (RowL_keep r3 (fun i hi => y3 _ (by omega)))⟩, ((hj.sh k (-1)).as (sf_put (sf_m kd.1 kd.2) (fun y hy => by simp [hy]) (fun y hy => Iff.rfl))), ⟨((y4 0 (by decide)).trans ((upd_n (by decide)).trans ((x4 0 (by decide)).trans n0))), ((y4 1 (by decide)).trans ((upd_n (by decide)).trans ((x4 1 (by decide)).trans n1))), ((y4 2 (by decide)).trans ((upd_n (by decide)).trans ((x4 2 (by decide)).trans n2))), ((y4 3 (by decide)).trans ((upd_n (by decide)).trans ((x4 3 (by decide)).trans n3))), ((y4 4 (by decide)).trans ((upd_n (by decide)).trans ((x4 4 (by decide)).trans n4))), (y4 5 (by decide)).trans (upd_s _ _ _)⟩, ((y4 6 (by decide)).trans ((upd_n (by decide)).trans x2)), ((y4 7 (by decide)).trans ((upd_n (by decide)).trans ((x4 7 (by decide)).trans n7))), y2, ((y4 9 (by decide)).trans ((upd_n (by decide)).trans ((x4 9 (by decide)).trans n9)))⟩)⟩) rfl ⟨Nat.zero_le _, Nat.zero_le _⟩
              · skip
                refine k_aload_n hC 101 dX4_sweep_101 rfl ?_
                refine k_getf hC 102 0 1 dX4_sweep_102 rfl rfl inlX4 (by decide) wq_3_4 rfl ?_
                refine k_iconst hC 105 dX4_sweep_105 (nI 4) (by decide) ?_
                refine k_iload_n hC 106 dX4_sweep_106 rfl ?_
                refine n_imul hC 107 (4 * k) dX4_sweep_107 rfl ?_
                refine k_iconst hC 108 dX4_sweep_108 (nI 1) (by decide) ?_
                refine n_iadd hC 109 ((4 * k) + 1) dX4_sweep_109 rfl ?_
                refine k_iconst hC 110 dX4_sweep_110 (nI 0) (by decide) ?_
                refine n_iast hC 111 1 [((o 0), .inr (4, [.int th, .ref (o 1), .ref (o 2), .ref (o 3), .ref (o 4)])), ((o 1), .inl (D.1 5, 160, .inl (upd fj ((4 * k) + 1) (nI 0)))), ((o 2), .inl (D.1 5, 24, .inl x0.1)), ((o 3), .inl (D.1 5, 26, .inl fl)), ((o 4), .inl (D.1 5, 10, .inl (upd x0.2 5 (lo + 1))))] dX4_sweep_111 rfl (by omega) (by decide) rfl ?_
                refine k_aload_n hC 112 dX4_sweep_112 rfl ?_
                refine k_iconst hC 113 dX4_sweep_113 (nI 1) (by decide) ?_
                refine k_iload_n hC 114 dX4_sweep_114 rfl ?_
                refine k_callV hC 115 0 [0, 1, 2, 3, 4] (fun (z : (Nat → Int32) × (Nat → Int32)) => [((o 0), .inr (4, [.int th, .ref (o 1), .ref (o 2), .ref (o 3), .ref (o 4)])), ((o 1), .inl (D.1 5, 160, .inl (upd (upd fj ((4 * k) + 1) (nI 0)) (4 * k) (nI 1)))), ((o 2), .inl (D.1 5, 24, .inl z.1)), ((o 3), .inl (D.1 5, 26, .inl fl)), ((o 4), .inl (D.1 5, 10, .inl z.2))]) (m_putLastR l D o th (upd fj ((4 * k) + 1) (nI 0)) x0.1 fl (upd x0.2 5 (lo + 1)) 1 k T (by decide) ((upd_n (by decide)).trans ((x4 7 (by decide)).trans n7)) (by omega) hk (RowL_keep r1 (fun i hi => x3 _ (by omega)))) cw_RX4_76 dX4_sweep_115 ⟨Nat.le_of_ble_eq_true rfl, Nat.le_of_ble_eq_true rfl, Nat.le_of_ble_eq_true rfl, Nat.le_of_ble_eq_true rfl⟩ rfl (Nat.le_of_ble_eq_true rfl) rfl rfl rfl (by decide) rfl (fun _ => Nat.le_of_ble_eq_true rfl) (fun _ => rfl) _ rfl (fun v (z : (Nat → Int32) × (Nat → Int32)) hp => ?_)
                obtain ⟨rfl, y1, y2, y3, y4⟩ := hp
                refine KJ.eqs (st' := []) rfl ?_
                refine k_goto hC 118 140 dX4_sweep_118 (by decide) ?_
                refine k_goto hC 140 0 dX4_sweep_140 (by decide) ?_
                refine KJ.lvp [3] rfl ?_
                have e := lk_0t (A := A) (B := B) (to := to) (fe := fe) (pl := pl) (hi := hi) (mi := mi) (re := re) (lo := lo) hg hp (by omega)
                have w2 := lk_wf hW0 hpj
                have j2 := lk_pj (s := ((k :: N'), T, A, B, to, pi, fe, pl, go, hi, mi, re, lo)) hpj
                rw [e] at w2 j2
                exact ih0 n N' (T ++ [k]) A B (va_up to k 0) pi fe pl go hi mi re (lo + 1) (upd (upd fj ((4 * k) + 1) (nI 0)) (4 * k) (nI 1)) z.1 fl z.2 (by omega) ⟨⟨(RowL_keep x1 (fun i hi => y3 _ (by omega))), y1, r2, r3⟩, (((hj.uto k 0).sh k (nI 1)).as (sf_put (sf_1 kd.1 (by simp)) (fun y hy => by simp [hy]) (fun y hy => by simp [hy]))), ⟨((y4 0 (by decide)).trans ((upd_n (by decide)).trans ((x4 0 (by decide)).trans n0))), ((y4 1 (by decide)).trans ((upd_n (by decide)).trans ((x4 1 (by decide)).trans n1))), ((y4 2 (by decide)).trans ((upd_n (by decide)).trans ((x4 2 (by decide)).trans n2))), ((y4 3 (by decide)).trans ((upd_n (by decide)).trans ((x4 3 (by decide)).trans n3))), ((y4 4 (by decide)).trans ((upd_n (by decide)).trans ((x4 4 (by decide)).trans n4))), (y4 5 (by decide)).trans (upd_s _ _ _)⟩, ((y4 6 (by decide)).trans ((upd_n (by decide)).trans x2)), y2, ((y4 8 (by decide)).trans ((upd_n (by decide)).trans ((x4 8 (by decide)).trans n8))), ((y4 9 (by decide)).trans ((upd_n (by decide)).trans ((x4 9 (by decide)).trans n9)))⟩ w2 (swN_n hsw e) (by have j3 := j2.1; have j4 := j2.2.1; simp only [pnd, jrs, if_true] at j3 j4; omega)
            · skip
              refine k_aload_n hC 82 dX4_sweep_82 rfl ?_
              refine k_iload_n hC 83 dX4_sweep_83 rfl ?_
              refine k_iload_n hC 84 dX4_sweep_84 rfl ?_
              refine k_callV hC 85 0 [0, 1, 2, 3, 4] (fun (z : (Nat → Int32) × (Nat → Int32)) => [((o 0), .inr (4, [.int th, .ref (o 1), .ref (o 2), .ref (o 3), .ref (o 4)])), ((o 1), .inl (D.1 5, 160, .inl (upd fj (4 * k) (nI 0)))), ((o 2), .inl (D.1 5, 24, .inl z.1)), ((o 3), .inl (D.1 5, 26, .inl fl)), ((o 4), .inl (D.1 5, 10, .inl z.2))]) (m_putLastR l D o th fj x0.1 fl (upd x0.2 5 (lo + 1)) 0 k N' (by decide) ((upd_n (by decide)).trans x2) (by omega) hk x1) cw_RX4_76 dX4_sweep_85 ⟨Nat.le_of_ble_eq_true rfl, Nat.le_of_ble_eq_true rfl, Nat.le_of_ble_eq_true rfl, Nat.le_of_ble_eq_true rfl⟩ rfl (Nat.le_of_ble_eq_true rfl) rfl rfl rfl (by decide) rfl (fun _ => Nat.le_of_ble_eq_true rfl) (fun _ => rfl) _ rfl (fun v (z : (Nat → Int32) × (Nat → Int32)) hp => ?_)
              obtain ⟨rfl, y1, y2, y3, y4⟩ := hp
              refine KJ.eqs (st' := []) rfl ?_
              refine k_goto hC 88 140 dX4_sweep_88 (by decide) ?_
              refine k_goto hC 140 0 dX4_sweep_140 (by decide) ?_
              refine KJ.lvp [3] rfl ?_
              have e := lk_0p (A := A) (B := B) (to := to) (fe := fe) (pl := pl) (hi := hi) (mi := mi) (re := re) (lo := lo) hg hp
              have w2 := lk_wf hW0 hpj
              have j2 := lk_pj (s := ((k :: N'), T, A, B, to, pi, fe, pl, go, hi, mi, re, lo)) hpj
              rw [e] at w2 j2
              exact ih0 n (N' ++ [k]) T A B to pi fe pl go hi mi re (lo + 1) (upd fj (4 * k) (nI 0)) z.1 fl z.2 (by omega) ⟨⟨y1, (RowL_keep r1 (fun i hi => (y3 _ (by omega)).trans (x3 _ (by omega)))), r2, r3⟩, ((hj.sh k (nI 0)).as (sf_put (sf_0 (by simp)) (fun y hy => by simp [hy]) (fun y hy => Iff.rfl))), ⟨((y4 0 (by decide)).trans ((upd_n (by decide)).trans ((x4 0 (by decide)).trans n0))), ((y4 1 (by decide)).trans ((upd_n (by decide)).trans ((x4 1 (by decide)).trans n1))), ((y4 2 (by decide)).trans ((upd_n (by decide)).trans ((x4 2 (by decide)).trans n2))), ((y4 3 (by decide)).trans ((upd_n (by decide)).trans ((x4 3 (by decide)).trans n3))), ((y4 4 (by decide)).trans ((upd_n (by decide)).trans ((x4 4 (by decide)).trans n4))), (y4 5 (by decide)).trans (upd_s _ _ _)⟩, y2, ((y4 7 (by decide)).trans ((upd_n (by decide)).trans ((x4 7 (by decide)).trans n7))), ((y4 8 (by decide)).trans ((upd_n (by decide)).trans ((x4 8 (by decide)).trans n8))), ((y4 9 (by decide)).trans ((upd_n (by decide)).trans ((x4 9 (by decide)).trans n9)))⟩ w2 (swN_n hsw e) (by have j3 := j2.1; have j4 := j2.2.1; simp only [pnd, jrs, if_true] at j3 j4; omega)
        · skip
          refine k_aload_n hC 26 dX4_sweep_26 rfl ?_
          refine k_iconst hC 27 dX4_sweep_27 (nI 1) (by decide) ?_
          refine k_callVr hC 28 0 [0, 1, 2, 3, 4] (m_canGive l D o th fj fs fl fn 1 T pi (by decide) n7 (by omega) kT r1 (fun k hk => (hj k hk).2.2.1) p9) cw_RX4_65 dX4_sweep_28 ⟨Nat.le_of_ble_eq_true rfl, Nat.le_of_ble_eq_true rfl, Nat.le_of_ble_eq_true rfl, Nat.le_of_ble_eq_true rfl⟩ rfl (Nat.le_of_ble_eq_true rfl) rfl rfl rfl (by decide) rfl (fun _ => Nat.le_of_ble_eq_true rfl) (fun _ => rfl) _ rfl (fun v u hp => ?_)
          obtain rfl := hp
          refine KJ.eqs (st' := .int (nI (yn (pc pi T < T.length))) :: []) rfl ?_
          refine n_if_ne hC 31 38 dX4_sweep_31 (by decide) (Nat.lt_of_le_of_lt yn_le (by decide)) (fun h31 => ?_) (fun h31 => ?_)
          · skip
            have a31 : pc pi T < T.length := Classical.byContradiction (fun z => h31 (yn_f z))
            refine k_iconst hC 38 dX4_sweep_38 (nI 0) (by decide) ?_
            refine k_istore_n hC 39 1 [(1, .int (nI 0)), (0, .ref (o 0))] dX4_sweep_39 rfl (by decide) rfl ?_
            refine k_iload_n hC 40 dX4_sweep_40 rfl ?_
            refine n_if_eq hC 41 48 dX4_sweep_41 (by decide) (by omega) (fun h41 => ?_) (fun h41 => ?_)
            · skip
              refine k_iconst hC 48 dX4_sweep_48 (nI 1) (by decide) ?_
              refine k_istore_n hC 49 2 [(2, .int (nI 1)), (1, .int (nI 0)), (0, .ref (o 0))] dX4_sweep_49 rfl (by decide) rfl ?_
              have hg : gv N T pi go = 1 := by
                unfold gv
                split
                · first | rfl | (exfalso; omega)
                · first | rfl | (exfalso; omega)
              obtain ⟨k, T', rfl⟩ := gv_1 hg hpj
              have kd : k ∉ N ∧ k ∉ T' := by
                have h := List.perm_middle.nodup_iff.mp nd
                simp only [List.nodup_cons, List.mem_append, not_or] at h
                exact h.1
              have hk : k < 40 := kT k List.mem_cons_self
              have lX : T'.length + 1 = (k :: T').length := rfl
              have t1k := t1 k
              have p9k := p9 k
              refine k_aload_n hC 50 dX4_sweep_50 rfl ?_
              refine k_iload_n hC 51 dX4_sweep_51 rfl ?_
              refine k_iconst hC 52 dX4_sweep_52 (nI 0) (by decide) ?_
              refine k_callVr hC 53 0 [0, 1, 2, 3, 4] (m_kindAt l D o th fj fs fl fn 1 0 (by decide)) cw_RX4_58 dX4_sweep_53 ⟨Nat.le_of_ble_eq_true rfl, Nat.le_of_ble_eq_true rfl, Nat.le_of_ble_eq_true rfl, Nat.le_of_ble_eq_true rfl⟩ rfl (Nat.le_of_ble_eq_true rfl) rfl rfl rfl (by decide) rfl (fun _ => Nat.le_of_ble_eq_true rfl) (fun _ => rfl) _ rfl (fun v u hp => ?_)
              obtain rfl := hp
              refine KJ.eqs (st' := .int (fs (12 * 1 + 0)) :: []) rfl ?_
              refine KJ.topi (y := (nI k)) (r1 0 (Nat.succ_pos _)) ?_
              refine k_istore_n hC 56 3 [(3, .int (nI k)), (2, .int (nI 1)), (1, .int (nI 0)), (0, .ref (o 0))] dX4_sweep_56 rfl (by decide) rfl ?_
              refine k_aload_n hC 57 dX4_sweep_57 rfl ?_
              refine k_iload_n hC 58 dX4_sweep_58 rfl ?_
              refine k_iconst hC 59 dX4_sweep_59 (nI 0) (by decide) ?_
              refine k_callV hC 60 0 [0, 1, 2, 3, 4] (fun (x0 : (Nat → Int32) × (Nat → Int32)) => [((o 0), .inr (4, [.int th, .ref (o 1), .ref (o 2), .ref (o 3), .ref (o 4)])), ((o 1), .inl (D.1 5, 160, .inl fj)), ((o 2), .inl (D.1 5, 24, .inl x0.1)), ((o 3), .inl (D.1 5, 26, .inl fl)), ((o 4), .inl (D.1 5, 10, .inl x0.2))]) (m_takeOutR l D o th fj fs fl fn 1 0 (k :: T') (by decide) n7 (Nat.succ_pos _) (by omega) r1) cw_RX4_73 dX4_sweep_60 ⟨Nat.le_of_ble_eq_true rfl, Nat.le_of_ble_eq_true rfl, Nat.le_of_ble_eq_true rfl, Nat.le_of_ble_eq_true rfl⟩ rfl (Nat.le_of_ble_eq_true rfl) rfl rfl rfl (by decide) rfl (fun _ => Nat.le_of_ble_eq_true rfl) (fun _ => rfl) _ rfl (fun v (x0 : (Nat → Int32) × (Nat → Int32)) hp => ?_)
              obtain ⟨rfl, x1, x2, x3, x4⟩ := hp
              refine KJ.eqs (st' := []) rfl ?_
              refine k_aload_n hC 63 dX4_sweep_63 rfl ?_
              refine k_getf hC 64 0 4 dX4_sweep_64 rfl rfl inlX4 (by decide) wq_3_7 rfl ?_
              refine k_iconst hC 67 dX4_sweep_67 (nI 5) (by decide) ?_
              refine k_dup2 hC 68 dX4_sweep_68 rfl rfl ?_
              refine n_iald hC 69 4 lo dX4_sweep_69 rfl (by omega) (by decide) ((x4 5 (by decide)).trans n5) ?_
              refine k_iconst hC 70 dX4_sweep_70 (nI 1) (by decide) ?_
              refine k_iadd hC 71 dX4_sweep_71 (KJ.topi (y := (lo + 1)) rfl ?_)
              refine n_iast hC 72 4 [((o 0), .inr (4, [.int th, .ref (o 1), .ref (o 2), .ref (o 3), .ref (o 4)])), ((o 1), .inl (D.1 5, 160, .inl fj)), ((o 2), .inl (D.1 5, 24, .inl x0.1)), ((o 3), .inl (D.1 5, 26, .inl fl)), ((o 4), .inl (D.1 5, 10, .inl (upd x0.2 5 (lo + 1))))] dX4_sweep_72 rfl (by omega) (by decide) rfl ?_
              refine k_aload_n hC 73 dX4_sweep_73 rfl ?_
              refine k_iload_n hC 74 dX4_sweep_74 rfl ?_
              refine k_iconst hC 75 dX4_sweep_75 (nI 2) (by decide) ?_
              refine k_callVr hC 76 0 [0, 1, 2, 3, 4] (m_ja l D o th fj x0.1 fl (upd x0.2 5 (lo + 1)) k 2 hk (by decide)) cw_RX4_30 dX4_sweep_76 ⟨Nat.le_of_ble_eq_true rfl, Nat.le_of_ble_eq_true rfl, Nat.le_of_ble_eq_true rfl, Nat.le_of_ble_eq_true rfl⟩ rfl (Nat.le_of_ble_eq_true rfl) rfl rfl rfl (by decide) rfl (fun _ => Nat.le_of_ble_eq_true rfl) (fun _ => rfl) _ rfl (fun v u hp => ?_)
              obtain rfl := hp
              refine KJ.eqs (st' := .int (fj (4 * k + 2)) :: []) rfl ?_
              refine KJ.topi (y := (nI (pi k))) (hj k hk).2.2.1 ?_
              refine n_if_le hC 79 91 dX4_sweep_79 (by decide) (by omega) (fun hp => ?_) (fun hp => ?_)
              · skip
                refine k_aload_n hC 91 dX4_sweep_91 rfl ?_
                refine k_iload_n hC 92 dX4_sweep_92 rfl ?_
                refine k_iconst hC 93 dX4_sweep_93 (nI 1) (by decide) ?_
                refine k_callVr hC 94 0 [0, 1, 2, 3, 4] (m_ja l D o th fj x0.1 fl (upd x0.2 5 (lo + 1)) k 1 hk (by decide)) cw_RX4_30 dX4_sweep_94 ⟨Nat.le_of_ble_eq_true rfl, Nat.le_of_ble_eq_true rfl, Nat.le_of_ble_eq_true rfl, Nat.le_of_ble_eq_true rfl⟩ rfl (Nat.le_of_ble_eq_true rfl) rfl rfl rfl (by decide) rfl (fun _ => Nat.le_of_ble_eq_true rfl) (fun _ => rfl) _ rfl (fun v u hp => ?_)
                obtain rfl := hp
                refine KJ.eqs (st' := .int (fj (4 * k + 1)) :: []) rfl ?_
                refine KJ.topi (y := (nI (to k))) (hj k hk).2.1 ?_
                refine k_iconst hC 97 dX4_sweep_97 (nI 1) (by decide) ?_
                refine n_icmp_ne hC 98 121 dX4_sweep_98 (by decide) (by omega) (by omega) (fun ht => ?_) (fun ht => ?_)
                · skip
                  refine k_aload_n hC 121 dX4_sweep_121 rfl ?_
                  refine k_getf hC 122 0 1 dX4_sweep_122 rfl rfl inlX4 (by decide) wq_3_4 rfl ?_
                  refine k_iconst hC 125 dX4_sweep_125 (nI 4) (by decide) ?_
                  refine k_iload_n hC 126 dX4_sweep_126 rfl ?_
                  refine n_imul hC 127 (4 * k) dX4_sweep_127 rfl ?_
                  refine k_iconst hC 128 dX4_sweep_128 (nI 0) (by decide) ?_
                  refine n_iadd hC 129 (4 * k) dX4_sweep_129 (by omega) ?_
                  refine k_iconst hC 130 dX4_sweep_130 (-1) (by decide) ?_
                  refine n_iast hC 131 1 [((o 0), .inr (4, [.int th, .ref (o 1), .ref (o 2), .ref (o 3), .ref (o 4)])), ((o 1), .inl (D.1 5, 160, .inl (upd fj (4 * k) (-1)))), ((o 2), .inl (D.1 5, 24, .inl x0.1)), ((o 3), .inl (D.1 5, 26, .inl fl)), ((o 4), .inl (D.1 5, 10, .inl (upd x0.2 5 (lo + 1))))] dX4_sweep_131 rfl (by omega) (by decide) rfl ?_
                  refine k_aload_n hC 132 dX4_sweep_132 rfl ?_
                  refine k_iload_n hC 133 dX4_sweep_133 rfl ?_
                  refine k_iload_n hC 134 dX4_sweep_134 rfl ?_
                  have e := lk_1l (A := A) (B := B) (to := to) (fe := fe) (pl := pl) (hi := hi) (mi := mi) (re := re) (lo := lo) hg hp (by omega)
                  refine k_callV hC 135 0 [0, 1, 2, 3, 4] (fun (z : (Nat → Int32) × (Nat → Int32)) => [((o 0), .inr (4, [.int th, .ref (o 1), .ref (o 2), .ref (o 3), .ref (o 4)])), ((o 1), .inl (D.1 5, 160, .inl (upd fj (4 * k) (-1)))), ((o 2), .inl (D.1 5, 24, .inl x0.1)), ((o 3), .inl (D.1 5, 26, .inl z.1)), ((o 4), .inl (D.1 5, 10, .inl z.2))]) (m_remember l D o th (upd fj (4 * k) (-1)) x0.1 fl (upd x0.2 5 (lo + 1)) 1 B pl k (by decide) ((upd_n (by decide)).trans ((x4 9 (by decide)).trans n9)) lB r3 ((upd_n (by decide)).trans ((x4 0 (by decide)).trans n0)) p12) cw_RX4_79 dX4_sweep_135 ⟨Nat.le_of_ble_eq_true rfl, Nat.le_of_ble_eq_true rfl, Nat.le_of_ble_eq_true rfl, Nat.le_of_ble_eq_true rfl⟩ rfl (Nat.le_of_ble_eq_true rfl) rfl rfl rfl (by decide) rfl (fun _ => Nat.le_of_ble_eq_true rfl) (fun _ => rfl) _ rfl (fun v (z : (Nat → Int32) × (Nat → Int32)) hp => ?_)
                  obtain ⟨rfl, y1, y2, y3, y4⟩ := hp
                  refine KJ.eqs (st' := []) rfl ?_
                  refine k_iload_n hC 138 dX4_sweep_138 rfl ?_
                  exact k_iret hC hE 139 (upd fj (4 * k) (-1), x0.1, z.1, z.2) dX4_sweep_139 rfl (⟨by rw [(swN_e hsw e).2], (swN_e hsw e).1 ▸ (show MR _ _ from ⟨⟨(RowL_keep r0 (fun i hi => x3 _ (by omega))), x1, (RowL_keep r2 (fun i hi => y3 _ (by omega))), y1⟩, ((hj.sh k (-1)).as (sf_put (sf_m kd.1 kd.2) (fun y hy => Iff.rfl) (fun y hy => by simp [hy]))), ⟨((y4 0 (by decide)).trans ((upd_n (by decide)).trans ((x4 0 (by decide)).trans n0))), ((y4 1 (by decide)).trans ((upd_n (by decide)).trans ((x4 1 (by decide)).trans n1))), ((y4 2 (by decide)).trans ((upd_n (by decide)).trans ((x4 2 (by decide)).trans n2))), ((y4 3 (by decide)).trans ((upd_n (by decide)).trans ((x4 3 (by decide)).trans n3))), ((y4 4 (by decide)).trans ((upd_n (by decide)).trans ((x4 4 (by decide)).trans n4))), (y4 5 (by decide)).trans (upd_s _ _ _)⟩, ((y4 6 (by decide)).trans ((upd_n (by decide)).trans ((x4 6 (by decide)).trans n6))), ((y4 7 (by decide)).trans ((upd_n (by decide)).trans x2)), ((y4 8 (by decide)).trans ((upd_n (by decide)).trans ((x4 8 (by decide)).trans n8))), y2⟩)⟩) rfl ⟨Nat.zero_le _, Nat.zero_le _⟩
                · skip
                  refine k_aload_n hC 101 dX4_sweep_101 rfl ?_
                  refine k_getf hC 102 0 1 dX4_sweep_102 rfl rfl inlX4 (by decide) wq_3_4 rfl ?_
                  refine k_iconst hC 105 dX4_sweep_105 (nI 4) (by decide) ?_
                  refine k_iload_n hC 106 dX4_sweep_106 rfl ?_
                  refine n_imul hC 107 (4 * k) dX4_sweep_107 rfl ?_
                  refine k_iconst hC 108 dX4_sweep_108 (nI 1) (by decide) ?_
                  refine n_iadd hC 109 ((4 * k) + 1) dX4_sweep_109 rfl ?_
                  refine k_iconst hC 110 dX4_sweep_110 (nI 0) (by decide) ?_
                  refine n_iast hC 111 1 [((o 0), .inr (4, [.int th, .ref (o 1), .ref (o 2), .ref (o 3), .ref (o 4)])), ((o 1), .inl (D.1 5, 160, .inl (upd fj ((4 * k) + 1) (nI 0)))), ((o 2), .inl (D.1 5, 24, .inl x0.1)), ((o 3), .inl (D.1 5, 26, .inl fl)), ((o 4), .inl (D.1 5, 10, .inl (upd x0.2 5 (lo + 1))))] dX4_sweep_111 rfl (by omega) (by decide) rfl ?_
                  refine k_aload_n hC 112 dX4_sweep_112 rfl ?_
                  refine k_iconst hC 113 dX4_sweep_113 (nI 1) (by decide) ?_
                  refine k_iload_n hC 114 dX4_sweep_114 rfl ?_
                  refine k_callV hC 115 0 [0, 1, 2, 3, 4] (fun (z : (Nat → Int32) × (Nat → Int32)) => [((o 0), .inr (4, [.int th, .ref (o 1), .ref (o 2), .ref (o 3), .ref (o 4)])), ((o 1), .inl (D.1 5, 160, .inl (upd (upd fj ((4 * k) + 1) (nI 0)) (4 * k) (nI 1)))), ((o 2), .inl (D.1 5, 24, .inl z.1)), ((o 3), .inl (D.1 5, 26, .inl fl)), ((o 4), .inl (D.1 5, 10, .inl z.2))]) (m_putLastR l D o th (upd fj ((4 * k) + 1) (nI 0)) x0.1 fl (upd x0.2 5 (lo + 1)) 1 k T' (by decide) ((upd_n (by decide)).trans x2) (by omega) hk x1) cw_RX4_76 dX4_sweep_115 ⟨Nat.le_of_ble_eq_true rfl, Nat.le_of_ble_eq_true rfl, Nat.le_of_ble_eq_true rfl, Nat.le_of_ble_eq_true rfl⟩ rfl (Nat.le_of_ble_eq_true rfl) rfl rfl rfl (by decide) rfl (fun _ => Nat.le_of_ble_eq_true rfl) (fun _ => rfl) _ rfl (fun v (z : (Nat → Int32) × (Nat → Int32)) hp => ?_)
                  obtain ⟨rfl, y1, y2, y3, y4⟩ := hp
                  refine KJ.eqs (st' := []) rfl ?_
                  refine k_goto hC 118 140 dX4_sweep_118 (by decide) ?_
                  refine k_goto hC 140 0 dX4_sweep_140 (by decide) ?_
                  refine KJ.lvp [3] rfl ?_
                  have e := lk_1t (A := A) (B := B) (to := to) (fe := fe) (pl := pl) (hi := hi) (mi := mi) (re := re) (lo := lo) hg hp (by omega)
                  have w2 := lk_wf hW0 hpj
                  have j2 := lk_pj (s := (N, (k :: T'), A, B, to, pi, fe, pl, go, hi, mi, re, lo)) hpj
                  rw [e] at w2 j2
                  exact ih0 n N (T' ++ [k]) A B (va_up to k 0) pi fe pl go hi mi re (lo + 1) (upd (upd fj ((4 * k) + 1) (nI 0)) (4 * k) (nI 1)) z.1 fl z.2 (by omega) ⟨⟨(RowL_keep r0 (fun i hi => (y3 _ (by omega)).trans (x3 _ (by omega)))), y1, r2, r3⟩, (((hj.uto k 0).sh k (nI 1)).as (sf_put (sf_1 kd.1 (by simp)) (fun y hy => Iff.rfl) (fun y hy => by simp [hy]))), ⟨((y4 0 (by decide)).trans ((upd_n (by decide)).trans ((x4 0 (by decide)).trans n0))), ((y4 1 (by decide)).trans ((upd_n (by decide)).trans ((x4 1 (by decide)).trans n1))), ((y4 2 (by decide)).trans ((upd_n (by decide)).trans ((x4 2 (by decide)).trans n2))), ((y4 3 (by decide)).trans ((upd_n (by decide)).trans ((x4 3 (by decide)).trans n3))), ((y4 4 (by decide)).trans ((upd_n (by decide)).trans ((x4 4 (by decide)).trans n4))), (y4 5 (by decide)).trans (upd_s _ _ _)⟩, ((y4 6 (by decide)).trans ((upd_n (by decide)).trans ((x4 6 (by decide)).trans n6))), y2, ((y4 8 (by decide)).trans ((upd_n (by decide)).trans ((x4 8 (by decide)).trans n8))), ((y4 9 (by decide)).trans ((upd_n (by decide)).trans ((x4 9 (by decide)).trans n9)))⟩ w2 (swN_n hsw e) (by have j3 := j2.1; have j4 := j2.2.1; simp only [pnd, jrs, if_true] at j3 j4; omega)
              · skip
                refine k_aload_n hC 82 dX4_sweep_82 rfl ?_
                refine k_iload_n hC 83 dX4_sweep_83 rfl ?_
                refine k_iload_n hC 84 dX4_sweep_84 rfl ?_
                refine k_callV hC 85 0 [0, 1, 2, 3, 4] (fun (z : (Nat → Int32) × (Nat → Int32)) => [((o 0), .inr (4, [.int th, .ref (o 1), .ref (o 2), .ref (o 3), .ref (o 4)])), ((o 1), .inl (D.1 5, 160, .inl (upd fj (4 * k) (nI 1)))), ((o 2), .inl (D.1 5, 24, .inl z.1)), ((o 3), .inl (D.1 5, 26, .inl fl)), ((o 4), .inl (D.1 5, 10, .inl z.2))]) (m_putLastR l D o th fj x0.1 fl (upd x0.2 5 (lo + 1)) 1 k T' (by decide) ((upd_n (by decide)).trans x2) (by omega) hk x1) cw_RX4_76 dX4_sweep_85 ⟨Nat.le_of_ble_eq_true rfl, Nat.le_of_ble_eq_true rfl, Nat.le_of_ble_eq_true rfl, Nat.le_of_ble_eq_true rfl⟩ rfl (Nat.le_of_ble_eq_true rfl) rfl rfl rfl (by decide) rfl (fun _ => Nat.le_of_ble_eq_true rfl) (fun _ => rfl) _ rfl (fun v (z : (Nat → Int32) × (Nat → Int32)) hp => ?_)
                obtain ⟨rfl, y1, y2, y3, y4⟩ := hp
                refine KJ.eqs (st' := []) rfl ?_
                refine k_goto hC 88 140 dX4_sweep_88 (by decide) ?_
                refine k_goto hC 140 0 dX4_sweep_140 (by decide) ?_
                refine KJ.lvp [3] rfl ?_
                have e := lk_1p (A := A) (B := B) (to := to) (fe := fe) (pl := pl) (hi := hi) (mi := mi) (re := re) (lo := lo) hg hp
                have w2 := lk_wf hW0 hpj
                have j2 := lk_pj (s := (N, (k :: T'), A, B, to, pi, fe, pl, go, hi, mi, re, lo)) hpj
                rw [e] at w2 j2
                exact ih0 n N (T' ++ [k]) A B to pi fe pl go hi mi re (lo + 1) (upd fj (4 * k) (nI 1)) z.1 fl z.2 (by omega) ⟨⟨(RowL_keep r0 (fun i hi => (y3 _ (by omega)).trans (x3 _ (by omega)))), y1, r2, r3⟩, ((hj.sh k (nI 1)).as (sf_put (sf_1 kd.1 (by simp)) (fun y hy => Iff.rfl) (fun y hy => by simp [hy]))), ⟨((y4 0 (by decide)).trans ((upd_n (by decide)).trans ((x4 0 (by decide)).trans n0))), ((y4 1 (by decide)).trans ((upd_n (by decide)).trans ((x4 1 (by decide)).trans n1))), ((y4 2 (by decide)).trans ((upd_n (by decide)).trans ((x4 2 (by decide)).trans n2))), ((y4 3 (by decide)).trans ((upd_n (by decide)).trans ((x4 3 (by decide)).trans n3))), ((y4 4 (by decide)).trans ((upd_n (by decide)).trans ((x4 4 (by decide)).trans n4))), (y4 5 (by decide)).trans (upd_s _ _ _)⟩, ((y4 6 (by decide)).trans ((upd_n (by decide)).trans ((x4 6 (by decide)).trans n6))), y2, ((y4 8 (by decide)).trans ((upd_n (by decide)).trans ((x4 8 (by decide)).trans n8))), ((y4 9 (by decide)).trans ((upd_n (by decide)).trans ((x4 9 (by decide)).trans n9)))⟩ w2 (swN_n hsw e) (by have j3 := j2.1; have j4 := j2.2.1; simp only [pnd, jrs, if_true] at j3 j4; omega)
            · skip
              exact absurd h41 (by decide)
          · skip
            have a31 := yn_0.mp h31
            refine k_iconst hC 34 dX4_sweep_34 (nI 1) (by decide) ?_
            refine k_goto hC 35 39 dX4_sweep_35 (by decide) ?_
            refine k_istore_n hC 39 1 [(1, .int (nI 1)), (0, .ref (o 0))] dX4_sweep_39 rfl (by decide) rfl ?_
            refine k_iload_n hC 40 dX4_sweep_40 rfl ?_
            refine n_if_eq hC 41 48 dX4_sweep_41 (by decide) (by omega) (fun h41 => ?_) (fun h41 => ?_)
            · skip
              exact absurd h41 (by decide)
            · skip
              refine k_iconst hC 44 dX4_sweep_44 (nI 0) (by decide) ?_
              refine k_goto hC 45 49 dX4_sweep_45 (by decide) ?_
              refine k_istore_n hC 49 2 [(2, .int (nI 0)), (1, .int (nI 1)), (0, .ref (o 0))] dX4_sweep_49 rfl (by decide) rfl ?_
              have hg : gv N T pi go = 0 := by
                unfold gv
                split
                · first | rfl | (exfalso; omega)
                · first | rfl | (exfalso; omega)
              obtain ⟨k, N', rfl⟩ := gv_0 hg
              have kd : k ∉ N' ∧ k ∉ T := by
                have h := nd
                simp only [List.cons_append, List.nodup_cons, List.mem_append, not_or] at h
                exact h.1
              have hk : k < 40 := kN k List.mem_cons_self
              have lX : N'.length + 1 = (k :: N').length := rfl
              have t1k := t1 k
              have p9k := p9 k
              refine k_aload_n hC 50 dX4_sweep_50 rfl ?_
              refine k_iload_n hC 51 dX4_sweep_51 rfl ?_
              refine k_iconst hC 52 dX4_sweep_52 (nI 0) (by decide) ?_
              refine k_callVr hC 53 0 [0, 1, 2, 3, 4] (m_kindAt l D o th fj fs fl fn 0 0 (by decide)) cw_RX4_58 dX4_sweep_53 ⟨Nat.le_of_ble_eq_true rfl, Nat.le_of_ble_eq_true rfl, Nat.le_of_ble_eq_true rfl, Nat.le_of_ble_eq_true rfl⟩ rfl (Nat.le_of_ble_eq_true rfl) rfl rfl rfl (by decide) rfl (fun _ => Nat.le_of_ble_eq_true rfl) (fun _ => rfl) _ rfl (fun v u hp => ?_)
              obtain rfl := hp
              refine KJ.eqs (st' := .int (fs (12 * 0 + 0)) :: []) rfl ?_
              refine KJ.topi (y := (nI k)) (r0 0 (Nat.succ_pos _)) ?_
              refine k_istore_n hC 56 3 [(3, .int (nI k)), (2, .int (nI 0)), (1, .int (nI 1)), (0, .ref (o 0))] dX4_sweep_56 rfl (by decide) rfl ?_
              refine k_aload_n hC 57 dX4_sweep_57 rfl ?_
              refine k_iload_n hC 58 dX4_sweep_58 rfl ?_
              refine k_iconst hC 59 dX4_sweep_59 (nI 0) (by decide) ?_
              refine k_callV hC 60 0 [0, 1, 2, 3, 4] (fun (x0 : (Nat → Int32) × (Nat → Int32)) => [((o 0), .inr (4, [.int th, .ref (o 1), .ref (o 2), .ref (o 3), .ref (o 4)])), ((o 1), .inl (D.1 5, 160, .inl fj)), ((o 2), .inl (D.1 5, 24, .inl x0.1)), ((o 3), .inl (D.1 5, 26, .inl fl)), ((o 4), .inl (D.1 5, 10, .inl x0.2))]) (m_takeOutR l D o th fj fs fl fn 0 0 (k :: N') (by decide) n6 (Nat.succ_pos _) (by omega) r0) cw_RX4_73 dX4_sweep_60 ⟨Nat.le_of_ble_eq_true rfl, Nat.le_of_ble_eq_true rfl, Nat.le_of_ble_eq_true rfl, Nat.le_of_ble_eq_true rfl⟩ rfl (Nat.le_of_ble_eq_true rfl) rfl rfl rfl (by decide) rfl (fun _ => Nat.le_of_ble_eq_true rfl) (fun _ => rfl) _ rfl (fun v (x0 : (Nat → Int32) × (Nat → Int32)) hp => ?_)
              obtain ⟨rfl, x1, x2, x3, x4⟩ := hp
              refine KJ.eqs (st' := []) rfl ?_
              refine k_aload_n hC 63 dX4_sweep_63 rfl ?_
              refine k_getf hC 64 0 4 dX4_sweep_64 rfl rfl inlX4 (by decide) wq_3_7 rfl ?_
              refine k_iconst hC 67 dX4_sweep_67 (nI 5) (by decide) ?_
              refine k_dup2 hC 68 dX4_sweep_68 rfl rfl ?_
              refine n_iald hC 69 4 lo dX4_sweep_69 rfl (by omega) (by decide) ((x4 5 (by decide)).trans n5) ?_
              refine k_iconst hC 70 dX4_sweep_70 (nI 1) (by decide) ?_
              refine k_iadd hC 71 dX4_sweep_71 (KJ.topi (y := (lo + 1)) rfl ?_)
              refine n_iast hC 72 4 [((o 0), .inr (4, [.int th, .ref (o 1), .ref (o 2), .ref (o 3), .ref (o 4)])), ((o 1), .inl (D.1 5, 160, .inl fj)), ((o 2), .inl (D.1 5, 24, .inl x0.1)), ((o 3), .inl (D.1 5, 26, .inl fl)), ((o 4), .inl (D.1 5, 10, .inl (upd x0.2 5 (lo + 1))))] dX4_sweep_72 rfl (by omega) (by decide) rfl ?_
              refine k_aload_n hC 73 dX4_sweep_73 rfl ?_
              refine k_iload_n hC 74 dX4_sweep_74 rfl ?_
              refine k_iconst hC 75 dX4_sweep_75 (nI 2) (by decide) ?_
              refine k_callVr hC 76 0 [0, 1, 2, 3, 4] (m_ja l D o th fj x0.1 fl (upd x0.2 5 (lo + 1)) k 2 hk (by decide)) cw_RX4_30 dX4_sweep_76 ⟨Nat.le_of_ble_eq_true rfl, Nat.le_of_ble_eq_true rfl, Nat.le_of_ble_eq_true rfl, Nat.le_of_ble_eq_true rfl⟩ rfl (Nat.le_of_ble_eq_true rfl) rfl rfl rfl (by decide) rfl (fun _ => Nat.le_of_ble_eq_true rfl) (fun _ => rfl) _ rfl (fun v u hp => ?_)
              obtain rfl := hp
              refine KJ.eqs (st' := .int (fj (4 * k + 2)) :: []) rfl ?_
              refine KJ.topi (y := (nI (pi k))) (hj k hk).2.2.1 ?_
              refine n_if_le hC 79 91 dX4_sweep_79 (by decide) (by omega) (fun hp => ?_) (fun hp => ?_)
              · skip
                refine k_aload_n hC 91 dX4_sweep_91 rfl ?_
                refine k_iload_n hC 92 dX4_sweep_92 rfl ?_
                refine k_iconst hC 93 dX4_sweep_93 (nI 1) (by decide) ?_
                refine k_callVr hC 94 0 [0, 1, 2, 3, 4] (m_ja l D o th fj x0.1 fl (upd x0.2 5 (lo + 1)) k 1 hk (by decide)) cw_RX4_30 dX4_sweep_94 ⟨Nat.le_of_ble_eq_true rfl, Nat.le_of_ble_eq_true rfl, Nat.le_of_ble_eq_true rfl, Nat.le_of_ble_eq_true rfl⟩ rfl (Nat.le_of_ble_eq_true rfl) rfl rfl rfl (by decide) rfl (fun _ => Nat.le_of_ble_eq_true rfl) (fun _ => rfl) _ rfl (fun v u hp => ?_)
                obtain rfl := hp
                refine KJ.eqs (st' := .int (fj (4 * k + 1)) :: []) rfl ?_
                refine KJ.topi (y := (nI (to k))) (hj k hk).2.1 ?_
                refine k_iconst hC 97 dX4_sweep_97 (nI 1) (by decide) ?_
                refine n_icmp_ne hC 98 121 dX4_sweep_98 (by decide) (by omega) (by omega) (fun ht => ?_) (fun ht => ?_)
                · skip
                  refine k_aload_n hC 121 dX4_sweep_121 rfl ?_
                  refine k_getf hC 122 0 1 dX4_sweep_122 rfl rfl inlX4 (by decide) wq_3_4 rfl ?_
                  refine k_iconst hC 125 dX4_sweep_125 (nI 4) (by decide) ?_
                  refine k_iload_n hC 126 dX4_sweep_126 rfl ?_
                  refine n_imul hC 127 (4 * k) dX4_sweep_127 rfl ?_
                  refine k_iconst hC 128 dX4_sweep_128 (nI 0) (by decide) ?_
                  refine n_iadd hC 129 (4 * k) dX4_sweep_129 (by omega) ?_
                  refine k_iconst hC 130 dX4_sweep_130 (-1) (by decide) ?_
                  refine n_iast hC 131 1 [((o 0), .inr (4, [.int th, .ref (o 1), .ref (o 2), .ref (o 3), .ref (o 4)])), ((o 1), .inl (D.1 5, 160, .inl (upd fj (4 * k) (-1)))), ((o 2), .inl (D.1 5, 24, .inl x0.1)), ((o 3), .inl (D.1 5, 26, .inl fl)), ((o 4), .inl (D.1 5, 10, .inl (upd x0.2 5 (lo + 1))))] dX4_sweep_131 rfl (by omega) (by decide) rfl ?_
                  refine k_aload_n hC 132 dX4_sweep_132 rfl ?_
                  refine k_iload_n hC 133 dX4_sweep_133 rfl ?_
                  refine k_iload_n hC 134 dX4_sweep_134 rfl ?_
                  have e := lk_0l (A := A) (B := B) (to := to) (fe := fe) (pl := pl) (hi := hi) (mi := mi) (re := re) (lo := lo) hg hp (by omega)
                  refine k_callV hC 135 0 [0, 1, 2, 3, 4] (fun (z : (Nat → Int32) × (Nat → Int32)) => [((o 0), .inr (4, [.int th, .ref (o 1), .ref (o 2), .ref (o 3), .ref (o 4)])), ((o 1), .inl (D.1 5, 160, .inl (upd fj (4 * k) (-1)))), ((o 2), .inl (D.1 5, 24, .inl x0.1)), ((o 3), .inl (D.1 5, 26, .inl z.1)), ((o 4), .inl (D.1 5, 10, .inl z.2))]) (m_remember l D o th (upd fj (4 * k) (-1)) x0.1 fl (upd x0.2 5 (lo + 1)) 0 A pl k (by decide) ((upd_n (by decide)).trans ((x4 8 (by decide)).trans n8)) lA r2 ((upd_n (by decide)).trans ((x4 0 (by decide)).trans n0)) p12) cw_RX4_79 dX4_sweep_135 ⟨Nat.le_of_ble_eq_true rfl, Nat.le_of_ble_eq_true rfl, Nat.le_of_ble_eq_true rfl, Nat.le_of_ble_eq_true rfl⟩ rfl (Nat.le_of_ble_eq_true rfl) rfl rfl rfl (by decide) rfl (fun _ => Nat.le_of_ble_eq_true rfl) (fun _ => rfl) _ rfl (fun v (z : (Nat → Int32) × (Nat → Int32)) hp => ?_)
                  obtain ⟨rfl, y1, y2, y3, y4⟩ := hp
                  refine KJ.eqs (st' := []) rfl ?_
                  refine k_iload_n hC 138 dX4_sweep_138 rfl ?_
                  exact k_iret hC hE 139 (upd fj (4 * k) (-1), x0.1, z.1, z.2) dX4_sweep_139 rfl (⟨by rw [(swN_e hsw e).2], (swN_e hsw e).1 ▸ (show MR _ _ from ⟨⟨x1, (RowL_keep r1 (fun i hi => x3 _ (by omega))), y1, (RowL_keep r3 (fun i hi => y3 _ (by omega)))⟩, ((hj.sh k (-1)).as (sf_put (sf_m kd.1 kd.2) (fun y hy => by simp [hy]) (fun y hy => Iff.rfl))), ⟨((y4 0 (by decide)).trans ((upd_n (by decide)).trans ((x4 0 (by decide)).trans n0))), ((y4 1 (by decide)).trans ((upd_n (by decide)).trans ((x4 1 (by decide)).trans n1))), ((y4 2 (by decide)).trans ((upd_n (by decide)).trans ((x4 2 (by decide)).trans n2))), ((y4 3 (by decide)).trans ((upd_n (by decide)).trans ((x4 3 (by decide)).trans n3))), ((y4 4 (by decide)).trans ((upd_n (by decide)).trans ((x4 4 (by decide)).trans n4))), (y4 5 (by decide)).trans (upd_s _ _ _)⟩, ((y4 6 (by decide)).trans ((upd_n (by decide)).trans x2)), ((y4 7 (by decide)).trans ((upd_n (by decide)).trans ((x4 7 (by decide)).trans n7))), y2, ((y4 9 (by decide)).trans ((upd_n (by decide)).trans ((x4 9 (by decide)).trans n9)))⟩)⟩) rfl ⟨Nat.zero_le _, Nat.zero_le _⟩
                · skip
                  refine k_aload_n hC 101 dX4_sweep_101 rfl ?_
                  refine k_getf hC 102 0 1 dX4_sweep_102 rfl rfl inlX4 (by decide) wq_3_4 rfl ?_
                  refine k_iconst hC 105 dX4_sweep_105 (nI 4) (by decide) ?_
                  refine k_iload_n hC 106 dX4_sweep_106 rfl ?_
                  refine n_imul hC 107 (4 * k) dX4_sweep_107 rfl ?_
                  refine k_iconst hC 108 dX4_sweep_108 (nI 1) (by decide) ?_
                  refine n_iadd hC 109 ((4 * k) + 1) dX4_sweep_109 rfl ?_
                  refine k_iconst hC 110 dX4_sweep_110 (nI 0) (by decide) ?_
                  refine n_iast hC 111 1 [((o 0), .inr (4, [.int th, .ref (o 1), .ref (o 2), .ref (o 3), .ref (o 4)])), ((o 1), .inl (D.1 5, 160, .inl (upd fj ((4 * k) + 1) (nI 0)))), ((o 2), .inl (D.1 5, 24, .inl x0.1)), ((o 3), .inl (D.1 5, 26, .inl fl)), ((o 4), .inl (D.1 5, 10, .inl (upd x0.2 5 (lo + 1))))] dX4_sweep_111 rfl (by omega) (by decide) rfl ?_
                  refine k_aload_n hC 112 dX4_sweep_112 rfl ?_
                  refine k_iconst hC 113 dX4_sweep_113 (nI 1) (by decide) ?_
                  refine k_iload_n hC 114 dX4_sweep_114 rfl ?_
                  refine k_callV hC 115 0 [0, 1, 2, 3, 4] (fun (z : (Nat → Int32) × (Nat → Int32)) => [((o 0), .inr (4, [.int th, .ref (o 1), .ref (o 2), .ref (o 3), .ref (o 4)])), ((o 1), .inl (D.1 5, 160, .inl (upd (upd fj ((4 * k) + 1) (nI 0)) (4 * k) (nI 1)))), ((o 2), .inl (D.1 5, 24, .inl z.1)), ((o 3), .inl (D.1 5, 26, .inl fl)), ((o 4), .inl (D.1 5, 10, .inl z.2))]) (m_putLastR l D o th (upd fj ((4 * k) + 1) (nI 0)) x0.1 fl (upd x0.2 5 (lo + 1)) 1 k T (by decide) ((upd_n (by decide)).trans ((x4 7 (by decide)).trans n7)) (by omega) hk (RowL_keep r1 (fun i hi => x3 _ (by omega)))) cw_RX4_76 dX4_sweep_115 ⟨Nat.le_of_ble_eq_true rfl, Nat.le_of_ble_eq_true rfl, Nat.le_of_ble_eq_true rfl, Nat.le_of_ble_eq_true rfl⟩ rfl (Nat.le_of_ble_eq_true rfl) rfl rfl rfl (by decide) rfl (fun _ => Nat.le_of_ble_eq_true rfl) (fun _ => rfl) _ rfl (fun v (z : (Nat → Int32) × (Nat → Int32)) hp => ?_)
                  obtain ⟨rfl, y1, y2, y3, y4⟩ := hp
                  refine KJ.eqs (st' := []) rfl ?_
                  refine k_goto hC 118 140 dX4_sweep_118 (by decide) ?_
                  refine k_goto hC 140 0 dX4_sweep_140 (by decide) ?_
                  refine KJ.lvp [3] rfl ?_
                  have e := lk_0t (A := A) (B := B) (to := to) (fe := fe) (pl := pl) (hi := hi) (mi := mi) (re := re) (lo := lo) hg hp (by omega)
                  have w2 := lk_wf hW0 hpj
                  have j2 := lk_pj (s := ((k :: N'), T, A, B, to, pi, fe, pl, go, hi, mi, re, lo)) hpj
                  rw [e] at w2 j2
                  exact ih0 n N' (T ++ [k]) A B (va_up to k 0) pi fe pl go hi mi re (lo + 1) (upd (upd fj ((4 * k) + 1) (nI 0)) (4 * k) (nI 1)) z.1 fl z.2 (by omega) ⟨⟨(RowL_keep x1 (fun i hi => y3 _ (by omega))), y1, r2, r3⟩, (((hj.uto k 0).sh k (nI 1)).as (sf_put (sf_1 kd.1 (by simp)) (fun y hy => by simp [hy]) (fun y hy => by simp [hy]))), ⟨((y4 0 (by decide)).trans ((upd_n (by decide)).trans ((x4 0 (by decide)).trans n0))), ((y4 1 (by decide)).trans ((upd_n (by decide)).trans ((x4 1 (by decide)).trans n1))), ((y4 2 (by decide)).trans ((upd_n (by decide)).trans ((x4 2 (by decide)).trans n2))), ((y4 3 (by decide)).trans ((upd_n (by decide)).trans ((x4 3 (by decide)).trans n3))), ((y4 4 (by decide)).trans ((upd_n (by decide)).trans ((x4 4 (by decide)).trans n4))), (y4 5 (by decide)).trans (upd_s _ _ _)⟩, ((y4 6 (by decide)).trans ((upd_n (by decide)).trans x2)), y2, ((y4 8 (by decide)).trans ((upd_n (by decide)).trans ((x4 8 (by decide)).trans n8))), ((y4 9 (by decide)).trans ((upd_n (by decide)).trans ((x4 9 (by decide)).trans n9)))⟩ w2 (swN_n hsw e) (by have j3 := j2.1; have j4 := j2.2.1; simp only [pnd, jrs, if_true] at j3 j4; omega)
              · skip
                refine k_aload_n hC 82 dX4_sweep_82 rfl ?_
                refine k_iload_n hC 83 dX4_sweep_83 rfl ?_
                refine k_iload_n hC 84 dX4_sweep_84 rfl ?_
                refine k_callV hC 85 0 [0, 1, 2, 3, 4] (fun (z : (Nat → Int32) × (Nat → Int32)) => [((o 0), .inr (4, [.int th, .ref (o 1), .ref (o 2), .ref (o 3), .ref (o 4)])), ((o 1), .inl (D.1 5, 160, .inl (upd fj (4 * k) (nI 0)))), ((o 2), .inl (D.1 5, 24, .inl z.1)), ((o 3), .inl (D.1 5, 26, .inl fl)), ((o 4), .inl (D.1 5, 10, .inl z.2))]) (m_putLastR l D o th fj x0.1 fl (upd x0.2 5 (lo + 1)) 0 k N' (by decide) ((upd_n (by decide)).trans x2) (by omega) hk x1) cw_RX4_76 dX4_sweep_85 ⟨Nat.le_of_ble_eq_true rfl, Nat.le_of_ble_eq_true rfl, Nat.le_of_ble_eq_true rfl, Nat.le_of_ble_eq_true rfl⟩ rfl (Nat.le_of_ble_eq_true rfl) rfl rfl rfl (by decide) rfl (fun _ => Nat.le_of_ble_eq_true rfl) (fun _ => rfl) _ rfl (fun v (z : (Nat → Int32) × (Nat → Int32)) hp => ?_)
                obtain ⟨rfl, y1, y2, y3, y4⟩ := hp
                refine KJ.eqs (st' := []) rfl ?_
                refine k_goto hC 88 140 dX4_sweep_88 (by decide) ?_
                refine k_goto hC 140 0 dX4_sweep_140 (by decide) ?_
                refine KJ.lvp [3] rfl ?_
                have e := lk_0p (A := A) (B := B) (to := to) (fe := fe) (pl := pl) (hi := hi) (mi := mi) (re := re) (lo := lo) hg hp
                have w2 := lk_wf hW0 hpj
                have j2 := lk_pj (s := ((k :: N'), T, A, B, to, pi, fe, pl, go, hi, mi, re, lo)) hpj
                rw [e] at w2 j2
                exact ih0 n (N' ++ [k]) T A B to pi fe pl go hi mi re (lo + 1) (upd fj (4 * k) (nI 0)) z.1 fl z.2 (by omega) ⟨⟨y1, (RowL_keep r1 (fun i hi => (y3 _ (by omega)).trans (x3 _ (by omega)))), r2, r3⟩, ((hj.sh k (nI 0)).as (sf_put (sf_0 (by simp)) (fun y hy => by simp [hy]) (fun y hy => Iff.rfl))), ⟨((y4 0 (by decide)).trans ((upd_n (by decide)).trans ((x4 0 (by decide)).trans n0))), ((y4 1 (by decide)).trans ((upd_n (by decide)).trans ((x4 1 (by decide)).trans n1))), ((y4 2 (by decide)).trans ((upd_n (by decide)).trans ((x4 2 (by decide)).trans n2))), ((y4 3 (by decide)).trans ((upd_n (by decide)).trans ((x4 3 (by decide)).trans n3))), ((y4 4 (by decide)).trans ((upd_n (by decide)).trans ((x4 4 (by decide)).trans n4))), (y4 5 (by decide)).trans (upd_s _ _ _)⟩, y2, ((y4 7 (by decide)).trans ((upd_n (by decide)).trans ((x4 7 (by decide)).trans n7))), ((y4 8 (by decide)).trans ((upd_n (by decide)).trans ((x4 8 (by decide)).trans n8))), ((y4 9 (by decide)).trans ((upd_n (by decide)).trans ((x4 9 (by decide)).trans n9)))⟩ w2 (swN_n hsw e) (by have j3 := j2.1; have j4 := j2.2.1; simp only [pnd, jrs, if_true] at j3 j4; omega)
  exact loop0 (n + 1) n N T A B to pi fe pl go hi mi re lo fj fs fl fn (by omega) hM hW hsw hpj
