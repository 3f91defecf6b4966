/-! PinnedPantryModel: what is kept, and brought back -/
theorem cpy_all {α : Type} (g f : Nat → α) {n j : Nat} (h : j < n) : va_cpy g f 0 0 n j = g j := by
  rw [cpy_in (by omega)]
  congr 1
  omega
theorem MR_cpy {s : PS} {gj gs gl gn fj fs fl fn : Nat → Int32} (hW : WF s) (h : MR s (gj, gs, gl, gn)) : MR s (va_cpy gj fj 0 0 160, va_cpy gs fs 0 0 24, va_cpy gl fl 0 0 26, va_cpy gn fn 0 0 10) := by
  obtain ⟨N, T, A, B, to, pi, fe, pl, go, hi, mi, re, lo⟩ := s
  obtain ⟨⟨r0, r1, r2, r3⟩, hj, ⟨n0, n1, n2, n3, n4, n5⟩, n6, n7, n8, n9⟩ := h
  obtain ⟨kN, kT, kA, kB, nd, len, lA, lB, -⟩ := hW
  refine ⟨⟨RowL_keep r0 (fun i hi => cpy_all _ _ (by omega)), RowL_keep r1 (fun i hi => cpy_all _ _ (by omega)), RowL_keep r2 (fun i hi => cpy_all _ _ (by omega)), RowL_keep r3 (fun i hi => cpy_all _ _ (by omega))⟩, fun k hk => ?_, ⟨?_, ?_, ?_, ?_, ?_, ?_⟩, ?_, ?_, ?_, ?_⟩
  · rw [cpy_all _ _ (by omega), cpy_all _ _ (by omega), cpy_all _ _ (by omega), cpy_all _ _ (by omega)]
    exact hj k hk
  all_goals rw [cpy_all _ _ (by decide)]
  all_goals assumption
set_option maxHeartbeats 400000 in
set_option maxRecDepth 100000 in
/-- kept -/
theorem m_kept (l : Launch) (D : va_G) (o : Nat → Nat) (th : Int32) (fj fs fl fn : Nat → Int32)  : MU l yX4_kept cX4_kept 1 (some (.array (.array .int))) 1 17 D [.ref (o 0)] [((o 0), .inr (4, [.int th, .ref (o 1), .ref (o 2), .ref (o 3), .ref (o 4)])), ((o 1), .inl (D.1 5, 160, .inl fj)), ((o 2), .inl (D.1 5, 24, .inl fs)), ((o 3), .inl (D.1 5, 26, .inl fl)), ((o 4), .inl (D.1 5, 10, .inl fn))] (fun v (e : Nat → Nat) => v = some (.ref (e 0))) (fun e => [((o 0), .inr (4, [.int th, .ref (o 1), .ref (o 2), .ref (o 3), .ref (o 4)])), ((o 1), .inl (D.1 5, 160, .inl fj)), ((o 2), .inl (D.1 5, 24, .inl fs)), ((o 3), .inl (D.1 5, 26, .inl fl)), ((o 4), .inl (D.1 5, 10, .inl fn)), ((e 0), .inl (D.1 7, 4, .inr (.inr (.inr (.inr (va_up (va_up (va_up (va_up (fun _ => none) 0 (some (e 1))) 1 (some (e 2))) 2 (some (e 3))) 3 (some (e 4)))))))), ((e 1), .inl (D.1 5, 160, .inl fj)), ((e 2), .inl (D.1 5, 24, .inl fs)), ((e 3), .inl (D.1 5, 26, .inl fl)), ((e 4), .inl (D.1 5, 10, .inl fn))]) 5 224 := by
  refine MU.enter (by decide) [(0, .ref (o 0))] rfl (Nat.le_of_ble_eq_true rfl) (fun G hC hE => ?_)
  have hC : CX G D cX4_kept RX4 1 := hC
  refine k_iconst hC 0 dX4_kept_0 (nI 4) (by decide) ?_
  refine k_anewA hC hC.kt.2.2.2.2.2.2 1 4 dX4_kept_1 wq_20_18 (by decide) (by decide) ⟨Nat.le_of_ble_eq_true rfl, Nat.le_of_ble_eq_true rfl⟩ (fun q1 => ?_)
  refine KJ.eqw (ws' := [((o 0), .inr (4, [.int th, .ref (o 1), .ref (o 2), .ref (o 3), .ref (o 4)])), ((o 1), .inl (D.1 5, 160, .inl fj)), ((o 2), .inl (D.1 5, 24, .inl fs)), ((o 3), .inl (D.1 5, 26, .inl fl)), ((o 4), .inl (D.1 5, 10, .inl fn)), (q1, .inl (D.1 7, 4, .inr (.inr (.inr (.inr (fun _ => none))))))]) rfl ?_
  refine k_dup hC 4 dX4_kept_4 rfl ?_
  refine k_iconst hC 5 dX4_kept_5 (nI 0) (by decide) ?_
  refine k_aload_n hC 6 dX4_kept_6 rfl ?_
  refine k_getf hC 7 0 1 dX4_kept_7 rfl rfl inlX4 (by decide) wq_3_4 rfl ?_
  refine k_clone hC 10 1 dX4_kept_10 wq_20_19 wq_20_20 wq_20_21 wq_20_22 wq_20_23 hC.kt.2.2.2.2.2.1 rfl ⟨Nat.le_of_ble_eq_true rfl, Nat.le_of_ble_eq_true rfl, Nat.le_of_ble_eq_true rfl, Nat.le_of_ble_eq_true rfl⟩ (fun q10 => ?_)
  refine KJ.eqw (ws' := [((o 0), .inr (4, [.int th, .ref (o 1), .ref (o 2), .ref (o 3), .ref (o 4)])), ((o 1), .inl (D.1 5, 160, .inl fj)), ((o 2), .inl (D.1 5, 24, .inl fs)), ((o 3), .inl (D.1 5, 26, .inl fl)), ((o 4), .inl (D.1 5, 10, .inl fn)), (q1, .inl (D.1 7, 4, .inr (.inr (.inr (.inr (fun _ => none)))))), (q10, .inl (D.1 5, 160, .inl fj))]) rfl ?_
  refine k_castI hC 13 6 dX4_kept_13 wq_20_18 rfl ?_
  refine k_aast hC hC.kt.2.2.2.2.2.2 16 5 6 0 [((o 0), .inr (4, [.int th, .ref (o 1), .ref (o 2), .ref (o 3), .ref (o 4)])), ((o 1), .inl (D.1 5, 160, .inl fj)), ((o 2), .inl (D.1 5, 24, .inl fs)), ((o 3), .inl (D.1 5, 26, .inl fl)), ((o 4), .inl (D.1 5, 10, .inl fn)), (q1, .inl (D.1 7, 4, .inr (.inr (.inr (.inr (va_up (fun _ => none) 0 (some q10))))))), (q10, .inl (D.1 5, 160, .inl fj))] dX4_kept_16 rfl rfl (by decide) (by decide) rfl ?_
  refine k_dup hC 17 dX4_kept_17 rfl ?_
  refine k_iconst hC 18 dX4_kept_18 (nI 1) (by decide) ?_
  refine k_aload_n hC 19 dX4_kept_19 rfl ?_
  refine k_getf hC 20 0 2 dX4_kept_20 rfl rfl inlX4 (by decide) wq_3_5 rfl ?_
  refine k_clone hC 23 2 dX4_kept_23 wq_20_19 wq_20_20 wq_20_21 wq_20_22 wq_20_23 hC.kt.2.2.2.2.2.1 rfl ⟨Nat.le_of_ble_eq_true rfl, Nat.le_of_ble_eq_true rfl, Nat.le_of_ble_eq_true rfl, Nat.le_of_ble_eq_true rfl⟩ (fun q23 => ?_)
  refine KJ.eqw (ws' := [((o 0), .inr (4, [.int th, .ref (o 1), .ref (o 2), .ref (o 3), .ref (o 4)])), ((o 1), .inl (D.1 5, 160, .inl fj)), ((o 2), .inl (D.1 5, 24, .inl fs)), ((o 3), .inl (D.1 5, 26, .inl fl)), ((o 4), .inl (D.1 5, 10, .inl fn)), (q1, .inl (D.1 7, 4, .inr (.inr (.inr (.inr (va_up (fun _ => none) 0 (some q10))))))), (q10, .inl (D.1 5, 160, .inl fj)), (q23, .inl (D.1 5, 24, .inl fs))]) rfl ?_
  refine k_castI hC 26 7 dX4_kept_26 wq_20_18 rfl ?_
  refine k_aast hC hC.kt.2.2.2.2.2.2 29 5 7 1 [((o 0), .inr (4, [.int th, .ref (o 1), .ref (o 2), .ref (o 3), .ref (o 4)])), ((o 1), .inl (D.1 5, 160, .inl fj)), ((o 2), .inl (D.1 5, 24, .inl fs)), ((o 3), .inl (D.1 5, 26, .inl fl)), ((o 4), .inl (D.1 5, 10, .inl fn)), (q1, .inl (D.1 7, 4, .inr (.inr (.inr (.inr (va_up (va_up (fun _ => none) 0 (some q10)) 1 (some q23))))))), (q10, .inl (D.1 5, 160, .inl fj)), (q23, .inl (D.1 5, 24, .inl fs))] dX4_kept_29 rfl rfl (by decide) (by decide) rfl ?_
  refine k_dup hC 30 dX4_kept_30 rfl ?_
  refine k_iconst hC 31 dX4_kept_31 (nI 2) (by decide) ?_
  refine k_aload_n hC 32 dX4_kept_32 rfl ?_
  refine k_getf hC 33 0 3 dX4_kept_33 rfl rfl inlX4 (by decide) wq_3_6 rfl ?_
  refine k_clone hC 36 3 dX4_kept_36 wq_20_19 wq_20_20 wq_20_21 wq_20_22 wq_20_23 hC.kt.2.2.2.2.2.1 rfl ⟨Nat.le_of_ble_eq_true rfl, Nat.le_of_ble_eq_true rfl, Nat.le_of_ble_eq_true rfl, Nat.le_of_ble_eq_true rfl⟩ (fun q36 => ?_)
  refine KJ.eqw (ws' := [((o 0), .inr (4, [.int th, .ref (o 1), .ref (o 2), .ref (o 3), .ref (o 4)])), ((o 1), .inl (D.1 5, 160, .inl fj)), ((o 2), .inl (D.1 5, 24, .inl fs)), ((o 3), .inl (D.1 5, 26, .inl fl)), ((o 4), .inl (D.1 5, 10, .inl fn)), (q1, .inl (D.1 7, 4, .inr (.inr (.inr (.inr (va_up (va_up (fun _ => none) 0 (some q10)) 1 (some q23))))))), (q10, .inl (D.1 5, 160, .inl fj)), (q23, .inl (D.1 5, 24, .inl fs)), (q36, .inl (D.1 5, 26, .inl fl))]) rfl ?_
  refine k_castI hC 39 8 dX4_kept_39 wq_20_18 rfl ?_
  refine k_aast hC hC.kt.2.2.2.2.2.2 42 5 8 2 [((o 0), .inr (4, [.int th, .ref (o 1), .ref (o 2), .ref (o 3), .ref (o 4)])), ((o 1), .inl (D.1 5, 160, .inl fj)), ((o 2), .inl (D.1 5, 24, .inl fs)), ((o 3), .inl (D.1 5, 26, .inl fl)), ((o 4), .inl (D.1 5, 10, .inl fn)), (q1, .inl (D.1 7, 4, .inr (.inr (.inr (.inr (va_up (va_up (va_up (fun _ => none) 0 (some q10)) 1 (some q23)) 2 (some q36))))))), (q10, .inl (D.1 5, 160, .inl fj)), (q23, .inl (D.1 5, 24, .inl fs)), (q36, .inl (D.1 5, 26, .inl fl))] dX4_kept_42 rfl rfl (by decide) (by decide) rfl ?_
  refine k_dup hC 43 dX4_kept_43 rfl ?_
  refine k_iconst hC 44 dX4_kept_44 (nI 3) (by decide) ?_
  refine k_aload_n hC 45 dX4_kept_45 rfl ?_
  refine k_getf hC 46 0 4 dX4_kept_46 rfl rfl inlX4 (by decide) wq_3_7 rfl ?_
  refine k_clone hC 49 4 dX4_kept_49 wq_20_19 wq_20_20 wq_20_21 wq_20_22 wq_20_23 hC.kt.2.2.2.2.2.1 rfl ⟨Nat.le_of_ble_eq_true rfl, Nat.le_of_ble_eq_true rfl, Nat.le_of_ble_eq_true rfl, Nat.le_of_ble_eq_true rfl⟩ (fun q49 => ?_)
  refine KJ.eqw (ws' := [((o 0), .inr (4, [.int th, .ref (o 1), .ref (o 2), .ref (o 3), .ref (o 4)])), ((o 1), .inl (D.1 5, 160, .inl fj)), ((o 2), .inl (D.1 5, 24, .inl fs)), ((o 3), .inl (D.1 5, 26, .inl fl)), ((o 4), .inl (D.1 5, 10, .inl fn)), (q1, .inl (D.1 7, 4, .inr (.inr (.inr (.inr (va_up (va_up (va_up (fun _ => none) 0 (some q10)) 1 (some q23)) 2 (some q36))))))), (q10, .inl (D.1 5, 160, .inl fj)), (q23, .inl (D.1 5, 24, .inl fs)), (q36, .inl (D.1 5, 26, .inl fl)), (q49, .inl (D.1 5, 10, .inl fn))]) rfl ?_
  refine k_castI hC 52 9 dX4_kept_52 wq_20_18 rfl ?_
  refine k_aast hC hC.kt.2.2.2.2.2.2 55 5 9 3 [((o 0), .inr (4, [.int th, .ref (o 1), .ref (o 2), .ref (o 3), .ref (o 4)])), ((o 1), .inl (D.1 5, 160, .inl fj)), ((o 2), .inl (D.1 5, 24, .inl fs)), ((o 3), .inl (D.1 5, 26, .inl fl)), ((o 4), .inl (D.1 5, 10, .inl fn)), (q1, .inl (D.1 7, 4, .inr (.inr (.inr (.inr (va_up (va_up (va_up (va_up (fun _ => none) 0 (some q10)) 1 (some q23)) 2 (some q36)) 3 (some q49))))))), (q10, .inl (D.1 5, 160, .inl fj)), (q23, .inl (D.1 5, 24, .inl fs)), (q36, .inl (D.1 5, 26, .inl fl)), (q49, .inl (D.1 5, 10, .inl fn))] dX4_kept_55 rfl rfl (by decide) (by decide) rfl ?_
  exact k_aret hC hE 56 (fun i => ([q1, q10, q23, q36, q49] : List Nat).getD i 0) dX4_kept_56 (Or.inr ⟨_, rfl⟩) rfl rfl ⟨Nat.le_of_ble_eq_true rfl, Nat.le_of_ble_eq_true rfl⟩
set_option maxHeartbeats 400000 in
set_option maxRecDepth 100000 in
/-- bringBack -/
theorem m_bringBack (l : Launch) (D : va_G) (o : Nat → Nat) (th : Int32) (fj fs fl fn : Nat → Int32) (e : Nat → Nat) (gj gs gl gn : Nat → Int32)  : MU l yX4_bringBack cX4_bringBack 2 none 1 40 D [.ref (o 0), .ref (e 0)] [((o 0), .inr (4, [.int th, .ref (o 1), .ref (o 2), .ref (o 3), .ref (o 4)])), ((o 1), .inl (D.1 5, 160, .inl fj)), ((o 2), .inl (D.1 5, 24, .inl fs)), ((o 3), .inl (D.1 5, 26, .inl fl)), ((o 4), .inl (D.1 5, 10, .inl fn)), ((e 0), .inl (D.1 7, 4, .inr (.inr (.inr (.inr (va_up (va_up (va_up (va_up (fun _ => none) 0 (some (e 1))) 1 (some (e 2))) 2 (some (e 3))) 3 (some (e 4)))))))), ((e 1), .inl (D.1 5, 160, .inl gj)), ((e 2), .inl (D.1 5, 24, .inl gs)), ((e 3), .inl (D.1 5, 26, .inl gl)), ((e 4), .inl (D.1 5, 10, .inl gn))] (fun v (_ : Unit) => v = none) (fun _ => [((o 0), .inr (4, [.int th, .ref (o 1), .ref (o 2), .ref (o 3), .ref (o 4)])), ((o 1), .inl (D.1 5, 160, .inl (va_cpy gj fj 0 0 160))), ((o 2), .inl (D.1 5, 24, .inl (va_cpy gs fs 0 0 24))), ((o 3), .inl (D.1 5, 26, .inl (va_cpy gl fl 0 0 26))), ((o 4), .inl (D.1 5, 10, .inl (va_cpy gn fn 0 0 10))), ((e 0), .inl (D.1 7, 4, .inr (.inr (.inr (.inr (va_up (va_up (va_up (va_up (fun _ => none) 0 (some (e 1))) 1 (some (e 2))) 2 (some (e 3))) 3 (some (e 4)))))))), ((e 1), .inl (D.1 5, 160, .inl gj)), ((e 2), .inl (D.1 5, 24, .inl gs)), ((e 3), .inl (D.1 5, 26, .inl gl)), ((e 4), .inl (D.1 5, 10, .inl gn))]) 0 0 := by
  refine MU.enter (by decide) [(0, .ref (o 0)), (1, .ref (e 0))] rfl (Nat.le_of_ble_eq_true rfl) (fun G hC hE => ?_)
  have hC : CX G D cX4_bringBack RX4 2 := hC
  refine k_aload_n hC 0 dX4_bringBack_0 rfl ?_
  refine k_iconst hC 1 dX4_bringBack_1 (nI 0) (by decide) ?_
  refine k_aald hC 2 5 0 (v := (e 1)) dX4_bringBack_2 rfl (by decide) (by decide) rfl ?_
  refine k_iconst hC 3 dX4_bringBack_3 (nI 0) (by decide) ?_
  refine k_aload_n hC 4 dX4_bringBack_4 rfl ?_
  refine k_getf hC 5 0 1 dX4_bringBack_5 rfl rfl inlX4 (by decide) wq_3_4 rfl ?_
  refine k_iconst hC 8 dX4_bringBack_8 (nI 0) (by decide) ?_
  refine k_aload_n hC 9 dX4_bringBack_9 rfl ?_
  refine k_getf hC 10 0 1 dX4_bringBack_10 rfl rfl inlX4 (by decide) wq_3_4 rfl ?_
  refine k_alen hC 13 1 0 (nI 160) dX4_bringBack_13 rfl rfl rfl ?_
  refine k_copy hC 14 (sp := 0) (dp := 0) (n := 160) 6 1 [((o 0), .inr (4, [.int th, .ref (o 1), .ref (o 2), .ref (o 3), .ref (o 4)])), ((o 1), .inl (D.1 5, 160, .inl (va_cpy gj fj 0 0 160))), ((o 2), .inl (D.1 5, 24, .inl fs)), ((o 3), .inl (D.1 5, 26, .inl fl)), ((o 4), .inl (D.1 5, 10, .inl fn)), ((e 0), .inl (D.1 7, 4, .inr (.inr (.inr (.inr (va_up (va_up (va_up (va_up (fun _ => none) 0 (some (e 1))) 1 (some (e 2))) 2 (some (e 3))) 3 (some (e 4)))))))), ((e 1), .inl (D.1 5, 160, .inl gj)), ((e 2), .inl (D.1 5, 24, .inl gs)), ((e 3), .inl (D.1 5, 26, .inl gl)), ((e 4), .inl (D.1 5, 10, .inl gn))] dX4_bringBack_14 wq_10_0 wq_10_1 wq_10_2 wq_10_3 ⟨Nat.le_of_ble_eq_true rfl, Nat.le_of_ble_eq_true rfl⟩ rfl rfl ⟨by decide, by decide⟩ (by omega) (by omega) rfl ?_
  refine k_aload_n hC 17 dX4_bringBack_17 rfl ?_
  refine k_iconst hC 18 dX4_bringBack_18 (nI 1) (by decide) ?_
  refine k_aald hC 19 5 1 (v := (e 2)) dX4_bringBack_19 rfl (by decide) (by decide) rfl ?_
  refine k_iconst hC 20 dX4_bringBack_20 (nI 0) (by decide) ?_
  refine k_aload_n hC 21 dX4_bringBack_21 rfl ?_
  refine k_getf hC 22 0 2 dX4_bringBack_22 rfl rfl inlX4 (by decide) wq_3_5 rfl ?_
  refine k_iconst hC 25 dX4_bringBack_25 (nI 0) (by decide) ?_
  refine k_aload_n hC 26 dX4_bringBack_26 rfl ?_
  refine k_getf hC 27 0 2 dX4_bringBack_27 rfl rfl inlX4 (by decide) wq_3_5 rfl ?_
  refine k_alen hC 30 2 0 (nI 24) dX4_bringBack_30 rfl rfl rfl ?_
  refine k_copy hC 31 (sp := 0) (dp := 0) (n := 24) 7 2 [((o 0), .inr (4, [.int th, .ref (o 1), .ref (o 2), .ref (o 3), .ref (o 4)])), ((o 1), .inl (D.1 5, 160, .inl (va_cpy gj fj 0 0 160))), ((o 2), .inl (D.1 5, 24, .inl (va_cpy gs fs 0 0 24))), ((o 3), .inl (D.1 5, 26, .inl fl)), ((o 4), .inl (D.1 5, 10, .inl fn)), ((e 0), .inl (D.1 7, 4, .inr (.inr (.inr (.inr (va_up (va_up (va_up (va_up (fun _ => none) 0 (some (e 1))) 1 (some (e 2))) 2 (some (e 3))) 3 (some (e 4)))))))), ((e 1), .inl (D.1 5, 160, .inl gj)), ((e 2), .inl (D.1 5, 24, .inl gs)), ((e 3), .inl (D.1 5, 26, .inl gl)), ((e 4), .inl (D.1 5, 10, .inl gn))] dX4_bringBack_31 wq_10_0 wq_10_1 wq_10_2 wq_10_3 ⟨Nat.le_of_ble_eq_true rfl, Nat.le_of_ble_eq_true rfl⟩ rfl rfl ⟨by decide, by decide⟩ (by omega) (by omega) rfl ?_
  refine k_aload_n hC 34 dX4_bringBack_34 rfl ?_
  refine k_iconst hC 35 dX4_bringBack_35 (nI 2) (by decide) ?_
  refine k_aald hC 36 5 2 (v := (e 3)) dX4_bringBack_36 rfl (by decide) (by decide) rfl ?_
  refine k_iconst hC 37 dX4_bringBack_37 (nI 0) (by decide) ?_
  refine k_aload_n hC 38 dX4_bringBack_38 rfl ?_
  refine k_getf hC 39 0 3 dX4_bringBack_39 rfl rfl inlX4 (by decide) wq_3_6 rfl ?_
  refine k_iconst hC 42 dX4_bringBack_42 (nI 0) (by decide) ?_
  refine k_aload_n hC 43 dX4_bringBack_43 rfl ?_
  refine k_getf hC 44 0 3 dX4_bringBack_44 rfl rfl inlX4 (by decide) wq_3_6 rfl ?_
  refine k_alen hC 47 3 0 (nI 26) dX4_bringBack_47 rfl rfl rfl ?_
  refine k_copy hC 48 (sp := 0) (dp := 0) (n := 26) 8 3 [((o 0), .inr (4, [.int th, .ref (o 1), .ref (o 2), .ref (o 3), .ref (o 4)])), ((o 1), .inl (D.1 5, 160, .inl (va_cpy gj fj 0 0 160))), ((o 2), .inl (D.1 5, 24, .inl (va_cpy gs fs 0 0 24))), ((o 3), .inl (D.1 5, 26, .inl (va_cpy gl fl 0 0 26))), ((o 4), .inl (D.1 5, 10, .inl fn)), ((e 0), .inl (D.1 7, 4, .inr (.inr (.inr (.inr (va_up (va_up (va_up (va_up (fun _ => none) 0 (some (e 1))) 1 (some (e 2))) 2 (some (e 3))) 3 (some (e 4)))))))), ((e 1), .inl (D.1 5, 160, .inl gj)), ((e 2), .inl (D.1 5, 24, .inl gs)), ((e 3), .inl (D.1 5, 26, .inl gl)), ((e 4), .inl (D.1 5, 10, .inl gn))] dX4_bringBack_48 wq_10_0 wq_10_1 wq_10_2 wq_10_3 ⟨Nat.le_of_ble_eq_true rfl, Nat.le_of_ble_eq_true rfl⟩ rfl rfl ⟨by decide, by decide⟩ (by omega) (by omega) rfl ?_
  refine k_aload_n hC 51 dX4_bringBack_51 rfl ?_
  refine k_iconst hC 52 dX4_bringBack_52 (nI 3) (by decide) ?_
  refine k_aald hC 53 5 3 (v := (e 4)) dX4_bringBack_53 rfl (by decide) (by decide) rfl ?_
  refine k_iconst hC 54 dX4_bringBack_54 (nI 0) (by decide) ?_
  refine k_aload_n hC 55 dX4_bringBack_55 rfl ?_
  refine k_getf hC 56 0 4 dX4_bringBack_56 rfl rfl inlX4 (by decide) wq_3_7 rfl ?_
  refine k_iconst hC 59 dX4_bringBack_59 (nI 0) (by decide) ?_
  refine k_aload_n hC 60 dX4_bringBack_60 rfl ?_
  refine k_getf hC 61 0 4 dX4_bringBack_61 rfl rfl inlX4 (by decide) wq_3_7 rfl ?_
  refine k_alen hC 64 4 0 (nI 10) dX4_bringBack_64 rfl rfl rfl ?_
  refine k_copy hC 65 (sp := 0) (dp := 0) (n := 10) 9 4 [((o 0), .inr (4, [.int th, .ref (o 1), .ref (o 2), .ref (o 3), .ref (o 4)])), ((o 1), .inl (D.1 5, 160, .inl (va_cpy gj fj 0 0 160))), ((o 2), .inl (D.1 5, 24, .inl (va_cpy gs fs 0 0 24))), ((o 3), .inl (D.1 5, 26, .inl (va_cpy gl fl 0 0 26))), ((o 4), .inl (D.1 5, 10, .inl (va_cpy gn fn 0 0 10))), ((e 0), .inl (D.1 7, 4, .inr (.inr (.inr (.inr (va_up (va_up (va_up (va_up (fun _ => none) 0 (some (e 1))) 1 (some (e 2))) 2 (some (e 3))) 3 (some (e 4)))))))), ((e 1), .inl (D.1 5, 160, .inl gj)), ((e 2), .inl (D.1 5, 24, .inl gs)), ((e 3), .inl (D.1 5, 26, .inl gl)), ((e 4), .inl (D.1 5, 10, .inl gn))] dX4_bringBack_65 wq_10_0 wq_10_1 wq_10_2 wq_10_3 ⟨Nat.le_of_ble_eq_true rfl, Nat.le_of_ble_eq_true rfl⟩ rfl rfl ⟨by decide, by decide⟩ (by omega) (by omega) rfl ?_
  exact k_vret hC hE 68 () dX4_bringBack_68 rfl rfl ⟨Nat.zero_le _, Nat.zero_le _⟩
set_option maxHeartbeats 400000 in
set_option maxRecDepth 100000 in
/-- m_next -/
theorem m_next (l : Launch) (D : va_G) (o : Nat → Nat) (th : Int32) (fj fs fl fn : Nat → Int32) (N T A B : List Nat) (to pi : Nat → Nat) (fe : Nat → Int32) (pl go : Nat) (hi mi re lo : Int32) (hM : MR (N, T, A, B, to, pi, fe, pl, go, hi, mi, re, lo) (fj, fs, fl, fn)) (hW : WF (N, T, A, B, to, pi, fe, pl, go, hi, mi, re, lo)) : MU l yX4_next cX4_next 3 (some .int) 5 128 D [.ref (o 0)] [((o 0), .inr (4, [.int th, .ref (o 1), .ref (o 2), .ref (o 3), .ref (o 4)])), ((o 1), .inl (D.1 5, 160, .inl fj)), ((o 2), .inl (D.1 5, 24, .inl fs)), ((o 3), .inl (D.1 5, 26, .inl fl)), ((o 4), .inl (D.1 5, 10, .inl fn))] (fun v (u : MG) => v = some (.int (nextV (N, T, A, B, to, pi, fe, pl, go, hi, mi, re, lo))) ∧ MR (N, T, A, B, to, pi, fe, pl, go, hi, mi, re, lo) u) (fun u => [((o 0), .inr (4, [.int (nI 0), .ref (o 1), .ref (o 2), .ref (o 3), .ref (o 4)])), ((o 1), .inl (D.1 5, 160, .inl u.1)), ((o 2), .inl (D.1 5, 24, .inl u.2.1)), ((o 3), .inl (D.1 5, 26, .inl u.2.2.1)), ((o 4), .inl (D.1 5, 10, .inl u.2.2.2))]) 5 224 := by
  refine MU.enter (by decide) [(0, .ref (o 0))] rfl (Nat.le_of_ble_eq_true rfl) (fun G hC hE => ?_)
  have hC : CX G D cX4_next RX4 3 := hC
  have hM0 := hM
  have hW0 := hW
  obtain ⟨⟨r0, r1, r2, r3⟩, hj, ⟨n0, n1, n2, n3, n4, n5⟩, n6, n7, n8, n9⟩ := hM
  obtain ⟨kN, kT, kA, kB, nd, len, lA, lB, pp2, pp12, g12, t1, p9⟩ := hW
  have q0 := pc_le pi N
  have q1 := pc_le pi T
  refine k_aload_n hC 0 dX4_next_0 rfl ?_
  refine k_iconst hC 1 dX4_next_1 (nI 0) (by decide) ?_
  refine k_putf hC 2 (ty0 := tyX4) 0 0 [((o 0), .inr (4, [.int (nI 0), .ref (o 1), .ref (o 2), .ref (o 3), .ref (o 4)])), ((o 1), .inl (D.1 5, 160, .inl fj)), ((o 2), .inl (D.1 5, 24, .inl fs)), ((o 3), .inl (D.1 5, 26, .inl fl)), ((o 4), .inl (D.1 5, 10, .inl fn))] dX4_next_2 rfl rfl inlX4 tyX4_ok nmX4 (by decide) wq_8_7 rfl rfl rfl (Nat.le_of_ble_eq_true rfl) rfl ?_
  refine k_aload_n hC 5 dX4_next_5 rfl ?_
  refine k_callVr hC 6 0 [0, 1, 2, 3, 4] (m_pinned l D o (nI 0) fj fs fl fn N T to pi fe hj nd kN kT p9) cw_RX4_86 dX4_next_6 ⟨Nat.le_of_ble_eq_true rfl, Nat.le_of_ble_eq_true rfl, Nat.le_of_ble_eq_true rfl, Nat.le_of_ble_eq_true rfl⟩ rfl (Nat.le_of_ble_eq_true rfl) rfl rfl rfl (by decide) rfl (fun _ => Nat.le_of_ble_eq_true rfl) (fun _ => rfl) _ rfl (fun v u hp => ?_)
  obtain rfl := hp
  refine KJ.eqs (st' := .int (nI (pc pi N + pc pi T)) :: []) rfl ?_
  refine k_aload_n hC 9 dX4_next_9 rfl ?_
  refine k_callVr hC 10 0 [0, 1, 2, 3, 4] (m_all l D o (nI 0) fj fs fl fn N.length T.length n6 n7) cw_RX4_82 dX4_next_10 ⟨Nat.le_of_ble_eq_true rfl, Nat.le_of_ble_eq_true rfl, Nat.le_of_ble_eq_true rfl, Nat.le_of_ble_eq_true rfl⟩ rfl (Nat.le_of_ble_eq_true rfl) rfl rfl rfl (by decide) rfl (fun _ => Nat.le_of_ble_eq_true rfl) (fun _ => rfl) _ rfl (fun v u hp => ?_)
  obtain rfl := hp
  refine KJ.eqs (st' := .int (nI (N.length + T.length)) :: .int (nI (pc pi N + pc pi T)) :: []) rfl ?_
  refine n_icmp_ne hC 13 18 dX4_next_13 (by decide) (by omega) (by omega) (fun h13 => ?_) (fun h13 => ?_)
  · skip
    refine k_aload_n hC 18 dX4_next_18 rfl ?_
    refine k_callV hC 19 0 [0, 1, 2, 3, 4] (fun (e : Nat → Nat) => [((o 0), .inr (4, [.int (nI 0), .ref (o 1), .ref (o 2), .ref (o 3), .ref (o 4)])), ((o 1), .inl (D.1 5, 160, .inl fj)), ((o 2), .inl (D.1 5, 24, .inl fs)), ((o 3), .inl (D.1 5, 26, .inl fl)), ((o 4), .inl (D.1 5, 10, .inl fn)), ((e 0), .inl (D.1 7, 4, .inr (.inr (.inr (.inr (va_up (va_up (va_up (va_up (fun _ => none) 0 (some (e 1))) 1 (some (e 2))) 2 (some (e 3))) 3 (some (e 4)))))))), ((e 1), .inl (D.1 5, 160, .inl fj)), ((e 2), .inl (D.1 5, 24, .inl fs)), ((e 3), .inl (D.1 5, 26, .inl fl)), ((e 4), .inl (D.1 5, 10, .inl fn))]) (m_kept l D o (nI 0) fj fs fl fn) cw_RX4_134 dX4_next_19 ⟨Nat.le_of_ble_eq_true rfl, Nat.le_of_ble_eq_true rfl, Nat.le_of_ble_eq_true rfl, Nat.le_of_ble_eq_true rfl⟩ rfl (Nat.le_of_ble_eq_true rfl) rfl rfl rfl (by decide) rfl (fun _ => Nat.le_of_ble_eq_true rfl) (fun _ => rfl) _ rfl (fun v (e : Nat → Nat) hp => ?_)
    obtain rfl := hp
    refine KJ.eqs (st' := .ref (e 0) :: []) rfl ?_
    refine k_astore_n hC 22 1 [(1, .ref (e 0)), (0, .ref (o 0))] dX4_next_22 rfl (by decide) rfl ?_
    refine k_aload_n hC 23 dX4_next_23 rfl ?_
    have hpj : pc pi N + pc pi T < N.length + T.length := by omega
    have so := sw_ok hW0 (show pnd (N, T, A, B, to, pi, fe, pl, go, hi, mi, re, lo) < jrs (N, T, A, B, to, pi, fe, pl, go, hi, mi, re, lo) from hpj)
    refine k_callV hC 24 0 [0, 1, 2, 3, 4] (fun (y0 : MG) => [((o 0), .inr (4, [.int (nI 0), .ref (o 1), .ref (o 2), .ref (o 3), .ref (o 4)])), ((o 1), .inl (D.1 5, 160, .inl y0.1)), ((o 2), .inl (D.1 5, 24, .inl y0.2.1)), ((o 3), .inl (D.1 5, 26, .inl y0.2.2.1)), ((o 4), .inl (D.1 5, 10, .inl y0.2.2.2)), ((e 0), .inl (D.1 7, 4, .inr (.inr (.inr (.inr (va_up (va_up (va_up (va_up (fun _ => none) 0 (some (e 1))) 1 (some (e 2))) 2 (some (e 3))) 3 (some (e 4)))))))), ((e 1), .inl (D.1 5, 160, .inl fj)), ((e 2), .inl (D.1 5, 24, .inl fs)), ((e 3), .inl (D.1 5, 26, .inl fl)), ((e 4), .inl (D.1 5, 10, .inl fn))]) (m_sweep l D o (nI 0) fj fs fl fn N T A B to pi fe pl go hi mi re lo 200 (sw (N, T, A, B, to, pi, fe, pl, go, hi, mi, re, lo)).1 (sw (N, T, A, B, to, pi, fe, pl, go, hi, mi, re, lo)).2 hM0 hW0 so.1 hpj) cw_RX4_98 dX4_next_24 ⟨Nat.le_of_ble_eq_true rfl, Nat.le_of_ble_eq_true rfl, Nat.le_of_ble_eq_true rfl, Nat.le_of_ble_eq_true rfl⟩ rfl (Nat.le_of_ble_eq_true rfl) rfl rfl rfl (by decide) rfl (fun _ => Nat.le_of_ble_eq_true rfl) (fun _ => rfl) _ rfl (fun v (y0 : MG) hp => ?_)
    obtain ⟨rfl, hM2⟩ := hp
    refine KJ.eqs (st' := .int (nI ((sw (N, T, A, B, to, pi, fe, pl, go, hi, mi, re, lo)).2)) :: []) rfl ?_
    refine k_istore_n hC 27 2 [(2, .int (nI ((sw (N, T, A, B, to, pi, fe, pl, go, hi, mi, re, lo)).2))), (1, .ref (e 0)), (0, .ref (o 0))] dX4_next_27 rfl (by decide) rfl ?_
    refine k_aload_n hC 28 dX4_next_28 rfl ?_
    refine k_aload_n hC 29 dX4_next_29 rfl ?_
    refine k_callV hC 30 0 [0, 1, 2, 3, 4, 5, 6, 7, 8, 9] (fun (_ : Unit) => [((o 0), .inr (4, [.int (nI 0), .ref (o 1), .ref (o 2), .ref (o 3), .ref (o 4)])), ((o 1), .inl (D.1 5, 160, .inl (va_cpy fj y0.1 0 0 160))), ((o 2), .inl (D.1 5, 24, .inl (va_cpy fs y0.2.1 0 0 24))), ((o 3), .inl (D.1 5, 26, .inl (va_cpy fl y0.2.2.1 0 0 26))), ((o 4), .inl (D.1 5, 10, .inl (va_cpy fn y0.2.2.2 0 0 10))), ((e 0), .inl (D.1 7, 4, .inr (.inr (.inr (.inr (va_up (va_up (va_up (va_up (fun _ => none) 0 (some (e 1))) 1 (some (e 2))) 2 (some (e 3))) 3 (some (e 4)))))))), ((e 1), .inl (D.1 5, 160, .inl fj)), ((e 2), .inl (D.1 5, 24, .inl fs)), ((e 3), .inl (D.1 5, 26, .inl fl)), ((e 4), .inl (D.1 5, 10, .inl fn))]) (m_bringBack l D o (nI 0) y0.1 y0.2.1 y0.2.2.1 y0.2.2.2 e fj fs fl fn) cw_RX4_138 dX4_next_30 ⟨Nat.le_of_ble_eq_true rfl, Nat.le_of_ble_eq_true rfl, Nat.le_of_ble_eq_true rfl, Nat.le_of_ble_eq_true rfl⟩ rfl (Nat.le_of_ble_eq_true rfl) rfl rfl rfl (by decide) rfl (fun _ => Nat.le_of_ble_eq_true rfl) (fun _ => rfl) _ rfl (fun v (_ : Unit) hp => ?_)
    obtain rfl := hp
    refine KJ.eqs (st' := []) rfl ?_
    refine k_iload_n hC 33 dX4_next_33 rfl ?_
    refine KJ.sub (ws' := [((o 0), .inr (4, [.int (nI 0), .ref (o 1), .ref (o 2), .ref (o 3), .ref (o 4)])), ((o 1), .inl (D.1 5, 160, .inl (va_cpy fj y0.1 0 0 160))), ((o 2), .inl (D.1 5, 24, .inl (va_cpy fs y0.2.1 0 0 24))), ((o 3), .inl (D.1 5, 26, .inl (va_cpy fl y0.2.2.1 0 0 26))), ((o 4), .inl (D.1 5, 10, .inl (va_cpy fn y0.2.2.2 0 0 10)))]) [0, 1, 2, 3, 4] (by decide) rfl rfl ?_
    exact k_iret hC hE 34 ((va_cpy fj y0.1 0 0 160), (va_cpy fs y0.2.1 0 0 24), (va_cpy fl y0.2.2.1 0 0 26), (va_cpy fn y0.2.2.2 0 0 10)) dX4_next_34 rfl (⟨by rw [nextV, if_pos (show pnd (N, T, A, B, to, pi, fe, pl, go, hi, mi, re, lo) < jrs (N, T, A, B, to, pi, fe, pl, go, hi, mi, re, lo) from hpj)], MR_cpy hW0 hM0⟩) rfl ⟨Nat.le_of_ble_eq_true rfl, Nat.le_of_ble_eq_true rfl⟩
  · skip
    refine k_iconst hC 16 dX4_next_16 (-1) (by decide) ?_
    exact k_iret hC hE 17 (fj, fs, fl, fn) dX4_next_17 rfl (⟨by rw [nextV, if_neg (show ¬ pnd (N, T, A, B, to, pi, fe, pl, go, hi, mi, re, lo) < jrs (N, T, A, B, to, pi, fe, pl, go, hi, mi, re, lo) from by show ¬ pc pi N + pc pi T < N.length + T.length; omega)], hM0⟩) rfl ⟨Nat.zero_le _, Nat.zero_le _⟩
set_option maxHeartbeats 400000 in
set_option maxRecDepth 100000 in
/-- m_trial -/
theorem m_trial (l : Launch) (D : va_G) (o : Nat → Nat) (th : Int32) (fj fs fl fn : Nat → Int32) (N T A B : List Nat) (to pi : Nat → Nat) (fe : Nat → Int32) (pl go : Nat) (hi mi re lo : Int32) (p0 p1 p2 : Int32) (hM : MR (N, T, A, B, to, pi, fe, pl, go, hi, mi, re, lo) (fj, fs, fl, fn)) (hW : WF (N, T, A, B, to, pi, fe, pl, go, hi, mi, re, lo)) (hjp : N.length + T.length ≤ pl) : MU l yX4_trial cX4_trial 6 (some .int) 7 176 D [.ref (o 0), .int p0, .int p1, .int p2] [((o 0), .inr (4, [.int th, .ref (o 1), .ref (o 2), .ref (o 3), .ref (o 4)])), ((o 1), .inl (D.1 5, 160, .inl fj)), ((o 2), .inl (D.1 5, 24, .inl fs)), ((o 3), .inl (D.1 5, 26, .inl fl)), ((o 4), .inl (D.1 5, 10, .inl fn))] (fun v (u : MG) => ∃ x : Int32, v = some (.int x) ∧ ((serK p0 p1 p2 = 0 ∧ x = serV (N, T, A, B, to, pi, fe, pl, go, hi, mi, re, lo) p0 p1 p2 ∧ MR ((N, T, A, B, to, pi, fe, pl, go, hi, mi, re, lo)) u) ∨ (serK p0 p1 p2 ≠ 0 ∧ MR (N, T, A, B, to, pi, fe, pl, go, hi, mi, re, lo) u))) (fun u => [((o 0), .inr (4, [.int (nI (serK p0 p1 p2)), .ref (o 1), .ref (o 2), .ref (o 3), .ref (o 4)])), ((o 1), .inl (D.1 5, 160, .inl u.1)), ((o 2), .inl (D.1 5, 24, .inl u.2.1)), ((o 3), .inl (D.1 5, 26, .inl u.2.2.1)), ((o 4), .inl (D.1 5, 10, .inl u.2.2.2))]) 35 344 := by
  refine MU.enter (by decide) [(0, .ref (o 0)), (1, .int p0), (2, .int p1), (3, .int p2)] rfl (Nat.le_of_ble_eq_true rfl) (fun G hC hE => ?_)
  have hC : CX G D cX4_trial RX4 6 := hC
  have hM0 := hM
  have hW0 := hW
  obtain ⟨⟨r0, r1, r2, r3⟩, hj, ⟨n0, n1, n2, n3, n4, n5⟩, n6, n7, n8, n9⟩ := hM
  obtain ⟨kN, kT, kA, kB, nd, len, lA, lB, pp2, pp12, g12, t1, p9⟩ := hW
  have q0 := pc_le pi N
  have q1 := pc_le pi T
  refine k_aload_n hC 0 dX4_trial_0 rfl ?_
  refine k_aload_n hC 1 dX4_trial_1 rfl ?_
  refine k_iload_n hC 2 dX4_trial_2 rfl ?_
  refine k_iload_n hC 3 dX4_trial_3 rfl ?_
  refine k_iload_n hC 4 dX4_trial_4 rfl ?_
  refine k_callVr hC 5 0 [0, 1, 2, 3, 4] (m_wrong l D o th fj fs fl fn p0 p1 p2) cw_RX4_113 dX4_trial_5 ⟨Nat.le_of_ble_eq_true rfl, Nat.le_of_ble_eq_true rfl, Nat.le_of_ble_eq_true rfl, Nat.le_of_ble_eq_true rfl⟩ rfl (Nat.le_of_ble_eq_true rfl) rfl rfl rfl (by decide) rfl (fun _ => Nat.le_of_ble_eq_true rfl) (fun _ => rfl) _ rfl (fun v u hp => ?_)
  obtain rfl := hp
  refine KJ.eqs (st' := .int (nI (serK p0 p1 p2)) :: .ref (o 0) :: []) rfl ?_
  refine k_putf hC 8 (ty0 := tyX4) 0 0 [((o 0), .inr (4, [.int (nI (serK p0 p1 p2)), .ref (o 1), .ref (o 2), .ref (o 3), .ref (o 4)])), ((o 1), .inl (D.1 5, 160, .inl fj)), ((o 2), .inl (D.1 5, 24, .inl fs)), ((o 3), .inl (D.1 5, 26, .inl fl)), ((o 4), .inl (D.1 5, 10, .inl fn))] dX4_trial_8 rfl rfl inlX4 tyX4_ok nmX4 (by decide) wq_8_7 rfl rfl rfl (Nat.le_of_ble_eq_true rfl) rfl ?_
  refine k_aload_n hC 11 dX4_trial_11 rfl ?_
  refine k_getf hC 12 0 0 dX4_trial_12 rfl rfl inlX4 (by decide) wq_8_7 rfl ?_
  refine n_if_eq hC 15 20 dX4_trial_15 (by decide) (Nat.lt_of_le_of_lt (kK_le _ _) (by decide)) (fun hK => ?_) (fun hK => ?_)
  · skip
    obtain ⟨hk, hs, hm⟩ := serK_ok hK
    obtain ⟨k40, hp0⟩ := hk.k
    obtain ⟨s40, hp1⟩ := hs.k
    obtain ⟨m30, hp2⟩ := hm.k
    rw [← hp0, ← hp1, ← hp2]
    refine k_aload_n hC 20 dX4_trial_20 rfl ?_
    refine k_callV hC 21 0 [0, 1, 2, 3, 4] (fun (e : Nat → Nat) => [((o 0), .inr (4, [.int (nI (serK (nI (kn p0)) (nI (kn p1)) (nI (kn p2)))), .ref (o 1), .ref (o 2), .ref (o 3), .ref (o 4)])), ((o 1), .inl (D.1 5, 160, .inl fj)), ((o 2), .inl (D.1 5, 24, .inl fs)), ((o 3), .inl (D.1 5, 26, .inl fl)), ((o 4), .inl (D.1 5, 10, .inl fn)), ((e 0), .inl (D.1 7, 4, .inr (.inr (.inr (.inr (va_up (va_up (va_up (va_up (fun _ => none) 0 (some (e 1))) 1 (some (e 2))) 2 (some (e 3))) 3 (some (e 4)))))))), ((e 1), .inl (D.1 5, 160, .inl fj)), ((e 2), .inl (D.1 5, 24, .inl fs)), ((e 3), .inl (D.1 5, 26, .inl fl)), ((e 4), .inl (D.1 5, 10, .inl fn))]) (m_kept l D o (nI (serK (nI (kn p0)) (nI (kn p1)) (nI (kn p2)))) fj fs fl fn) cw_RX4_134 dX4_trial_21 ⟨Nat.le_of_ble_eq_true rfl, Nat.le_of_ble_eq_true rfl, Nat.le_of_ble_eq_true rfl, Nat.le_of_ble_eq_true rfl⟩ rfl (Nat.le_of_ble_eq_true rfl) rfl rfl rfl (by decide) rfl (fun _ => Nat.le_of_ble_eq_true rfl) (fun _ => rfl) _ rfl (fun v (e : Nat → Nat) hp => ?_)
    obtain rfl := hp
    refine KJ.eqs (st' := .ref (e 0) :: []) rfl ?_
    refine k_astore hC 24 4 [(4, .ref (e 0)), (0, .ref (o 0)), (1, .int (nI (kn p0))), (2, .int (nI (kn p1))), (3, .int (nI (kn p2)))] dX4_trial_24 (by decide) rfl ?_
    refine k_aload_n hC 26 dX4_trial_26 rfl ?_
    refine k_iload_n hC 27 dX4_trial_27 rfl ?_
    refine k_iload_n hC 28 dX4_trial_28 rfl ?_
    refine k_iload_n hC 29 dX4_trial_29 rfl ?_
    refine k_callV hC 30 0 [0, 1, 2, 3, 4] (fun (y0 : MG) => [((o 0), .inr (4, [.int (nI (serK (nI (kn p0)) (nI (kn p1)) (nI (kn p2)))), .ref (o 1), .ref (o 2), .ref (o 3), .ref (o 4)])), ((o 1), .inl (D.1 5, 160, .inl y0.1)), ((o 2), .inl (D.1 5, 24, .inl y0.2.1)), ((o 3), .inl (D.1 5, 26, .inl y0.2.2.1)), ((o 4), .inl (D.1 5, 10, .inl y0.2.2.2)), ((e 0), .inl (D.1 7, 4, .inr (.inr (.inr (.inr (va_up (va_up (va_up (va_up (fun _ => none) 0 (some (e 1))) 1 (some (e 2))) 2 (some (e 3))) 3 (some (e 4)))))))), ((e 1), .inl (D.1 5, 160, .inl fj)), ((e 2), .inl (D.1 5, 24, .inl fs)), ((e 3), .inl (D.1 5, 26, .inl fl)), ((e 4), .inl (D.1 5, 10, .inl fn))]) (m_hits l D o (nI (serK (nI (kn p0)) (nI (kn p1)) (nI (kn p2)))) fj fs fl fn N T A B to pi fe pl go hi mi re lo (kn p0) (kn p1) (kn p2) hi (serS (N, T, A, B, to, pi, fe, pl, go, hi, mi, re, lo) p0 p1 p2) hM0 hW0 k40 s40 m30 rfl rfl hjp) cw_RX4_117 dX4_trial_30 ⟨Nat.le_of_ble_eq_true rfl, Nat.le_of_ble_eq_true rfl, Nat.le_of_ble_eq_true rfl, Nat.le_of_ble_eq_true rfl⟩ rfl (Nat.le_of_ble_eq_true rfl) rfl rfl rfl (by decide) rfl (fun _ => Nat.le_of_ble_eq_true rfl) (fun _ => rfl) _ rfl (fun v (y0 : MG) hp => ?_)
    obtain ⟨rfl, hM2⟩ := hp
    refine KJ.eqs (st' := .int (serV (N, T, A, B, to, pi, fe, pl, go, hi, mi, re, lo) p0 p1 p2) :: []) rfl ?_
    refine k_istore hC 33 5 [(5, .int (serV (N, T, A, B, to, pi, fe, pl, go, hi, mi, re, lo) p0 p1 p2)), (4, .ref (e 0)), (0, .ref (o 0)), (1, .int (nI (kn p0))), (2, .int (nI (kn p1))), (3, .int (nI (kn p2)))] dX4_trial_33 (by decide) rfl ?_
    refine k_aload_n hC 35 dX4_trial_35 rfl ?_
    refine k_aload hC 36 dX4_trial_36 rfl ?_
    refine k_callV hC 38 0 [0, 1, 2, 3, 4, 5, 6, 7, 8, 9] (fun (_ : Unit) => [((o 0), .inr (4, [.int (nI (serK (nI (kn p0)) (nI (kn p1)) (nI (kn p2)))), .ref (o 1), .ref (o 2), .ref (o 3), .ref (o 4)])), ((o 1), .inl (D.1 5, 160, .inl (va_cpy fj y0.1 0 0 160))), ((o 2), .inl (D.1 5, 24, .inl (va_cpy fs y0.2.1 0 0 24))), ((o 3), .inl (D.1 5, 26, .inl (va_cpy fl y0.2.2.1 0 0 26))), ((o 4), .inl (D.1 5, 10, .inl (va_cpy fn y0.2.2.2 0 0 10))), ((e 0), .inl (D.1 7, 4, .inr (.inr (.inr (.inr (va_up (va_up (va_up (va_up (fun _ => none) 0 (some (e 1))) 1 (some (e 2))) 2 (some (e 3))) 3 (some (e 4)))))))), ((e 1), .inl (D.1 5, 160, .inl fj)), ((e 2), .inl (D.1 5, 24, .inl fs)), ((e 3), .inl (D.1 5, 26, .inl fl)), ((e 4), .inl (D.1 5, 10, .inl fn))]) (m_bringBack l D o (nI (serK (nI (kn p0)) (nI (kn p1)) (nI (kn p2)))) y0.1 y0.2.1 y0.2.2.1 y0.2.2.2 e fj fs fl fn) cw_RX4_138 dX4_trial_38 ⟨Nat.le_of_ble_eq_true rfl, Nat.le_of_ble_eq_true rfl, Nat.le_of_ble_eq_true rfl, Nat.le_of_ble_eq_true rfl⟩ rfl (Nat.le_of_ble_eq_true rfl) rfl rfl rfl (by decide) rfl (fun _ => Nat.le_of_ble_eq_true rfl) (fun _ => rfl) _ rfl (fun v (_ : Unit) hp => ?_)
    obtain rfl := hp
    refine KJ.eqs (st' := []) rfl ?_
    refine k_iload hC 41 dX4_trial_41 rfl ?_
    refine KJ.sub (ws' := [((o 0), .inr (4, [.int (nI (serK (nI (kn p0)) (nI (kn p1)) (nI (kn p2)))), .ref (o 1), .ref (o 2), .ref (o 3), .ref (o 4)])), ((o 1), .inl (D.1 5, 160, .inl (va_cpy fj y0.1 0 0 160))), ((o 2), .inl (D.1 5, 24, .inl (va_cpy fs y0.2.1 0 0 24))), ((o 3), .inl (D.1 5, 26, .inl (va_cpy fl y0.2.2.1 0 0 26))), ((o 4), .inl (D.1 5, 10, .inl (va_cpy fn y0.2.2.2 0 0 10)))]) [0, 1, 2, 3, 4] (by decide) rfl rfl ?_
    exact k_iret hC hE 43 ((va_cpy fj y0.1 0 0 160), (va_cpy fs y0.2.1 0 0 24), (va_cpy fl y0.2.2.1 0 0 26), (va_cpy fn y0.2.2.2 0 0 10)) dX4_trial_43 rfl (⟨_, rfl, Or.inl ⟨hK, rfl, MR_cpy hW0 hM0⟩⟩) (by rw [hp0, hp1, hp2]) ⟨Nat.le_of_ble_eq_true rfl, Nat.le_of_ble_eq_true rfl⟩
  · skip
    refine k_iconst hC 18 dX4_trial_18 (nI 0) (by decide) ?_
    exact k_iret hC hE 19 (fj, fs, fl, fn) dX4_trial_19 rfl (⟨_, rfl, Or.inr ⟨hK, hM0⟩⟩) rfl ⟨Nat.zero_le _, Nat.zero_le _⟩
set_option maxHeartbeats 400000 in
set_option maxRecDepth 100000 in
/-- m_advise -/
theorem m_advise (l : Launch) (D : va_G) (o : Nat → Nat) (th : Int32) (fj fs fl fn : Nat → Int32) (N T A B : List Nat) (to pi : Nat → Nat) (fe : Nat → Int32) (pl go : Nat) (hi mi re lo : Int32) (p0 p1 p2 : Int32) (hM : MR (N, T, A, B, to, pi, fe, pl, go, hi, mi, re, lo) (fj, fs, fl, fn)) (hW : WF (N, T, A, B, to, pi, fe, pl, go, hi, mi, re, lo)) (hjp : N.length + T.length ≤ pl) : MU l yX4_advise cX4_advise 9 (some .int) 7 176 D [.ref (o 0), .int p0, .int p1, .int p2] [((o 0), .inr (4, [.int th, .ref (o 1), .ref (o 2), .ref (o 3), .ref (o 4)])), ((o 1), .inl (D.1 5, 160, .inl fj)), ((o 2), .inl (D.1 5, 24, .inl fs)), ((o 3), .inl (D.1 5, 26, .inl fl)), ((o 4), .inl (D.1 5, 10, .inl fn))] (fun v (u : MG) => ∃ x : Int32, v = some (.int x) ∧ ((serK p0 p1 p2 = 0 ∧ x = advV (N, T, A, B, to, pi, fe, pl, go, hi, mi, re, lo) p0 p1 p2 ∧ MR ((N, T, A, B, to, pi, fe, pl, go, hi, mi, re, lo)) u) ∨ (serK p0 p1 p2 ≠ 0 ∧ MR (N, T, A, B, to, pi, fe, pl, go, hi, mi, re, lo) u))) (fun u => [((o 0), .inr (4, [.int (nI (serK p0 p1 p2)), .ref (o 1), .ref (o 2), .ref (o 3), .ref (o 4)])), ((o 1), .inl (D.1 5, 160, .inl u.1)), ((o 2), .inl (D.1 5, 24, .inl u.2.1)), ((o 3), .inl (D.1 5, 26, .inl u.2.2.1)), ((o 4), .inl (D.1 5, 10, .inl u.2.2.2))]) 335 1544 := by
  refine MU.enter (by decide) [(0, .ref (o 0)), (1, .int p0), (2, .int p1), (3, .int p2)] rfl (Nat.le_of_ble_eq_true rfl) (fun G hC hE => ?_)
  have hC : CX G D cX4_advise RX4 9 := hC
  have hM0 := hM
  have hW0 := hW
  obtain ⟨⟨r0, r1, r2, r3⟩, hj, ⟨n0, n1, n2, n3, n4, n5⟩, n6, n7, n8, n9⟩ := hM
  obtain ⟨kN, kT, kA, kB, nd, len, lA, lB, pp2, pp12, g12, t1, p9⟩ := hW
  have q0 := pc_le pi N
  have q1 := pc_le pi T
  refine k_aload_n hC 0 dX4_advise_0 rfl ?_
  refine k_aload_n hC 1 dX4_advise_1 rfl ?_
  refine k_iload_n hC 2 dX4_advise_2 rfl ?_
  refine k_iload_n hC 3 dX4_advise_3 rfl ?_
  refine k_iload_n hC 4 dX4_advise_4 rfl ?_
  refine k_callVr hC 5 0 [0, 1, 2, 3, 4] (m_wrong l D o th fj fs fl fn p0 p1 p2) cw_RX4_113 dX4_advise_5 ⟨Nat.le_of_ble_eq_true rfl, Nat.le_of_ble_eq_true rfl, Nat.le_of_ble_eq_true rfl, Nat.le_of_ble_eq_true rfl⟩ rfl (Nat.le_of_ble_eq_true rfl) rfl rfl rfl (by decide) rfl (fun _ => Nat.le_of_ble_eq_true rfl) (fun _ => rfl) _ rfl (fun v u hp => ?_)
  obtain rfl := hp
  refine KJ.eqs (st' := .int (nI (serK p0 p1 p2)) :: .ref (o 0) :: []) rfl ?_
  refine k_putf hC 8 (ty0 := tyX4) 0 0 [((o 0), .inr (4, [.int (nI (serK p0 p1 p2)), .ref (o 1), .ref (o 2), .ref (o 3), .ref (o 4)])), ((o 1), .inl (D.1 5, 160, .inl fj)), ((o 2), .inl (D.1 5, 24, .inl fs)), ((o 3), .inl (D.1 5, 26, .inl fl)), ((o 4), .inl (D.1 5, 10, .inl fn))] dX4_advise_8 rfl rfl inlX4 tyX4_ok nmX4 (by decide) wq_8_7 rfl rfl rfl (Nat.le_of_ble_eq_true rfl) rfl ?_
  refine k_aload_n hC 11 dX4_advise_11 rfl ?_
  refine k_getf hC 12 0 0 dX4_advise_12 rfl rfl inlX4 (by decide) wq_8_7 rfl ?_
  refine n_if_eq hC 15 20 dX4_advise_15 (by decide) (Nat.lt_of_le_of_lt (kK_le _ _) (by decide)) (fun hK => ?_) (fun hK => ?_)
  · skip
    obtain ⟨hk, hs, hm⟩ := serK_ok hK
    obtain ⟨k40, hp0⟩ := hk.k
    obtain ⟨s40, hp1⟩ := hs.k
    obtain ⟨m30, hp2⟩ := hm.k
    rw [← hp0, ← hp1, ← hp2]
    refine k_aload_n hC 20 dX4_advise_20 rfl ?_
    refine k_callV hC 21 0 [0, 1, 2, 3, 4] (fun (e : Nat → Nat) => [((o 0), .inr (4, [.int (nI (serK (nI (kn p0)) (nI (kn p1)) (nI (kn p2)))), .ref (o 1), .ref (o 2), .ref (o 3), .ref (o 4)])), ((o 1), .inl (D.1 5, 160, .inl fj)), ((o 2), .inl (D.1 5, 24, .inl fs)), ((o 3), .inl (D.1 5, 26, .inl fl)), ((o 4), .inl (D.1 5, 10, .inl fn)), ((e 0), .inl (D.1 7, 4, .inr (.inr (.inr (.inr (va_up (va_up (va_up (va_up (fun _ => none) 0 (some (e 1))) 1 (some (e 2))) 2 (some (e 3))) 3 (some (e 4)))))))), ((e 1), .inl (D.1 5, 160, .inl fj)), ((e 2), .inl (D.1 5, 24, .inl fs)), ((e 3), .inl (D.1 5, 26, .inl fl)), ((e 4), .inl (D.1 5, 10, .inl fn))]) (m_kept l D o (nI (serK (nI (kn p0)) (nI (kn p1)) (nI (kn p2)))) fj fs fl fn) cw_RX4_134 dX4_advise_21 ⟨Nat.le_of_ble_eq_true rfl, Nat.le_of_ble_eq_true rfl, Nat.le_of_ble_eq_true rfl, Nat.le_of_ble_eq_true rfl⟩ rfl (Nat.le_of_ble_eq_true rfl) rfl rfl rfl (by decide) rfl (fun _ => Nat.le_of_ble_eq_true rfl) (fun _ => rfl) _ rfl (fun v (e : Nat → Nat) hp => ?_)
    obtain rfl := hp
    refine KJ.eqs (st' := .ref (e 0) :: []) rfl ?_
    refine k_astore hC 24 4 [(4, .ref (e 0)), (0, .ref (o 0)), (1, .int (nI (kn p0))), (2, .int (nI (kn p1))), (3, .int (nI (kn p2)))] dX4_advise_24 (by decide) rfl ?_
    refine k_iconst hC 26 dX4_advise_26 (-1) (by decide) ?_
    refine k_istore hC 27 5 [(5, .int (-1)), (4, .ref (e 0)), (0, .ref (o 0)), (1, .int (nI (kn p0))), (2, .int (nI (kn p1))), (3, .int (nI (kn p2)))] dX4_advise_27 (by decide) rfl ?_
    refine k_iconst hC 29 dX4_advise_29 (-1) (by decide) ?_
    refine k_istore hC 30 6 [(6, .int (-1)), (5, .int (-1)), (4, .ref (e 0)), (0, .ref (o 0)), (1, .int (nI (kn p0))), (2, .int (nI (kn p1))), (3, .int (nI (kn p2)))] dX4_advise_30 (by decide) rfl ?_
    refine k_iconst hC 32 dX4_advise_32 (nI 2) (by decide) ?_
    refine k_aload_n hC 33 dX4_advise_33 rfl ?_
    refine k_callVr hC 34 0 [0, 1, 2, 3, 4] (m_pinned l D o (nI (serK (nI (kn p0)) (nI (kn p1)) (nI (kn p2)))) fj fs fl fn N T to pi fe hj nd kN kT p9) cw_RX4_86 dX4_advise_34 ⟨Nat.le_of_ble_eq_true rfl, Nat.le_of_ble_eq_true rfl, Nat.le_of_ble_eq_true rfl, Nat.le_of_ble_eq_true rfl⟩ rfl (Nat.le_of_ble_eq_true rfl) rfl rfl rfl (by decide) rfl (fun _ => Nat.le_of_ble_eq_true rfl) (fun _ => rfl) _ rfl (fun v u hp => ?_)
    obtain rfl := hp
    refine KJ.eqs (st' := .int (nI (pc pi N + pc pi T)) :: .int (nI 2) :: []) rfl ?_
    refine k_max hC 37 dX4_advise_37 wq_9_22 wq_6_10 wq_6_6 wq_6_11 ⟨Nat.le_of_ble_eq_true rfl, Nat.le_of_ble_eq_true rfl, Nat.le_of_ble_eq_true rfl, Nat.le_of_ble_eq_true rfl⟩ (KJ.topi (y := (nI (max 2 (pc pi N + pc pi T)))) (nmax (by decide) (by omega)) ?_)
    obtain ⟨x0, hx0⟩ : ∃ z, max 2 (pc pi N + pc pi T) = z := ⟨_, rfl⟩
    rw [hx0]
    refine k_istore hC 40 7 [(7, .int (nI x0)), (6, .int (-1)), (5, .int (-1)), (4, .ref (e 0)), (0, .ref (o 0)), (1, .int (nI (kn p0))), (2, .int (nI (kn p1))), (3, .int (nI (kn p2)))] dX4_advise_40 (by decide) rfl ?_
    have loop42 : ∀ (n42 : Nat) (x : Nat) (bb mm : Int32) (aj as al an : Nat → Int32), 13 - x < n42 → 2 ≤ x → pc pi N + pc pi T ≤ x → x0 ≤ x → x ≤ 13 → MR (N, T, A, B, to, pi, fe, pl, go, hi, mi, re, lo) (aj, as, al, an) → advL (N, T, A, B, to, pi, fe, pl, go, hi, mi, re, lo) p0 p1 p2 (13 - x) x bb mm = advV (N, T, A, B, to, pi, fe, pl, go, hi, mi, re, lo) p0 p1 p2 → KJ l G D ({ frames := 7, cells := 335, slots := 1544, locals := 176 } : Room) 9 (5 + 30 * (x - x0)) (224 + 120 * (x - x0)) [((o 0), .inr (4, [.int (nI (serK (nI (kn p0)) (nI (kn p1)) (nI (kn p2)))), .ref (o 1), .ref (o 2), .ref (o 3), .ref (o 4)])), ((o 1), .inl (D.1 5, 160, .inl aj)), ((o 2), .inl (D.1 5, 24, .inl as)), ((o 3), .inl (D.1 5, 26, .inl al)), ((o 4), .inl (D.1 5, 10, .inl an)), ((e 0), .inl (D.1 7, 4, .inr (.inr (.inr (.inr (va_up (va_up (va_up (va_up (fun _ => none) 0 (some (e 1))) 1 (some (e 2))) 2 (some (e 3))) 3 (some (e 4)))))))), ((e 1), .inl (D.1 5, 160, .inl fj)), ((e 2), .inl (D.1 5, 24, .inl fs)), ((e 3), .inl (D.1 5, 26, .inl fl)), ((e 4), .inl (D.1 5, 10, .inl fn))] [(7, .int (nI x)), (6, .int mm), (5, .int bb), (4, .ref (e 0)), (0, .ref (o 0)), (1, .int (nI (kn p0))), (2, .int (nI (kn p1))), (3, .int (nI (kn p2)))] 42 [] := by
      intro n42
      induction n42 with
      | zero => intro x bb mm aj as al an h; exact absurd h (Nat.not_lt_zero _)
      | succ n42 ih42 =>
        intro x bb mm aj as al an hn42 hx2 hxp hx0x hx13 hMa hadv
        refine k_iload hC 42 dX4_advise_42 rfl ?_
        refine k_bipush hC 44 dX4_advise_44 (nI 12) (by decide) ?_
        refine n_icmp_gt hC 46 94 dX4_advise_46 (by decide) (by omega) (by omega) (fun h46 => ?_) (fun h46 => ?_)
        · skip
          refine k_iload hC 94 dX4_advise_94 rfl ?_
          refine KJ.sub (ws' := [((o 0), .inr (4, [.int (nI (serK (nI (kn p0)) (nI (kn p1)) (nI (kn p2)))), .ref (o 1), .ref (o 2), .ref (o 3), .ref (o 4)])), ((o 1), .inl (D.1 5, 160, .inl aj)), ((o 2), .inl (D.1 5, 24, .inl as)), ((o 3), .inl (D.1 5, 26, .inl al)), ((o 4), .inl (D.1 5, 10, .inl an))]) [0, 1, 2, 3, 4] (by decide) rfl rfl ?_
          exact k_iret hC hE 96 (aj, as, al, an) dX4_advise_96 rfl (⟨_, rfl, Or.inl ⟨hK, by rw [← hadv, show 13 - x = 0 by omega]; rfl, hMa⟩⟩) (by rw [hp0, hp1, hp2]) ⟨(show 5 + 30 * (x - x0) ≤ 335 by omega), (show 224 + 120 * (x - x0) ≤ 1544 by omega)⟩
        · skip
          refine k_aload_n hC 49 dX4_advise_49 rfl ?_
          refine k_iload hC 50 dX4_advise_50 rfl ?_
          refine k_callV hC 52 0 [0, 1, 2, 3, 4] (fun (y0 : MG) => [((o 0), .inr (4, [.int (nI (serK (nI (kn p0)) (nI (kn p1)) (nI (kn p2)))), .ref (o 1), .ref (o 2), .ref (o 3), .ref (o 4)])), ((o 1), .inl (D.1 5, 160, .inl y0.1)), ((o 2), .inl (D.1 5, 24, .inl y0.2.1)), ((o 3), .inl (D.1 5, 26, .inl y0.2.2.1)), ((o 4), .inl (D.1 5, 10, .inl y0.2.2.2)), ((e 0), .inl (D.1 7, 4, .inr (.inr (.inr (.inr (va_up (va_up (va_up (va_up (fun _ => none) 0 (some (e 1))) 1 (some (e 2))) 2 (some (e 3))) 3 (some (e 4)))))))), ((e 1), .inl (D.1 5, 160, .inl fj)), ((e 2), .inl (D.1 5, 24, .inl fs)), ((e 3), .inl (D.1 5, 26, .inl fl)), ((e 4), .inl (D.1 5, 10, .inl fn))]) (m_place l D o (nI (serK (nI (kn p0)) (nI (kn p1)) (nI (kn p2)))) aj as al an N T A B to pi fe pl go hi mi re lo x _ hMa hW0 hx2 (by omega) hxp rfl) cw_RX4_123 dX4_advise_52 ⟨Nat.le_of_ble_eq_true rfl, Nat.le_of_ble_eq_true rfl, (show 5 + 30 * (x - x0) + 0 ≤ 335 by omega), (show 224 + 120 * (x - x0) + 0 ≤ 1544 by omega)⟩ rfl (Nat.le_of_ble_eq_true rfl) rfl rfl rfl (by decide) rfl (fun _ => Nat.le_of_ble_eq_true rfl) (fun _ => rfl) _ rfl (fun v (y0 : MG) hp => ?_)
          obtain ⟨rfl, hM2⟩ := hp
          refine KJ.eqs (st' := []) rfl ?_
          obtain ⟨s1, hs1⟩ : ∃ z, z = rsz x (N, T, A, B, to, pi, fe, pl, go, hi, mi, re, lo) := ⟨_, rfl⟩
          have hM2 : MR s1 y0 := by rw [hs1]; exact hM2
          have rk := rsz_ok hW0 hx2 (by omega) (show pnd (N, T, A, B, to, pi, fe, pl, go, hi, mi, re, lo) ≤ x from hxp)
          rw [← hs1] at rk
          obtain ⟨N1, T1, A1, B1, to1, pi1, fe1, pl1, go1, hi1, mi1, re1, lo1⟩ := s1
          obtain ⟨a1, a2, a3, a4⟩ := y0
          refine KJ.eqw (ws' := [((o 0), .inr (4, [.int (nI (serK (nI (kn p0)) (nI (kn p1)) (nI (kn p2)))), .ref (o 1), .ref (o 2), .ref (o 3), .ref (o 4)])), ((o 1), .inl (D.1 5, 160, .inl a1)), ((o 2), .inl (D.1 5, 24, .inl a2)), ((o 3), .inl (D.1 5, 26, .inl a3)), ((o 4), .inl (D.1 5, 10, .inl a4)), ((e 0), .inl (D.1 7, 4, .inr (.inr (.inr (.inr (va_up (va_up (va_up (va_up (fun _ => none) 0 (some (e 1))) 1 (some (e 2))) 2 (some (e 3))) 3 (some (e 4)))))))), ((e 1), .inl (D.1 5, 160, .inl fj)), ((e 2), .inl (D.1 5, 24, .inl fs)), ((e 3), .inl (D.1 5, 26, .inl fl)), ((e 4), .inl (D.1 5, 10, .inl fn))]) rfl ?_
          refine k_aload_n hC 55 dX4_advise_55 rfl ?_
          refine k_iload_n hC 56 dX4_advise_56 rfl ?_
          refine k_iload_n hC 57 dX4_advise_57 rfl ?_
          refine k_iload_n hC 58 dX4_advise_58 rfl ?_
          refine k_callV hC 59 0 [0, 1, 2, 3, 4] (fun (y1 : MG) => [((o 0), .inr (4, [.int (nI (serK (nI (kn p0)) (nI (kn p1)) (nI (kn p2)))), .ref (o 1), .ref (o 2), .ref (o 3), .ref (o 4)])), ((o 1), .inl (D.1 5, 160, .inl y1.1)), ((o 2), .inl (D.1 5, 24, .inl y1.2.1)), ((o 3), .inl (D.1 5, 26, .inl y1.2.2.1)), ((o 4), .inl (D.1 5, 10, .inl y1.2.2.2)), ((e 0), .inl (D.1 7, 4, .inr (.inr (.inr (.inr (va_up (va_up (va_up (va_up (fun _ => none) 0 (some (e 1))) 1 (some (e 2))) 2 (some (e 3))) 3 (some (e 4)))))))), ((e 1), .inl (D.1 5, 160, .inl fj)), ((e 2), .inl (D.1 5, 24, .inl fs)), ((e 3), .inl (D.1 5, 26, .inl fl)), ((e 4), .inl (D.1 5, 10, .inl fn))]) (m_hits l D o (nI (serK (nI (kn p0)) (nI (kn p1)) (nI (kn p2)))) a1 a2 a3 a4 N1 T1 A1 B1 to1 pi1 fe1 pl1 go1 hi1 mi1 re1 lo1 (kn p0) (kn p1) (kn p2) hi1 (srs (kn p0) (kn p1) (kn p2) 0 (N1, T1, A1, B1, to1, pi1, fe1, pl1, go1, hi1, mi1, re1, lo1)) hM2 rk.1 k40 s40 m30 rfl rfl rk.2.1) cw_RX4_117 dX4_advise_59 ⟨Nat.le_of_ble_eq_true rfl, Nat.le_of_ble_eq_true rfl, (show 5 + 30 * (x - x0) + 0 + 30 ≤ 335 by omega), (show 224 + 120 * (x - x0) + 0 + 120 ≤ 1544 by omega)⟩ rfl (Nat.le_of_ble_eq_true rfl) rfl rfl rfl (by decide) rfl (fun _ => Nat.le_of_ble_eq_true rfl) (fun _ => rfl) _ rfl (fun v (y1 : MG) hp => ?_)
          obtain ⟨rfl, hM3⟩ := hp
          refine KJ.eqs (st' := .int (hiS (srs (kn p0) (kn p1) (kn p2) 0 (N1, T1, A1, B1, to1, pi1, fe1, pl1, go1, hi1, mi1, re1, lo1)) - hi1) :: []) rfl ?_
          refine KJ.topi (y := (serV (rsz x (N, T, A, B, to, pi, fe, pl, go, hi, mi, re, lo)) p0 p1 p2)) (by rw [← hs1]; rfl) ?_
          refine k_istore hC 62 8 [(8, .int (serV (rsz x (N, T, A, B, to, pi, fe, pl, go, hi, mi, re, lo)) p0 p1 p2)), (7, .int (nI x)), (6, .int mm), (5, .int bb), (4, .ref (e 0)), (0, .ref (o 0)), (1, .int (nI (kn p0))), (2, .int (nI (kn p1))), (3, .int (nI (kn p2)))] dX4_advise_62 (by decide) rfl ?_
          refine k_aload_n hC 64 dX4_advise_64 rfl ?_
          refine k_aload hC 65 dX4_advise_65 rfl ?_
          refine k_callV hC 67 0 [0, 1, 2, 3, 4, 5, 6, 7, 8, 9] (fun (_ : Unit) => [((o 0), .inr (4, [.int (nI (serK (nI (kn p0)) (nI (kn p1)) (nI (kn p2)))), .ref (o 1), .ref (o 2), .ref (o 3), .ref (o 4)])), ((o 1), .inl (D.1 5, 160, .inl (va_cpy fj y1.1 0 0 160))), ((o 2), .inl (D.1 5, 24, .inl (va_cpy fs y1.2.1 0 0 24))), ((o 3), .inl (D.1 5, 26, .inl (va_cpy fl y1.2.2.1 0 0 26))), ((o 4), .inl (D.1 5, 10, .inl (va_cpy fn y1.2.2.2 0 0 10))), ((e 0), .inl (D.1 7, 4, .inr (.inr (.inr (.inr (va_up (va_up (va_up (va_up (fun _ => none) 0 (some (e 1))) 1 (some (e 2))) 2 (some (e 3))) 3 (some (e 4)))))))), ((e 1), .inl (D.1 5, 160, .inl fj)), ((e 2), .inl (D.1 5, 24, .inl fs)), ((e 3), .inl (D.1 5, 26, .inl fl)), ((e 4), .inl (D.1 5, 10, .inl fn))]) (m_bringBack l D o (nI (serK (nI (kn p0)) (nI (kn p1)) (nI (kn p2)))) y1.1 y1.2.1 y1.2.2.1 y1.2.2.2 e fj fs fl fn) cw_RX4_138 dX4_advise_67 ⟨Nat.le_of_ble_eq_true rfl, Nat.le_of_ble_eq_true rfl, (show 5 + 30 * (x - x0) + 0 + 30 + 0 ≤ 335 by omega), (show 224 + 120 * (x - x0) + 0 + 120 + 0 ≤ 1544 by omega)⟩ rfl (Nat.le_of_ble_eq_true rfl) rfl rfl rfl (by decide) rfl (fun _ => Nat.le_of_ble_eq_true rfl) (fun _ => rfl) _ rfl (fun v (_ : Unit) hp => ?_)
          obtain rfl := hp
          refine KJ.eqs (st' := []) rfl ?_
          refine k_iload hC 70 dX4_advise_70 rfl ?_
          refine k_iload hC 72 dX4_advise_72 rfl ?_
          refine k_icmp_gt hC 74 80 dX4_advise_74 (by decide) (fun h74 => ?_) (fun h74 => ?_)
          · skip
            refine k_iload hC 80 dX4_advise_80 rfl ?_
            refine k_istore hC 82 5 [(5, .int (nI x)), (8, .int (serV (rsz x (N, T, A, B, to, pi, fe, pl, go, hi, mi, re, lo)) p0 p1 p2)), (7, .int (nI x)), (6, .int mm), (4, .ref (e 0)), (0, .ref (o 0)), (1, .int (nI (kn p0))), (2, .int (nI (kn p1))), (3, .int (nI (kn p2)))] dX4_advise_82 (by decide) rfl ?_
            refine k_iload hC 84 dX4_advise_84 rfl ?_
            refine k_istore hC 86 6 [(6, .int (serV (rsz x (N, T, A, B, to, pi, fe, pl, go, hi, mi, re, lo)) p0 p1 p2)), (5, .int (nI x)), (8, .int (serV (rsz x (N, T, A, B, to, pi, fe, pl, go, hi, mi, re, lo)) p0 p1 p2)), (7, .int (nI x)), (4, .ref (e 0)), (0, .ref (o 0)), (1, .int (nI (kn p0))), (2, .int (nI (kn p1))), (3, .int (nI (kn p2)))] dX4_advise_86 (by decide) rfl ?_
            refine k_iinc hC 88 3 (nI (x + 1)) [(7, .int (nI (x + 1))), (6, .int (serV (rsz x (N, T, A, B, to, pi, fe, pl, go, hi, mi, re, lo)) p0 p1 p2)), (5, .int (nI x)), (8, .int (serV (rsz x (N, T, A, B, to, pi, fe, pl, go, hi, mi, re, lo)) p0 p1 p2)), (4, .ref (e 0)), (0, .ref (o 0)), (1, .int (nI (kn p0))), (2, .int (nI (kn p1))), (3, .int (nI (kn p2)))] dX4_advise_88 rfl (nI_1 _) (by decide) rfl ?_
            refine k_goto hC 91 42 dX4_advise_91 (by decide) ?_
            refine KJ.lvp [0, 1, 2, 4, 5, 6, 7, 8] rfl ?_
            refine KJ.wide (ce' := 5 + 30 * (x + 1 - x0)) (sl' := 224 + 120 * (x + 1 - x0)) (by omega) (by omega) ?_
            exact ih42 (x + 1) (nI x) (serV (rsz x (N, T, A, B, to, pi, fe, pl, go, hi, mi, re, lo)) p0 p1 p2) (va_cpy fj y1.1 0 0 160) (va_cpy fs y1.2.1 0 0 24) (va_cpy fl y1.2.2.1 0 0 26) (va_cpy fn y1.2.2.2 0 0 10) (by omega) (by omega) (by omega) (by omega) (by omega) (MR_cpy hW0 hM0) (by rw [← hadv, show 13 - x = (13 - (x + 1)) + 1 by omega, advL, if_neg (Int32.not_le.mpr h74)])
          · skip
            refine k_goto hC 77 88 dX4_advise_77 (by decide) ?_
            refine k_iinc hC 88 1 (nI (x + 1)) [(7, .int (nI (x + 1))), (8, .int (serV (rsz x (N, T, A, B, to, pi, fe, pl, go, hi, mi, re, lo)) p0 p1 p2)), (6, .int mm), (5, .int bb), (4, .ref (e 0)), (0, .ref (o 0)), (1, .int (nI (kn p0))), (2, .int (nI (kn p1))), (3, .int (nI (kn p2)))] dX4_advise_88 rfl (nI_1 _) (by decide) rfl ?_
            refine k_goto hC 91 42 dX4_advise_91 (by decide) ?_
            refine KJ.lvp [0, 2, 3, 4, 5, 6, 7, 8] rfl ?_
            refine KJ.wide (ce' := 5 + 30 * (x + 1 - x0)) (sl' := 224 + 120 * (x + 1 - x0)) (by omega) (by omega) ?_
            exact ih42 (x + 1) bb mm (va_cpy fj y1.1 0 0 160) (va_cpy fs y1.2.1 0 0 24) (va_cpy fl y1.2.2.1 0 0 26) (va_cpy fn y1.2.2.2 0 0 10) (by omega) (by omega) (by omega) (by omega) (by omega) (MR_cpy hW0 hM0) (by rw [← hadv, show 13 - x = (13 - (x + 1)) + 1 by omega, advL, if_pos (Int32.not_lt.mp h74)])
    refine KJ.wide (ce' := 5 + 30 * (x0 - x0)) (sl' := 224 + 120 * (x0 - x0)) (by omega) (by omega) ?_
    exact loop42 (13 - x0 + 1) x0 (-1) (-1) fj fs fl fn (by omega) (by omega) (by omega) (by omega) (by omega) hM0 (by rw [← hx0]; rfl)
  · skip
    refine k_iconst hC 18 dX4_advise_18 (nI 0) (by decide) ?_
    exact k_iret hC hE 19 (fj, fs, fl, fn) dX4_advise_19 rfl (⟨_, rfl, Or.inr ⟨hK, hM0⟩⟩) rfl ⟨Nat.zero_le _, Nat.zero_le _⟩
