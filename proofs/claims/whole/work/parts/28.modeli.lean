/-! PinnedPantryModel: a new one -/
def iniJ (i : Nat) : Nat → Int32 := fun j => if j % 4 = 0 ∧ j < 4 * i then -1 else 0
theorem iniJ_0 : iniJ 0 = fun _ => 0 := by
  funext j
  exact if_neg (by omega)
theorem iniJ_s (i : Nat) : upd (iniJ i) (4 * i) (-1) = iniJ (i + 1) := by
  funext j
  by_cases e : j = 4 * i
  · subst e
    rw [upd_s]
    exact (if_pos (by omega)).symm
  · rw [upd_n e]
    unfold iniJ
    by_cases h : j % 4 = 0 ∧ j < 4 * i
    · rw [if_pos h, if_pos (by omega)]
    · rw [if_neg h, if_neg (by omega)]
def initM : MG := (iniJ 40, fun _ => 0, fun _ => 0, upd (fun _ => 0) 0 (nI 6))
theorem init_MR : MR initS initM := by
  refine ⟨⟨RowL.nil, RowL.nil, RowL.nil, RowL.nil⟩, fun k hk => ⟨?_, ?_, ?_, ?_⟩, ⟨rfl, rfl, rfl, rfl, rfl, rfl⟩, rfl, rfl, rfl, rfl⟩
  · rw [sf_m List.not_mem_nil List.not_mem_nil]
    exact if_pos (by omega)
  · exact if_neg (by omega)
  · exact if_neg (by omega)
  · exact if_neg (by omega)
set_option maxHeartbeats 400000 in
set_option maxRecDepth 100000 in
/-- PinnedPantryModel() -/
theorem m_init (l : Launch) (D : va_G) (h : Nat)  : MU l yX4_init cX4_init 2 none 1 12 D [.ref h] [(h, .inr (4, [.int 0, .null, .null, .null, .null]))] (fun v (u : Nat → Nat) => v = none ∧ u 0 = h) (fun u => wMo D u 0 initM) 4 220 := by
  refine MU.enter (by decide) [(0, .ref h)] rfl (Nat.le_of_ble_eq_true rfl) (fun G hC hE => ?_)
  have hC : CX G D cX4_init RX4 2 := hC
  refine k_aload_n hC 0 dX4_init_0 rfl ?_
  refine k_objInit hC 1 dX4_init_1 wq_3_3 wq_1_11 wq_1_12 ⟨Nat.le_of_ble_eq_true rfl, Nat.le_of_ble_eq_true rfl⟩ ?_
  refine k_aload_n hC 4 dX4_init_4 rfl ?_
  refine k_sipush hC 5 dX4_init_5 (nI 160) (by decide) ?_
  refine k_newarrI hC 8 160 dX4_init_8 (by decide) (by decide) ⟨Nat.le_of_ble_eq_true rfl, Nat.le_of_ble_eq_true rfl⟩ (fun q8 => ?_)
  refine KJ.eqw (ws' := [(h, .inr (4, [.int 0, .null, .null, .null, .null])), (q8, .inl (D.1 5, 160, .inl (fun _ => 0)))]) rfl ?_
  refine k_putfF hC 10 (ty0 := tyX4) 0 1 [(h, .inr (4, [.int 0, .ref q8, .null, .null, .null])), (q8, .inl (D.1 5, 160, .inl (fun _ => 0)))] dX4_init_10 rfl rfl inlX4 tyX4_ok nmX4 (by decide) wq_3_4 rfl hE.2.2.2.2 rfl rfl rfl (Nat.le_of_ble_eq_true rfl) rfl ?_
  refine k_aload_n hC 13 dX4_init_13 rfl ?_
  refine k_bipush hC 14 dX4_init_14 (nI 24) (by decide) ?_
  refine k_newarrI hC 16 24 dX4_init_16 (by decide) (by decide) ⟨Nat.le_of_ble_eq_true rfl, Nat.le_of_ble_eq_true rfl⟩ (fun q16 => ?_)
  refine KJ.eqw (ws' := [(h, .inr (4, [.int 0, .ref q8, .null, .null, .null])), (q8, .inl (D.1 5, 160, .inl (fun _ => 0))), (q16, .inl (D.1 5, 24, .inl (fun _ => 0)))]) rfl ?_
  refine k_putfF hC 18 (ty0 := tyX4) 0 2 [(h, .inr (4, [.int 0, .ref q8, .ref q16, .null, .null])), (q8, .inl (D.1 5, 160, .inl (fun _ => 0))), (q16, .inl (D.1 5, 24, .inl (fun _ => 0)))] dX4_init_18 rfl rfl inlX4 tyX4_ok nmX4 (by decide) wq_3_5 rfl hE.2.2.2.2 rfl rfl rfl (Nat.le_of_ble_eq_true rfl) rfl ?_
  refine k_aload_n hC 21 dX4_init_21 rfl ?_
  refine k_bipush hC 22 dX4_init_22 (nI 26) (by decide) ?_
  refine k_newarrI hC 24 26 dX4_init_24 (by decide) (by decide) ⟨Nat.le_of_ble_eq_true rfl, Nat.le_of_ble_eq_true rfl⟩ (fun q24 => ?_)
  refine KJ.eqw (ws' := [(h, .inr (4, [.int 0, .ref q8, .ref q16, .null, .null])), (q8, .inl (D.1 5, 160, .inl (fun _ => 0))), (q16, .inl (D.1 5, 24, .inl (fun _ => 0))), (q24, .inl (D.1 5, 26, .inl (fun _ => 0)))]) rfl ?_
  refine k_putfF hC 26 (ty0 := tyX4) 0 3 [(h, .inr (4, [.int 0, .ref q8, .ref q16, .ref q24, .null])), (q8, .inl (D.1 5, 160, .inl (fun _ => 0))), (q16, .inl (D.1 5, 24, .inl (fun _ => 0))), (q24, .inl (D.1 5, 26, .inl (fun _ => 0)))] dX4_init_26 rfl rfl inlX4 tyX4_ok nmX4 (by decide) wq_3_6 rfl hE.2.2.2.2 rfl rfl rfl (Nat.le_of_ble_eq_true rfl) rfl ?_
  refine k_aload_n hC 29 dX4_init_29 rfl ?_
  refine k_bipush hC 30 dX4_init_30 (nI 10) (by decide) ?_
  refine k_newarrI hC 32 10 dX4_init_32 (by decide) (by decide) ⟨Nat.le_of_ble_eq_true rfl, Nat.le_of_ble_eq_true rfl⟩ (fun q32 => ?_)
  refine KJ.eqw (ws' := [(h, .inr (4, [.int 0, .ref q8, .ref q16, .ref q24, .null])), (q8, .inl (D.1 5, 160, .inl (fun _ => 0))), (q16, .inl (D.1 5, 24, .inl (fun _ => 0))), (q24, .inl (D.1 5, 26, .inl (fun _ => 0))), (q32, .inl (D.1 5, 10, .inl (fun _ => 0)))]) rfl ?_
  refine k_putfF hC 34 (ty0 := tyX4) 0 4 [(h, .inr (4, [.int 0, .ref q8, .ref q16, .ref q24, .ref q32])), (q8, .inl (D.1 5, 160, .inl (fun _ => 0))), (q16, .inl (D.1 5, 24, .inl (fun _ => 0))), (q24, .inl (D.1 5, 26, .inl (fun _ => 0))), (q32, .inl (D.1 5, 10, .inl (fun _ => 0)))] dX4_init_34 rfl rfl inlX4 tyX4_ok nmX4 (by decide) wq_3_7 rfl hE.2.2.2.2 rfl rfl rfl (Nat.le_of_ble_eq_true rfl) rfl ?_
  refine k_iconst hC 37 dX4_init_37 (nI 0) (by decide) ?_
  refine k_istore_n hC 38 1 [(1, .int (nI 0)), (0, .ref h)] dX4_init_38 rfl (by decide) rfl ?_
  refine KJ.eqw (ws' := [(h, .inr (4, [.int 0, .ref q8, .ref q16, .ref q24, .ref q32])), (q8, .inl (D.1 5, 160, .inl (iniJ 0))), (q16, .inl (D.1 5, 24, .inl (fun _ => 0))), (q24, .inl (D.1 5, 26, .inl (fun _ => 0))), (q32, .inl (D.1 5, 10, .inl (fun _ => 0)))]) (by rw [iniJ_0]) ?_
  have loop39 : ∀ (n39 : Nat) (i : Nat), 40 - i < n39 → i ≤ 40 → KJ l G D ({ frames := 1, cells := 4, slots := 220, locals := 12 } : Room) 2 4 220 [(h, .inr (4, [.int 0, .ref q8, .ref q16, .ref q24, .ref q32])), (q8, .inl (D.1 5, 160, .inl (iniJ i))), (q16, .inl (D.1 5, 24, .inl (fun _ => 0))), (q24, .inl (D.1 5, 26, .inl (fun _ => 0))), (q32, .inl (D.1 5, 10, .inl (fun _ => 0)))] [(1, .int (nI i)), (0, .ref h)] 39 [] := by
    intro n39
    induction n39 with
    | zero => intro i h; exact absurd h (Nat.not_lt_zero _)
    | succ n39 ih39 =>
      intro i hn39 hi2
      refine k_iload_n hC 39 dX4_init_39 rfl ?_
      refine k_bipush hC 40 dX4_init_40 (nI 40) (by decide) ?_
      refine n_icmp_ge hC 42 62 dX4_init_42 (by decide) (by omega) (by omega) (fun h42 => ?_) (fun h42 => ?_)
      · skip
        obtain rfl : i = 40 := by omega
        refine k_aload_n hC 62 dX4_init_62 rfl ?_
        refine k_getf hC 63 0 4 dX4_init_63 rfl rfl inlX4 (by decide) wq_3_7 rfl ?_
        refine k_iconst hC 66 dX4_init_66 (nI 0) (by decide) ?_
        refine k_bipush hC 67 dX4_init_67 (nI 6) (by decide) ?_
        refine n_iast hC 69 4 [(h, .inr (4, [.int 0, .ref q8, .ref q16, .ref q24, .ref q32])), (q8, .inl (D.1 5, 160, .inl (iniJ 40))), (q16, .inl (D.1 5, 24, .inl (fun _ => 0))), (q24, .inl (D.1 5, 26, .inl (fun _ => 0))), (q32, .inl (D.1 5, 10, .inl (upd (fun _ => 0) 0 (nI 6))))] dX4_init_69 rfl (by omega) (by decide) rfl ?_
        exact k_vret hC hE 70 (fun i => ([h, q8, q16, q24, q32] : List Nat).getD i 0) dX4_init_70 (⟨rfl, rfl⟩) rfl ⟨Nat.le_of_ble_eq_true rfl, Nat.le_of_ble_eq_true rfl⟩
      · skip
        refine k_aload_n hC 45 dX4_init_45 rfl ?_
        refine k_getf hC 46 0 1 dX4_init_46 rfl rfl inlX4 (by decide) wq_3_4 rfl ?_
        refine k_iconst hC 49 dX4_init_49 (nI 4) (by decide) ?_
        refine k_iload_n hC 50 dX4_init_50 rfl ?_
        refine n_imul hC 51 (4 * i) dX4_init_51 rfl ?_
        refine k_iconst hC 52 dX4_init_52 (nI 0) (by decide) ?_
        refine n_iadd hC 53 (4 * i) dX4_init_53 (by omega) ?_
        refine k_iconst hC 54 dX4_init_54 (-1) (by decide) ?_
        refine n_iast hC 55 1 [(h, .inr (4, [.int 0, .ref q8, .ref q16, .ref q24, .ref q32])), (q8, .inl (D.1 5, 160, .inl (upd (iniJ i) (4 * i) (-1)))), (q16, .inl (D.1 5, 24, .inl (fun _ => 0))), (q24, .inl (D.1 5, 26, .inl (fun _ => 0))), (q32, .inl (D.1 5, 10, .inl (fun _ => 0)))] dX4_init_55 rfl (by omega) (by decide) rfl ?_
        refine k_iinc hC 56 0 (nI (i + 1)) [(1, .int (nI (i + 1))), (0, .ref h)] dX4_init_56 rfl (nI_1 _) (by decide) rfl ?_
        refine k_goto hC 59 39 dX4_init_59 (by decide) ?_
        refine KJ.eqw (ws' := [(h, .inr (4, [.int 0, .ref q8, .ref q16, .ref q24, .ref q32])), (q8, .inl (D.1 5, 160, .inl (iniJ (i + 1)))), (q16, .inl (D.1 5, 24, .inl (fun _ => 0))), (q24, .inl (D.1 5, 26, .inl (fun _ => 0))), (q32, .inl (D.1 5, 10, .inl (fun _ => 0)))]) (by rw [iniJ_s]) ?_
        exact ih39 (i + 1) (by omega) (by omega)
  exact loop39 41 0 (by omega) (by omega)
