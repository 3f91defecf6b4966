/-! PinnedPantry$Row: a list of kinds -/
set_option maxHeartbeats 4000000 in
set_option maxRecDepth 100000 in
/-- Row() -/
theorem c_X0_init (l : Launch) (D : va_G) (r : Nat)  : MU l yX0_init cX0_init 1 none 1 12 D [.ref r] [(r, .inr (0, [.null, .int (nI 0)]))] (fun v (_ : Nat) => v = none) (fun q => [(r, .inr (0, [.ref q, .int (nI (([] : List Nat).length))])), (q, .inl (D.1 5, 40, .inl (fun _ => 0)))]) 1 40 := by
  refine MU.enter (by decide) [(0, .ref r)] rfl (Nat.le_of_ble_eq_true rfl) (fun G hC hE => ?_)
  have hC : CX G D cX0_init RX0 1 := hC
  refine k_aload_n hC 0 dX0_init_0 rfl ?_
  refine k_objInit hC 1 dX0_init_1 wq_2_15 wq_1_11 wq_1_12 ⟨Nat.le_of_ble_eq_true rfl, Nat.le_of_ble_eq_true rfl⟩ ?_
  refine k_aload_n hC 4 dX0_init_4 rfl ?_
  refine k_bipush hC 5 dX0_init_5 (nI 40) (by decide) ?_
  refine k_newarrI hC 7 40 dX0_init_7 (by decide) (by decide) ⟨Nat.le_of_ble_eq_true rfl, Nat.le_of_ble_eq_true rfl⟩ (fun q => ?_)
  refine KJ.eqw (ws' := [(r, .inr (0, [.null, .int (nI 0)])), (q, .inl (D.1 5, 40, .inl (fun _ => 0)))]) rfl ?_
  refine k_putfF hC 9 (ty0 := tyX0) 0 0 [(r, .inr (0, [.ref q, .int (nI 0)])), (q, .inl (D.1 5, 40, .inl (fun _ => 0)))] dX0_init_9 rfl rfl inlX0 tyX0_ok nmX0 (by decide) wq_2_17 rfl hE.2.2.2.2 rfl rfl rfl (Nat.le_of_ble_eq_true rfl) rfl ?_
  refine k_aload_n hC 12 dX0_init_12 rfl ?_
  refine k_iconst hC 13 dX0_init_13 (nI 0) (by decide) ?_
  refine k_putf hC 14 (ty0 := tyX0) 0 1 [(r, .inr (0, [.ref q, .int (nI 0)])), (q, .inl (D.1 5, 40, .inl (fun _ => 0)))] dX0_init_14 rfl rfl inlX0 tyX0_ok nmX0 (by decide) wq_2_18 rfl rfl rfl (Nat.le_of_ble_eq_true rfl) rfl ?_
  exact k_vret hC hE 17 q dX0_init_17 rfl rfl ⟨Nat.le_of_ble_eq_true rfl, Nat.le_of_ble_eq_true rfl⟩
set_option maxHeartbeats 4000000 in
set_option maxRecDepth 100000 in
/-- Row.at -/
theorem c_X0_at (l : Launch) (D : va_G) (r q : Nat) (L : List Nat) (f : Nat → Int32) (x : Int32) (hR : RowL L f) (hL : L.length ≤ 40) (hK : KL L) : MU l yX0_at cX0_at 2 (some .int) 0 0 D [.ref r, .int x] [(r, .inr (0, [.ref q, .int (nI L.length)])), (q, .inl (D.1 5, 40, .inl f))] (fun v (_ : Unit) => (∃ i : Nat, i < L.length ∧ x = nI i ∧ v = some (.int (nI (L.getD i 0)))) ∨ ((∀ i : Nat, i < L.length → x ≠ nI i) ∧ v = some (.int (-1)))) (fun _ => [(r, .inr (0, [.ref q, .int (nI L.length)])), (q, .inl (D.1 5, 40, .inl f))]) 0 0 := by
  refine MU.enter (by decide) [(0, .ref r), (1, .int x)] rfl (Nat.le_of_ble_eq_true rfl) (fun G hC hE => ?_)
  have hC : CX G D cX0_at RX0 2 := hC
  refine k_iload_n hC 0 dX0_at_0 rfl ?_
  refine k_if_lt hC 1 30 dX0_at_1 (by decide) (fun h1 => ?_) (fun h1 => ?_)
  · skip
    refine k_iconst hC 30 dX0_at_30 (-1) (by decide) ?_
    exact k_iret hC hE 31 () dX0_at_31 rfl (Or.inr ⟨(fun i hi e => absurd h1 (by rw [e]; exact nI_pos (by omega))), rfl⟩) rfl ⟨Nat.zero_le _, Nat.zero_le _⟩
  · skip
    obtain ⟨i, hi, rfl⟩ := nI_of h1
    refine k_iload_n hC 4 dX0_at_4 rfl ?_
    refine k_aload_n hC 5 dX0_at_5 rfl ?_
    refine k_getf hC 6 0 1 dX0_at_6 rfl rfl inlX0 (by decide) wq_2_18 rfl ?_
    refine n_icmp_ge hC 9 30 dX0_at_9 (by decide) (by omega) (by omega) (fun h9 => ?_) (fun h9 => ?_)
    · skip
      refine k_iconst hC 30 dX0_at_30 (-1) (by decide) ?_
      exact k_iret hC hE 31 () dX0_at_31 rfl (Or.inr ⟨(fun j hj e => absurd ((nI_eq (by omega) (by omega)).mp e) (by omega)), rfl⟩) rfl ⟨Nat.zero_le _, Nat.zero_le _⟩
    · skip
      refine k_iload_n hC 12 dX0_at_12 rfl ?_
      refine k_aload_n hC 13 dX0_at_13 rfl ?_
      refine k_getf hC 14 0 0 dX0_at_14 rfl rfl inlX0 (by decide) wq_2_17 rfl ?_
      refine k_alen hC 17 1 0 (nI 40) dX0_at_17 rfl rfl rfl ?_
      refine n_icmp_ge hC 18 30 dX0_at_18 (by decide) (by omega) (by omega) (fun h18 => ?_) (fun h18 => ?_)
      · skip
        exact absurd h9 (by omega)
      · skip
        refine k_aload_n hC 21 dX0_at_21 rfl ?_
        refine k_getf hC 22 0 0 dX0_at_22 rfl rfl inlX0 (by decide) wq_2_17 rfl ?_
        refine k_iload_n hC 25 dX0_at_25 rfl ?_
        refine n_iald hC 26 1 (nI (L.getD i 0)) dX0_at_26 rfl (by omega) (by decide) (hR i (by omega)) ?_
        refine k_goto hC 27 31 dX0_at_27 (by decide) ?_
        exact k_iret hC hE 31 () dX0_at_31 rfl (Or.inl ⟨i, h9, rfl, rfl⟩) rfl ⟨Nat.zero_le _, Nat.zero_le _⟩
set_option maxHeartbeats 4000000 in
set_option maxRecDepth 100000 in
/-- Row.at, a place that is there -/
theorem c_X0_at_in (l : Launch) (D : va_G) (r q : Nat) (L : List Nat) (f : Nat → Int32) (i : Nat) (hR : RowL L f) (hL : L.length ≤ 40) (hK : KL L) (hi : i < L.length) : MU l yX0_at cX0_at 2 (some .int) 0 0 D [.ref r, .int (nI i)] [(r, .inr (0, [.ref q, .int (nI L.length)])), (q, .inl (D.1 5, 40, .inl f))] (fun v (_ : Unit) => v = some (.int (nI (L.getD i 0)))) (fun _ => [(r, .inr (0, [.ref q, .int (nI L.length)])), (q, .inl (D.1 5, 40, .inl f))]) 0 0 := by
  refine MU.enter (by decide) [(0, .ref r), (1, .int (nI i))] rfl (Nat.le_of_ble_eq_true rfl) (fun G hC hE => ?_)
  have hC : CX G D cX0_at RX0 2 := hC
  refine k_iload_n hC 0 dX0_at_0 rfl ?_
  refine n_if_lt hC 1 30 dX0_at_1 (by decide) (by omega) (fun h1 => ?_) (fun h1 => ?_)
  · skip
    exact h1.elim
  · skip
    refine k_iload_n hC 4 dX0_at_4 rfl ?_
    refine k_aload_n hC 5 dX0_at_5 rfl ?_
    refine k_getf hC 6 0 1 dX0_at_6 rfl rfl inlX0 (by decide) wq_2_18 rfl ?_
    refine n_icmp_ge hC 9 30 dX0_at_9 (by decide) (by omega) (by omega) (fun h9 => ?_) (fun h9 => ?_)
    · skip
      exact absurd h9 (by omega)
    · skip
      refine k_iload_n hC 12 dX0_at_12 rfl ?_
      refine k_aload_n hC 13 dX0_at_13 rfl ?_
      refine k_getf hC 14 0 0 dX0_at_14 rfl rfl inlX0 (by decide) wq_2_17 rfl ?_
      refine k_alen hC 17 1 0 (nI 40) dX0_at_17 rfl rfl rfl ?_
      refine n_icmp_ge hC 18 30 dX0_at_18 (by decide) (by omega) (by omega) (fun h18 => ?_) (fun h18 => ?_)
      · skip
        exact absurd h18 (by omega)
      · skip
        refine k_aload_n hC 21 dX0_at_21 rfl ?_
        refine k_getf hC 22 0 0 dX0_at_22 rfl rfl inlX0 (by decide) wq_2_17 rfl ?_
        refine k_iload_n hC 25 dX0_at_25 rfl ?_
        refine n_iald hC 26 1 (nI (L.getD i 0)) dX0_at_26 rfl (by omega) (by decide) (hR i (by omega)) ?_
        refine k_goto hC 27 31 dX0_at_27 (by decide) ?_
        exact k_iret hC hE 31 () dX0_at_31 rfl rfl rfl ⟨Nat.zero_le _, Nat.zero_le _⟩
set_option maxHeartbeats 4000000 in
set_option maxRecDepth 100000 in
/-- Row.placeOf -/
theorem c_X0_placeOf (l : Launch) (D : va_G) (r q : Nat) (L : List Nat) (f : Nat → Int32) (k : Nat) (hR : RowL L f) (hL : L.length ≤ 40) (hK : KL L) (hk : k < 40) : MU l yX0_placeOf cX0_placeOf 3 (some .int) 0 0 D [.ref r, .int (nI k)] [(r, .inr (0, [.ref q, .int (nI L.length)])), (q, .inl (D.1 5, 40, .inl f))] (fun v (_ : Unit) => v = some (.int (ixv L k))) (fun _ => [(r, .inr (0, [.ref q, .int (nI L.length)])), (q, .inl (D.1 5, 40, .inl f))]) 0 0 := by
  refine MU.enter (by decide) [(0, .ref r), (1, .int (nI k))] rfl (Nat.le_of_ble_eq_true rfl) (fun G hC hE => ?_)
  have hC : CX G D cX0_placeOf RX0 3 := hC
  refine k_iconst hC 0 dX0_placeOf_0 (nI 0) (by decide) ?_
  refine k_istore_n hC 1 2 [(2, .int (nI 0)), (0, .ref r), (1, .int (nI k))] dX0_placeOf_1 rfl (by decide) rfl ?_
  have loop2 : ∀ (n2 : Nat) (i : Nat), L.length - i < n2 → i ≤ L.length → (∀ j : Nat, j < i → ¬ L.getD j 0 = k) → KJ l G D ({ frames := 0, cells := 0, slots := 0, locals := 0 } : Room) 3 0 0 [(r, .inr (0, [.ref q, .int (nI L.length)])), (q, .inl (D.1 5, 40, .inl f))] [(2, .int (nI i)), (0, .ref r), (1, .int (nI k))] 2 [] := by
    intro n2
    induction n2 with
    | zero => intro i h; exact absurd h (Nat.not_lt_zero _)
    | succ n2 ih2 =>
      intro i hn2 hi hb
      have hg := hK.g i
      refine k_iload_n hC 2 dX0_placeOf_2 rfl ?_
      refine k_aload_n hC 3 dX0_placeOf_3 rfl ?_
      refine k_getf hC 4 0 1 dX0_placeOf_4 rfl rfl inlX0 (by decide) wq_2_18 rfl ?_
      refine n_icmp_ge hC 7 37 dX0_placeOf_7 (by decide) (by omega) (by omega) (fun h7 => ?_) (fun h7 => ?_)
      · skip
        refine k_iconst hC 37 dX0_placeOf_37 (-1) (by decide) ?_
        exact k_iret hC hE 38 () dX0_placeOf_38 rfl (by rw [ixv, if_neg (ix_none (fun j hj => hb j (by omega)))]) rfl ⟨Nat.zero_le _, Nat.zero_le _⟩
      · skip
        refine k_iload_n hC 10 dX0_placeOf_10 rfl ?_
        refine k_aload_n hC 11 dX0_placeOf_11 rfl ?_
        refine k_getf hC 12 0 0 dX0_placeOf_12 rfl rfl inlX0 (by decide) wq_2_17 rfl ?_
        refine k_alen hC 15 1 0 (nI 40) dX0_placeOf_15 rfl rfl rfl ?_
        refine n_icmp_ge hC 16 37 dX0_placeOf_16 (by decide) (by omega) (by omega) (fun h16 => ?_) (fun h16 => ?_)
        · skip
          exact absurd h16 (by omega)
        · skip
          refine k_aload_n hC 19 dX0_placeOf_19 rfl ?_
          refine k_getf hC 20 0 0 dX0_placeOf_20 rfl rfl inlX0 (by decide) wq_2_17 rfl ?_
          refine k_iload_n hC 23 dX0_placeOf_23 rfl ?_
          refine n_iald hC 24 1 (nI (L.getD i 0)) dX0_placeOf_24 rfl (by omega) (by decide) (hR i (by omega)) ?_
          refine k_iload_n hC 25 dX0_placeOf_25 rfl ?_
          refine n_icmp_ne hC 26 31 dX0_placeOf_26 (by decide) (by omega) (by omega) (fun h26 => ?_) (fun h26 => ?_)
          · skip
            refine k_iinc hC 31 0 (nI (i + 1)) [(2, .int (nI (i + 1))), (0, .ref r), (1, .int (nI k))] dX0_placeOf_31 rfl (nI_1 _) (by decide) rfl ?_
            refine k_goto hC 34 2 dX0_placeOf_34 (by decide) ?_
            exact ih2 (i + 1) (by omega) (by omega) (lt_s hb h26)
          · skip
            refine k_iload_n hC 29 dX0_placeOf_29 rfl ?_
            exact k_iret hC hE 30 () dX0_placeOf_30 rfl (by rw [ixv, if_pos (ix_found h7 h26 hb).1, (ix_found h7 h26 hb).2]) rfl ⟨Nat.zero_le _, Nat.zero_le _⟩
  exact loop2 (L.length + 1) 0 (by omega) (by omega) (fun j hj => absurd hj (Nat.not_lt_zero j))
