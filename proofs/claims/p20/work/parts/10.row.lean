/-! PinnedPantry$Row: a list of kinds -/
set_option maxHeartbeats 4000000 in
set_option maxRecDepth 100000 in
/-- Row() -/
theorem c_X0_init (l : Launch) (D : va_G) (r : Nat)  : MU l yX0_init cX0_init 1 none 1 12 D [.ref r] [(r, .inr (0, [.null, .int (nI 0)]))] (fun v (_ : Nat) => v = none) (fun q => [(r, .inr (0, [.ref q, .int (nI (([] : List Nat).length))])), (q, .inl (D.1 20, 40, .inl (fun _ => 0)))]) 1 40 := by
  refine MU.enter (by decide) [(0, .ref r)] rfl (Nat.le_of_ble_eq_true rfl) (fun G hC hE => ?_)
  have hC : CX G D cX0_init RX0 1 := hC
  refine k_aload_n hC 0 dX0_init_0 rfl ?_
  refine k_objInit hC 1 dX0_init_1 wq_2_12 wq_1_8 wq_1_9 ⟨Nat.le_of_ble_eq_true rfl, Nat.le_of_ble_eq_true rfl⟩ ?_
  refine k_aload_n hC 4 dX0_init_4 rfl ?_
  refine k_bipush hC 5 dX0_init_5 (nI 40) (by decide) ?_
  refine k_newarrI hC 7 40 dX0_init_7 (by decide) (by decide) ⟨Nat.le_of_ble_eq_true rfl, Nat.le_of_ble_eq_true rfl⟩ (fun q => ?_)
  refine KJ.eqw (ws' := [(r, .inr (0, [.null, .int (nI 0)])), (q, .inl (D.1 20, 40, .inl (fun _ => 0)))]) rfl ?_
  refine k_putfF hC 9 (ty0 := tyX0) 0 0 [(r, .inr (0, [.ref q, .int (nI 0)])), (q, .inl (D.1 20, 40, .inl (fun _ => 0)))] dX0_init_9 rfl rfl inlX0 tyX0_ok nmX0 (by decide) wq_2_14 rfl hE.2.2.2.2 rfl rfl rfl (Nat.le_of_ble_eq_true rfl) rfl ?_
  refine k_aload_n hC 12 dX0_init_12 rfl ?_
  refine k_iconst hC 13 dX0_init_13 (nI 0) (by decide) ?_
  refine k_putf hC 14 (ty0 := tyX0) 0 1 [(r, .inr (0, [.ref q, .int (nI 0)])), (q, .inl (D.1 20, 40, .inl (fun _ => 0)))] dX0_init_14 rfl rfl inlX0 tyX0_ok nmX0 (by decide) wq_2_15 rfl rfl rfl (Nat.le_of_ble_eq_true rfl) rfl ?_
  exact k_vret hC hE 17 q dX0_init_17 rfl rfl ⟨Nat.le_of_ble_eq_true rfl, Nat.le_of_ble_eq_true rfl⟩
set_option maxHeartbeats 4000000 in
set_option maxRecDepth 100000 in
/-- Row.at -/
theorem c_X0_at (l : Launch) (D : va_G) (r q : Nat) (L : List Nat) (f : Nat → Int32) (x : Int32) (hR : RowL L f) (hL : L.length ≤ 40) (hK : KL L) : MU l yX0_at cX0_at 2 (some .int) 0 0 D [.ref r, .int x] [(r, .inr (0, [.ref q, .int (nI L.length)])), (q, .inl (D.1 20, 40, .inl f))] (fun v (_ : Unit) => (∃ i : Nat, i < L.length ∧ x = nI i ∧ v = some (.int (nI (L.getD i 0)))) ∨ ((∀ i : Nat, i < L.length → x ≠ nI i) ∧ v = some (.int (-1)))) (fun _ => [(r, .inr (0, [.ref q, .int (nI L.length)])), (q, .inl (D.1 20, 40, .inl f))]) 0 0 := by
  refine MU.enter (by decide) [(0, .ref r), (1, .int x)] rfl (Nat.le_of_ble_eq_true rfl) (fun G hC hE => ?_)
  have hC : CX G D cX0_at RX0 2 := hC
  refine k_iload_n hC 0 dX0_at_0 rfl ?_
  refine k_if_lt hC 1 30 dX0_at_1 (by decide) (fun h1 => ?_) (fun h1 => ?_)
  · skip
    refine k_iconst hC 30 dX0_at_30 (-1) (by decide) ?_
    exact k_iret hC hE 31 () dX0_at_31 rfl (Or.inr ⟨(fun i hi e => absurd h1 (by rw [e]; exact nI_pos (by omega))), rfl⟩) rfl ⟨Nat.zero_le _, Nat.zero_le _⟩
  · skip
    obtain ⟨i, hi, rfl⟩ := nI_of h1
    refine k_iload_n hC 4 dX0_at_4 rfl ?_
    refine k_aload_n hC 5 dX0_at_5 rfl ?_
    refine k_getf hC 6 0 1 dX0_at_6 rfl rfl inlX0 (by decide) wq_2_15 rfl ?_
    refine n_icmp_ge hC 9 30 dX0_at_9 (by decide) (by omega) (by omega) (fun h9 => ?_) (fun h9 => ?_)
    · skip
      refine k_iconst hC 30 dX0_at_30 (-1) (by decide) ?_
      exact k_iret hC hE 31 () dX0_at_31 rfl (Or.inr ⟨(fun j hj e => absurd ((nI_eq (by omega) (by omega)).mp e) (by omega)), rfl⟩) rfl ⟨Nat.zero_le _, Nat.zero_le _⟩
    · skip
      refine k_iload_n hC 12 dX0_at_12 rfl ?_
      refine k_aload_n hC 13 dX0_at_13 rfl ?_
      refine k_getf hC 14 0 0 dX0_at_14 rfl rfl inlX0 (by decide) wq_2_14 rfl ?_
      refine k_alen hC 17 1 0 (nI 40) dX0_at_17 rfl rfl rfl ?_
      refine n_icmp_ge hC 18 30 dX0_at_18 (by decide) (by omega) (by omega) (fun h18 => ?_) (fun h18 => ?_)
      · skip
        exact absurd h9 (by omega)
      · skip
        refine k_aload_n hC 21 dX0_at_21 rfl ?_
        refine k_getf hC 22 0 0 dX0_at_22 rfl rfl inlX0 (by decide) wq_2_14 rfl ?_
        refine k_iload_n hC 25 dX0_at_25 rfl ?_
        refine n_iald hC 26 1 (nI (L.getD i 0)) dX0_at_26 rfl (by omega) (by decide) (hR i (by omega)) ?_
        refine k_goto hC 27 31 dX0_at_27 (by decide) ?_
        exact k_iret hC hE 31 () dX0_at_31 rfl (Or.inl ⟨i, h9, rfl, rfl⟩) rfl ⟨Nat.zero_le _, Nat.zero_le _⟩
set_option maxHeartbeats 4000000 in
set_option maxRecDepth 100000 in
/-- Row.at, a place that is there -/
theorem c_X0_at_in (l : Launch) (D : va_G) (r q : Nat) (L : List Nat) (f : Nat → Int32) (i : Nat) (hR : RowL L f) (hL : L.length ≤ 40) (hK : KL L) (hi : i < L.length) : MU l yX0_at cX0_at 2 (some .int) 0 0 D [.ref r, .int (nI i)] [(r, .inr (0, [.ref q, .int (nI L.length)])), (q, .inl (D.1 20, 40, .inl f))] (fun v (_ : Unit) => v = some (.int (nI (L.getD i 0)))) (fun _ => [(r, .inr (0, [.ref q, .int (nI L.length)])), (q, .inl (D.1 20, 40, .inl f))]) 0 0 := by
  refine MU.enter (by decide) [(0, .ref r), (1, .int (nI i))] rfl (Nat.le_of_ble_eq_true rfl) (fun G hC hE => ?_)
  have hC : CX G D cX0_at RX0 2 := hC
  refine k_iload_n hC 0 dX0_at_0 rfl ?_
  refine n_if_lt hC 1 30 dX0_at_1 (by decide) (by omega) (fun h1 => ?_) (fun h1 => ?_)
  · skip
    exact h1.elim
  · skip
    refine k_iload_n hC 4 dX0_at_4 rfl ?_
    refine k_aload_n hC 5 dX0_at_5 rfl ?_
    refine k_getf hC 6 0 1 dX0_at_6 rfl rfl inlX0 (by decide) wq_2_15 rfl ?_
    refine n_icmp_ge hC 9 30 dX0_at_9 (by decide) (by omega) (by omega) (fun h9 => ?_) (fun h9 => ?_)
    · skip
      exact absurd h9 (by omega)
    · skip
      refine k_iload_n hC 12 dX0_at_12 rfl ?_
      refine k_aload_n hC 13 dX0_at_13 rfl ?_
      refine k_getf hC 14 0 0 dX0_at_14 rfl rfl inlX0 (by decide) wq_2_14 rfl ?_
      refine k_alen hC 17 1 0 (nI 40) dX0_at_17 rfl rfl rfl ?_
      refine n_icmp_ge hC 18 30 dX0_at_18 (by decide) (by omega) (by omega) (fun h18 => ?_) (fun h18 => ?_)
      · skip
        exact absurd h18 (by omega)
      · skip
        refine k_aload_n hC 21 dX0_at_21 rfl ?_
        refine k_getf hC 22 0 0 dX0_at_22 rfl rfl inlX0 (by decide) wq_2_14 rfl ?_
        refine k_iload_n hC 25 dX0_at_25 rfl ?_
        refine n_iald hC 26 1 (nI (L.getD i 0)) dX0_at_26 rfl (by omega) (by decide) (hR i (by omega)) ?_
        refine k_goto hC 27 31 dX0_at_27 (by decide) ?_
        exact k_iret hC hE 31 () dX0_at_31 rfl rfl rfl ⟨Nat.zero_le _, Nat.zero_le _⟩
set_option maxHeartbeats 4000000 in
set_option maxRecDepth 100000 in
/-- Row.placeOf -/
theorem c_X0_placeOf (l : Launch) (D : va_G) (r q : Nat) (L : List Nat) (f : Nat → Int32) (k : Nat) (hR : RowL L f) (hL : L.length ≤ 40) (hK : KL L) (hk : k < 40) : MU l yX0_placeOf cX0_placeOf 3 (some .int) 0 0 D [.ref r, .int (nI k)] [(r, .inr (0, [.ref q, .int (nI L.length)])), (q, .inl (D.1 20, 40, .inl f))] (fun v (_ : Unit) => v = some (.int (ixv L k))) (fun _ => [(r, .inr (0, [.ref q, .int (nI L.length)])), (q, .inl (D.1 20, 40, .inl f))]) 0 0 := by
  refine MU.enter (by decide) [(0, .ref r), (1, .int (nI k))] rfl (Nat.le_of_ble_eq_true rfl) (fun G hC hE => ?_)
  have hC : CX G D cX0_placeOf RX0 3 := hC
  refine k_iconst hC 0 dX0_placeOf_0 (nI 0) (by decide) ?_
  refine k_istore_n hC 1 2 [(2, .int (nI 0)), (0, .ref r), (1, .int (nI k))] dX0_placeOf_1 rfl (by decide) rfl ?_
  have loop2 : ∀ (n2 : Nat) (i : Nat), L.length - i < n2 → i ≤ L.length → (∀ j : Nat, j < i → ¬ L.getD j 0 = k) → KJ l G D ({ frames := 0, cells := 0, slots := 0, locals := 0 } : Room) 3 0 0 [(r, .inr (0, [.ref q, .int (nI L.length)])), (q, .inl (D.1 20, 40, .inl f))] [(2, .int (nI i)), (0, .ref r), (1, .int (nI k))] 2 [] := by
    intro n2
    induction n2 with
    | zero => intro i h; exact absurd h (Nat.not_lt_zero _)
    | succ n2 ih2 =>
      intro i hn2 hi hb
      have hg := hK.g i
      refine k_iload_n hC 2 dX0_placeOf_2 rfl ?_
      refine k_aload_n hC 3 dX0_placeOf_3 rfl ?_
      refine k_getf hC 4 0 1 dX0_placeOf_4 rfl rfl inlX0 (by decide) wq_2_15 rfl ?_
      refine n_icmp_ge hC 7 37 dX0_placeOf_7 (by decide) (by omega) (by omega) (fun h7 => ?_) (fun h7 => ?_)
      · skip
        refine k_iconst hC 37 dX0_placeOf_37 (-1) (by decide) ?_
        exact k_iret hC hE 38 () dX0_placeOf_38 rfl (by rw [ixv, if_neg (ix_none (fun j hj => hb j (by omega)))]) rfl ⟨Nat.zero_le _, Nat.zero_le _⟩
      · skip
        refine k_iload_n hC 10 dX0_placeOf_10 rfl ?_
        refine k_aload_n hC 11 dX0_placeOf_11 rfl ?_
        refine k_getf hC 12 0 0 dX0_placeOf_12 rfl rfl inlX0 (by decide) wq_2_14 rfl ?_
        refine k_alen hC 15 1 0 (nI 40) dX0_placeOf_15 rfl rfl rfl ?_
        refine n_icmp_ge hC 16 37 dX0_placeOf_16 (by decide) (by omega) (by omega) (fun h16 => ?_) (fun h16 => ?_)
        · skip
          exact absurd h16 (by omega)
        · skip
          refine k_aload_n hC 19 dX0_placeOf_19 rfl ?_
          refine k_getf hC 20 0 0 dX0_placeOf_20 rfl rfl inlX0 (by decide) wq_2_14 rfl ?_
          refine k_iload_n hC 23 dX0_placeOf_23 rfl ?_
          refine n_iald hC 24 1 (nI (L.getD i 0)) dX0_placeOf_24 rfl (by omega) (by decide) (hR i (by omega)) ?_
          refine k_iload_n hC 25 dX0_placeOf_25 rfl ?_
          refine n_icmp_ne hC 26 31 dX0_placeOf_26 (by decide) (by omega) (by omega) (fun h26 => ?_) (fun h26 => ?_)
          · skip
            refine k_iinc hC 31 0 (nI (i + 1)) [(2, .int (nI (i + 1))), (0, .ref r), (1, .int (nI k))] dX0_placeOf_31 rfl (nI_1 _) (by decide) rfl ?_
            refine k_goto hC 34 2 dX0_placeOf_34 (by decide) ?_
            exact ih2 (i + 1) (by omega) (by omega) (lt_s hb h26)
          · skip
            refine k_iload_n hC 29 dX0_placeOf_29 rfl ?_
            exact k_iret hC hE 30 () dX0_placeOf_30 rfl (by rw [ixv, if_pos (ix_found h7 h26 hb).1, (ix_found h7 h26 hb).2]) rfl ⟨Nat.zero_le _, Nat.zero_le _⟩
  exact loop2 (L.length + 1) 0 (by omega) (by omega) (fun j hj => absurd hj (Nat.not_lt_zero j))
set_option maxHeartbeats 4000000 in
set_option maxRecDepth 100000 in
/-- Row.has -/
theorem c_X0_has (l : Launch) (D : va_G) (r q : Nat) (L : List Nat) (f : Nat → Int32) (k : Nat) (hR : RowL L f) (hL : L.length ≤ 40) (hK : KL L) (hk : k < 40) : MU l yX0_has cX0_has 2 (some .boolean) 1 22 D [.ref r, .int (nI k)] [(r, .inr (0, [.ref q, .int (nI L.length)])), (q, .inl (D.1 20, 40, .inl f))] (fun v (_ : Unit) => v = some (.int (nI (yn (k ∈ L))))) (fun _ => [(r, .inr (0, [.ref q, .int (nI L.length)])), (q, .inl (D.1 20, 40, .inl f))]) 0 0 := by
  refine MU.enter (by decide) [(0, .ref r), (1, .int (nI k))] rfl (Nat.le_of_ble_eq_true rfl) (fun G hC hE => ?_)
  have hC : CX G D cX0_has RX0 2 := hC
  refine k_aload_n hC 0 dX0_has_0 rfl ?_
  refine k_iload_n hC 1 dX0_has_1 rfl ?_
  refine k_callVr hC 2 0 [0, 1] (c_X0_placeOf l D r q L f k hR hL hK hk) cw_RX0_19 dX0_has_2 ⟨Nat.le_of_ble_eq_true rfl, Nat.le_of_ble_eq_true rfl, Nat.le_of_ble_eq_true rfl, Nat.le_of_ble_eq_true rfl⟩ rfl (Nat.le_of_ble_eq_true rfl) rfl rfl rfl (by decide) rfl (fun _ => Nat.le_of_ble_eq_true rfl) (fun _ => rfl) _ rfl (fun v u hp => ?_)
  obtain rfl := hp
  refine KJ.eqs (st' := .int (ixv L k) :: []) rfl ?_
  refine k_iconst hC 5 dX0_has_5 (-1) (by decide) ?_
  refine k_icmp_eq hC 6 13 dX0_has_6 (by decide) (fun h6 => ?_) (fun h6 => ?_)
  · skip
    refine k_iconst hC 13 dX0_has_13 (nI 0) (by decide) ?_
    exact k_iret hC hE 14 () dX0_has_14 rfl (by rw [yn_f ((ixv_m1 hL).mp h6)]) rfl ⟨Nat.zero_le _, Nat.zero_le _⟩
  · skip
    refine k_iconst hC 9 dX0_has_9 (nI 1) (by decide) ?_
    refine k_goto hC 10 14 dX0_has_10 (by decide) ?_
    exact k_iret hC hE 14 () dX0_has_14 rfl (by rw [yn_t (Classical.byContradiction (fun z => h6 ((ixv_m1 hL).mpr z)))]) rfl ⟨Nat.zero_le _, Nat.zero_le _⟩
set_option maxHeartbeats 4000000 in
set_option maxRecDepth 100000 in
/-- Row.append -/
theorem c_X0_append (l : Launch) (D : va_G) (r q : Nat) (L : List Nat) (f : Nat → Int32) (k : Nat) (hR : RowL L f) (hL : L.length < 40) (hk : k < 40) : MU l yX0_append cX0_append 2 none 0 0 D [.ref r, .int (nI k)] [(r, .inr (0, [.ref q, .int (nI L.length)])), (q, .inl (D.1 20, 40, .inl f))] (fun v (u : Nat → Int32) => v = none ∧ RowL (L ++ [k]) u) (fun u => [(r, .inr (0, [.ref q, .int (nI ((L ++ [k]).length))])), (q, .inl (D.1 20, 40, .inl u))]) 0 0 := by
  refine MU.enter (by decide) [(0, .ref r), (1, .int (nI k))] rfl (Nat.le_of_ble_eq_true rfl) (fun G hC hE => ?_)
  have hC : CX G D cX0_append RX0 2 := hC
  refine k_aload_n hC 0 dX0_append_0 rfl ?_
  refine k_getf hC 1 0 1 dX0_append_1 rfl rfl inlX0 (by decide) wq_2_15 rfl ?_
  refine n_if_lt hC 4 39 dX0_append_4 (by decide) (by omega) (fun h4 => ?_) (fun h4 => ?_)
  · skip
    exact h4.elim
  · skip
    refine k_aload_n hC 7 dX0_append_7 rfl ?_
    refine k_getf hC 8 0 1 dX0_append_8 rfl rfl inlX0 (by decide) wq_2_15 rfl ?_
    refine k_aload_n hC 11 dX0_append_11 rfl ?_
    refine k_getf hC 12 0 0 dX0_append_12 rfl rfl inlX0 (by decide) wq_2_14 rfl ?_
    refine k_alen hC 15 1 0 (nI 40) dX0_append_15 rfl rfl rfl ?_
    refine n_icmp_ge hC 16 39 dX0_append_16 (by decide) (by omega) (by omega) (fun h16 => ?_) (fun h16 => ?_)
    · skip
      exact absurd h16 (by omega)
    · skip
      refine k_aload_n hC 19 dX0_append_19 rfl ?_
      refine k_getf hC 20 0 0 dX0_append_20 rfl rfl inlX0 (by decide) wq_2_14 rfl ?_
      refine k_aload_n hC 23 dX0_append_23 rfl ?_
      refine k_getf hC 24 0 1 dX0_append_24 rfl rfl inlX0 (by decide) wq_2_15 rfl ?_
      refine k_iload_n hC 27 dX0_append_27 rfl ?_
      refine n_iast hC 28 1 [(r, .inr (0, [.ref q, .int (nI L.length)])), (q, .inl (D.1 20, 40, .inl (upd f L.length (nI k))))] dX0_append_28 rfl (by omega) (by decide) rfl ?_
      refine k_aload_n hC 29 dX0_append_29 rfl ?_
      refine k_dup hC 30 dX0_append_30 rfl ?_
      refine k_getf hC 31 0 1 dX0_append_31 rfl rfl inlX0 (by decide) wq_2_15 rfl ?_
      refine k_iconst hC 34 dX0_append_34 (nI 1) (by decide) ?_
      refine n_iadd hC 35 (L.length + 1) dX0_append_35 rfl ?_
      refine KJ.topi (y := nI (L ++ [k]).length) (by rw [List.length_append, List.length_singleton]) ?_
      refine k_putf hC 36 (ty0 := tyX0) 0 1 [(r, .inr (0, [.ref q, .int (nI ((L ++ [k]).length))])), (q, .inl (D.1 20, 40, .inl (upd f L.length (nI k))))] dX0_append_36 rfl rfl inlX0 tyX0_ok nmX0 (by decide) wq_2_15 rfl rfl rfl (Nat.le_of_ble_eq_true rfl) rfl ?_
      exact k_vret hC hE 39 (upd f L.length (nI k)) dX0_append_39 (⟨rfl, hR.push k⟩) rfl ⟨Nat.zero_le _, Nat.zero_le _⟩
set_option maxHeartbeats 4000000 in
set_option maxRecDepth 100000 in
/-- Row.takeOut -/
theorem c_X0_takeOut (l : Launch) (D : va_G) (r q : Nat) (L : List Nat) (f : Nat → Int32) (p : Nat) (hR : RowL L f) (hL : L.length ≤ 40) (hp : p < L.length) : MU l yX0_takeOut cX0_takeOut 3 none 0 0 D [.ref r, .int (nI p)] [(r, .inr (0, [.ref q, .int (nI L.length)])), (q, .inl (D.1 20, 40, .inl f))] (fun v (u : Nat → Int32) => v = none ∧ RowL (L.eraseIdx p) u) (fun u => [(r, .inr (0, [.ref q, .int (nI ((L.eraseIdx p).length))])), (q, .inl (D.1 20, 40, .inl u))]) 0 0 := by
  refine MU.enter (by decide) [(0, .ref r), (1, .int (nI p))] rfl (Nat.le_of_ble_eq_true rfl) (fun G hC hE => ?_)
  have hC : CX G D cX0_takeOut RX0 3 := hC
  refine k_iload_n hC 0 dX0_takeOut_0 rfl ?_
  refine n_if_lt hC 1 12 dX0_takeOut_1 (by decide) (by omega) (fun h1 => ?_) (fun h1 => ?_)
  · skip
    exact h1.elim
  · skip
    refine k_iload_n hC 4 dX0_takeOut_4 rfl ?_
    refine k_aload_n hC 5 dX0_takeOut_5 rfl ?_
    refine k_getf hC 6 0 1 dX0_takeOut_6 rfl rfl inlX0 (by decide) wq_2_15 rfl ?_
    refine n_icmp_lt hC 9 13 dX0_takeOut_9 (by decide) (by omega) (by omega) (fun h9 => ?_) (fun h9 => ?_)
    · skip
      refine k_iload_n hC 13 dX0_takeOut_13 rfl ?_
      refine k_iconst hC 14 dX0_takeOut_14 (nI 1) (by decide) ?_
      refine n_iadd hC 15 (p + 1) dX0_takeOut_15 rfl ?_
      refine k_istore_n hC 16 2 [(2, .int (nI (p + 1))), (0, .ref r), (1, .int (nI p))] dX0_takeOut_16 rfl (by decide) rfl ?_
      have e0 := shf_0 f p
      refine KJ.eqw (ws' := [(r, .inr (0, [.ref q, .int (nI L.length)])), (q, .inl (D.1 20, 40, .inl (shf f p (p + 1))))]) (by rw [e0]) ?_
      have loop17 : ∀ (n17 : Nat) (i : Nat), L.length - i < n17 → p < i → i ≤ L.length → KJ l G D ({ frames := 0, cells := 0, slots := 0, locals := 0 } : Room) 3 0 0 [(r, .inr (0, [.ref q, .int (nI L.length)])), (q, .inl (D.1 20, 40, .inl (shf f p i)))] [(2, .int (nI i)), (0, .ref r), (1, .int (nI p))] 17 [] := by
        intro n17
        induction n17 with
        | zero => intro i h; exact absurd h (Nat.not_lt_zero _)
        | succ n17 ih17 =>
          intro i hn17 hi hi2
          refine k_iload_n hC 17 dX0_takeOut_17 rfl ?_
          refine k_aload_n hC 18 dX0_takeOut_18 rfl ?_
          refine k_getf hC 19 0 1 dX0_takeOut_19 rfl rfl inlX0 (by decide) wq_2_15 rfl ?_
          refine n_icmp_ge hC 22 54 dX0_takeOut_22 (by decide) (by omega) (by omega) (fun h22 => ?_) (fun h22 => ?_)
          · skip
            refine k_aload_n hC 54 dX0_takeOut_54 rfl ?_
            refine k_dup hC 55 dX0_takeOut_55 rfl ?_
            refine k_getf hC 56 0 1 dX0_takeOut_56 rfl rfl inlX0 (by decide) wq_2_15 rfl ?_
            refine k_iconst hC 59 dX0_takeOut_59 (nI 1) (by decide) ?_
            refine n_isub hC 60 (L.length - 1) dX0_takeOut_60 (by omega) rfl ?_
            refine KJ.topi (y := nI (L.eraseIdx p).length) (by rw [List.length_eraseIdx_of_lt hp]) ?_
            refine k_putf hC 61 (ty0 := tyX0) 0 1 [(r, .inr (0, [.ref q, .int (nI ((L.eraseIdx p).length))])), (q, .inl (D.1 20, 40, .inl (shf f p i)))] dX0_takeOut_61 rfl rfl inlX0 tyX0_ok nmX0 (by decide) wq_2_15 rfl rfl rfl (Nat.le_of_ble_eq_true rfl) rfl ?_
            exact k_vret hC hE 64 (shf f p i) dX0_takeOut_64 (⟨rfl, by rw [show i = L.length by omega]; exact hR.cut hp⟩) rfl ⟨Nat.zero_le _, Nat.zero_le _⟩
          · skip
            refine k_iload_n hC 25 dX0_takeOut_25 rfl ?_
            refine k_aload_n hC 26 dX0_takeOut_26 rfl ?_
            refine k_getf hC 27 0 0 dX0_takeOut_27 rfl rfl inlX0 (by decide) wq_2_14 rfl ?_
            refine k_alen hC 30 1 0 (nI 40) dX0_takeOut_30 rfl rfl rfl ?_
            refine n_icmp_ge hC 31 54 dX0_takeOut_31 (by decide) (by omega) (by omega) (fun h31 => ?_) (fun h31 => ?_)
            · skip
              exact absurd h31 (by omega)
            · skip
              refine k_aload_n hC 34 dX0_takeOut_34 rfl ?_
              refine k_getf hC 35 0 0 dX0_takeOut_35 rfl rfl inlX0 (by decide) wq_2_14 rfl ?_
              refine k_iload_n hC 38 dX0_takeOut_38 rfl ?_
              refine k_iconst hC 39 dX0_takeOut_39 (nI 1) (by decide) ?_
              refine n_isub hC 40 (i - 1) dX0_takeOut_40 (by omega) rfl ?_
              refine k_aload_n hC 41 dX0_takeOut_41 rfl ?_
              refine k_getf hC 42 0 0 dX0_takeOut_42 rfl rfl inlX0 (by decide) wq_2_14 rfl ?_
              refine k_iload_n hC 45 dX0_takeOut_45 rfl ?_
              refine n_iald hC 46 1 (f i) dX0_takeOut_46 rfl (by omega) (by decide) (shf_at f p i) ?_
              refine n_iast hC 47 1 [(r, .inr (0, [.ref q, .int (nI L.length)])), (q, .inl (D.1 20, 40, .inl (upd (shf f p i) (i - 1) (f i))))] dX0_takeOut_47 rfl (by omega) (by decide) rfl ?_
              rw [shf_step hi]
              refine k_iinc hC 48 0 (nI (i + 1)) [(2, .int (nI (i + 1))), (0, .ref r), (1, .int (nI p))] dX0_takeOut_48 rfl (nI_1 _) (by decide) rfl ?_
              refine k_goto hC 51 17 dX0_takeOut_51 (by decide) ?_
              exact ih17 (i + 1) (by omega) (by omega) (by omega)
      exact loop17 (L.length + 1) (p + 1) (by omega) (by omega) (by omega)
    · skip
      exact absurd h9 (by omega)
set_option maxHeartbeats 4000000 in
set_option maxRecDepth 100000 in
/-- Row.takeOut, no place -/
theorem c_X0_takeOut_no (l : Launch) (D : va_G) (r q : Nat) (L : List Nat) (f : Nat → Int32) (hR : RowL L f) (hL : L.length ≤ 40) : MU l yX0_takeOut cX0_takeOut 3 none 0 0 D [.ref r, .int (-1)] [(r, .inr (0, [.ref q, .int (nI L.length)])), (q, .inl (D.1 20, 40, .inl f))] (fun v (u : Nat → Int32) => v = none ∧ RowL L u) (fun u => [(r, .inr (0, [.ref q, .int (nI L.length)])), (q, .inl (D.1 20, 40, .inl u))]) 0 0 := by
  refine MU.enter (by decide) [(0, .ref r), (1, .int (-1))] rfl (Nat.le_of_ble_eq_true rfl) (fun G hC hE => ?_)
  have hC : CX G D cX0_takeOut RX0 3 := hC
  refine k_iload_n hC 0 dX0_takeOut_0 rfl ?_
  refine k_if_lt hC 1 12 dX0_takeOut_1 (by decide) (fun h1 => ?_) (fun h1 => ?_)
  · skip
    exact k_vret hC hE 12 f dX0_takeOut_12 (⟨rfl, hR⟩) rfl ⟨Nat.zero_le _, Nat.zero_le _⟩
  · skip
    exact absurd (by decide) h1
set_option maxHeartbeats 4000000 in
set_option maxRecDepth 100000 in
/-- Row.forgetEldest -/
theorem c_X0_forgetEldest (l : Launch) (D : va_G) (r q : Nat) (L : List Nat) (f : Nat → Int32) (m : Nat) (hR : RowL L f) (hL : L.length ≤ 40) (hK : KL L) (hm40 : m ≤ 40) : MU l yX0_forgetEldest cX0_forgetEldest 3 none 1 22 D [.ref r, .int (nI m)] [(r, .inr (0, [.ref q, .int (nI L.length)])), (q, .inl (D.1 20, 40, .inl f))] (fun v (u : Nat → Int32) => v = none ∧ RowL (L.drop (L.length - m)) u) (fun u => [(r, .inr (0, [.ref q, .int (nI ((L.drop (L.length - m)).length))])), (q, .inl (D.1 20, 40, .inl u))]) 0 0 := by
  refine MU.enter (by decide) [(0, .ref r), (1, .int (nI m))] rfl (Nat.le_of_ble_eq_true rfl) (fun G hC hE => ?_)
  have hC : CX G D cX0_forgetEldest RX0 3 := hC
  refine k_aload_n hC 0 dX0_forgetEldest_0 rfl ?_
  refine k_getf hC 1 0 1 dX0_forgetEldest_1 rfl rfl inlX0 (by decide) wq_2_15 rfl ?_
  refine k_iload_n hC 4 dX0_forgetEldest_4 rfl ?_
  by_cases hm : m ≤ L.length
  · skip
    refine n_isub hC 5 (L.length - m) dX0_forgetEldest_5 (by omega) rfl ?_
    refine k_istore_n hC 6 2 [(2, .int (nI (L.length - m))), (0, .ref r), (1, .int (nI m))] dX0_forgetEldest_6 rfl (by decide) rfl ?_
    refine KJ.eqw (ws' := [(r, .inr (0, [.ref q, .int (nI ((L.drop 0).length))])), (q, .inl (D.1 20, 40, .inl f))]) (by rw [List.drop_zero]) ?_
    have loop7 : ∀ (n7 : Nat) (j : Nat) (g : Nat → Int32), L.length - m - j < n7 → j ≤ L.length - m → RowL (L.drop j) g → KJ l G D ({ frames := 1, cells := 0, slots := 0, locals := 22 } : Room) 3 0 0 [(r, .inr (0, [.ref q, .int (nI ((L.drop j).length))])), (q, .inl (D.1 20, 40, .inl g))] [(2, .int (nI (L.length - m - j))), (0, .ref r), (1, .int (nI m))] 7 [] := by
      intro n7
      induction n7 with
      | zero => intro j g h; exact absurd h (Nat.not_lt_zero _)
      | succ n7 ih7 =>
        intro j g hn7 hj hg
        refine k_iload_n hC 7 dX0_forgetEldest_7 rfl ?_
        refine n_if_le hC 8 22 dX0_forgetEldest_8 (by decide) (by omega) (fun h8 => ?_) (fun h8 => ?_)
        · skip
          exact k_vret hC hE 22 g dX0_forgetEldest_22 (⟨rfl, by rw [show L.length - m = j by omega]; exact hg⟩) (by rw [show L.length - m = j by omega]) ⟨Nat.zero_le _, Nat.zero_le _⟩
        · skip
          refine k_aload_n hC 11 dX0_forgetEldest_11 rfl ?_
          refine k_iconst hC 12 dX0_forgetEldest_12 (nI 0) (by decide) ?_
          refine k_callV hC 13 0 [0, 1] (fun g2 => [(r, .inr (0, [.ref q, .int (nI (((L.drop j).eraseIdx 0).length))])), (q, .inl (D.1 20, 40, .inl g2))]) (c_X0_takeOut l D r q (L.drop j) g 0 hg (by rw [List.length_drop]; omega) (by rw [List.length_drop]; omega)) cw_RX0_23 dX0_forgetEldest_13 ⟨Nat.le_of_ble_eq_true rfl, Nat.le_of_ble_eq_true rfl, Nat.le_of_ble_eq_true rfl, Nat.le_of_ble_eq_true rfl⟩ rfl (Nat.le_of_ble_eq_true rfl) rfl rfl rfl (by decide) rfl (fun _ => Nat.le_of_ble_eq_true rfl) (fun _ => rfl) _ rfl (fun v g2 hp => ?_)
          obtain ⟨rfl, hg2⟩ := hp
          refine KJ.eqs (st' := []) rfl ?_
          rw [drop_e0] at hg2 ⊢
          refine k_iinc hC 16 0 (nI (L.length - m - (j + 1))) [(2, .int (nI (L.length - m - (j + 1)))), (0, .ref r), (1, .int (nI m))] dX0_forgetEldest_16 rfl (by rw [show L.length - m - j = (L.length - m - (j + 1)) + 1 by omega]; exact pk_m1 _) (by decide) rfl ?_
          refine k_goto hC 19 7 dX0_forgetEldest_19 (by decide) ?_
          exact ih7 (j + 1) g2 (by omega) (by omega) hg2
    exact loop7 (L.length + 1) 0 f (by omega) (by omega) hR
  · skip
    refine k_isub hC 5 dX0_forgetEldest_5 (KJ.topi (y := (nI L.length - nI m)) rfl ?_)
    refine k_istore_n hC 6 2 [(2, .int (nI L.length - nI m)), (0, .ref r), (1, .int (nI m))] dX0_forgetEldest_6 rfl (by decide) rfl ?_
    refine k_iload_n hC 7 dX0_forgetEldest_7 rfl ?_
    refine k_if_le hC 8 22 dX0_forgetEldest_8 (by decide) (fun h8 => ?_) (fun h8 => ?_)
    · skip
      exact k_vret hC hE 22 f dX0_forgetEldest_22 (⟨rfl, by rw [show L.length - m = 0 by omega]; exact hR⟩) (by rw [show L.length - m = 0 by omega]; rfl) ⟨Nat.zero_le _, Nat.zero_le _⟩
    · skip
      exact absurd (Int32.le_of_lt (pk_sneg (by omega) (by omega))) h8
set_option maxHeartbeats 4000000 in
set_option maxRecDepth 100000 in
/-- Row.become -/
theorem c_X0_become (l : Launch) (D : va_G) (r q r2 q2 : Nat) (L L2 : List Nat) (f f2 : Nat → Int32) (hR : RowL L2 f2) (hL : L2.length ≤ 40) : MU l yX0_become cX0_become 3 none 0 0 D [.ref r, .ref r2] [(r, .inr (0, [.ref q, .int (nI L.length)])), (q, .inl (D.1 20, 40, .inl f)), (r2, .inr (0, [.ref q2, .int (nI L2.length)])), (q2, .inl (D.1 20, 40, .inl f2))] (fun v (u : Nat → Int32) => v = none ∧ RowL L2 u) (fun u => [(r, .inr (0, [.ref q, .int (nI L2.length)])), (q, .inl (D.1 20, 40, .inl u)), (r2, .inr (0, [.ref q2, .int (nI L2.length)])), (q2, .inl (D.1 20, 40, .inl f2))]) 0 0 := by
  refine MU.enter (by decide) [(0, .ref r), (1, .ref r2)] rfl (Nat.le_of_ble_eq_true rfl) (fun G hC hE => ?_)
  have hC : CX G D cX0_become RX0 3 := hC
  refine k_iconst hC 0 dX0_become_0 (nI 0) (by decide) ?_
  refine k_istore_n hC 1 2 [(2, .int (nI 0)), (0, .ref r), (1, .ref r2)] dX0_become_1 rfl (by decide) rfl ?_
  refine KJ.eqw (ws' := [(r, .inr (0, [.ref q, .int (nI L.length)])), (q, .inl (D.1 20, 40, .inl (cpf f2 f 0))), (r2, .inr (0, [.ref q2, .int (nI L2.length)])), (q2, .inl (D.1 20, 40, .inl f2))]) (by rw [cpf_0]) ?_
  have loop2 : ∀ (n2 : Nat) (i : Nat), 40 - i < n2 → i ≤ 40 → KJ l G D ({ frames := 0, cells := 0, slots := 0, locals := 0 } : Room) 3 0 0 [(r, .inr (0, [.ref q, .int (nI L.length)])), (q, .inl (D.1 20, 40, .inl (cpf f2 f i))), (r2, .inr (0, [.ref q2, .int (nI L2.length)])), (q2, .inl (D.1 20, 40, .inl f2))] [(2, .int (nI i)), (0, .ref r), (1, .ref r2)] 2 [] := by
    intro n2
    induction n2 with
    | zero => intro i h; exact absurd h (Nat.not_lt_zero _)
    | succ n2 ih2 =>
      intro i hn2 hi
      refine k_iload_n hC 2 dX0_become_2 rfl ?_
      refine k_aload_n hC 3 dX0_become_3 rfl ?_
      refine k_getf hC 4 0 0 dX0_become_4 rfl rfl inlX0 (by decide) wq_2_14 rfl ?_
      refine k_alen hC 7 1 0 (nI 40) dX0_become_7 rfl rfl rfl ?_
      refine n_icmp_ge hC 8 38 dX0_become_8 (by decide) (by omega) (by omega) (fun h8 => ?_) (fun h8 => ?_)
      · skip
        refine k_aload_n hC 38 dX0_become_38 rfl ?_
        refine k_aload_n hC 39 dX0_become_39 rfl ?_
        refine k_getf hC 40 2 1 dX0_become_40 rfl rfl inlX0 (by decide) wq_2_15 rfl ?_
        refine k_putf hC 43 (ty0 := tyX0) 0 1 [(r, .inr (0, [.ref q, .int (nI L2.length)])), (q, .inl (D.1 20, 40, .inl (cpf f2 f i))), (r2, .inr (0, [.ref q2, .int (nI L2.length)])), (q2, .inl (D.1 20, 40, .inl f2))] dX0_become_43 rfl rfl inlX0 tyX0_ok nmX0 (by decide) wq_2_15 rfl rfl rfl (Nat.le_of_ble_eq_true rfl) rfl ?_
        exact k_vret hC hE 46 (cpf f2 f i) dX0_become_46 (⟨rfl, hR.of (fun j hj => cpf_in (by omega))⟩) rfl ⟨Nat.zero_le _, Nat.zero_le _⟩
      · skip
        refine k_iload_n hC 11 dX0_become_11 rfl ?_
        refine k_aload_n hC 12 dX0_become_12 rfl ?_
        refine k_getf hC 13 2 0 dX0_become_13 rfl rfl inlX0 (by decide) wq_2_14 rfl ?_
        refine k_alen hC 16 3 0 (nI 40) dX0_become_16 rfl rfl rfl ?_
        refine n_icmp_ge hC 17 38 dX0_become_17 (by decide) (by omega) (by omega) (fun h17 => ?_) (fun h17 => ?_)
        · skip
          exact absurd h8 (by omega)
        · skip
          refine k_aload_n hC 20 dX0_become_20 rfl ?_
          refine k_getf hC 21 0 0 dX0_become_21 rfl rfl inlX0 (by decide) wq_2_14 rfl ?_
          refine k_iload_n hC 24 dX0_become_24 rfl ?_
          refine k_aload_n hC 25 dX0_become_25 rfl ?_
          refine k_getf hC 26 2 0 dX0_become_26 rfl rfl inlX0 (by decide) wq_2_14 rfl ?_
          refine k_iload_n hC 29 dX0_become_29 rfl ?_
          refine n_iald hC 30 3 (f2 i) dX0_become_30 rfl (by omega) (by decide) rfl ?_
          refine n_iast hC 31 1 [(r, .inr (0, [.ref q, .int (nI L.length)])), (q, .inl (D.1 20, 40, .inl (upd (cpf f2 f i) i (f2 i)))), (r2, .inr (0, [.ref q2, .int (nI L2.length)])), (q2, .inl (D.1 20, 40, .inl f2))] dX0_become_31 rfl (by omega) (by decide) rfl ?_
          rw [cpf_step]
          refine k_iinc hC 32 0 (nI (i + 1)) [(2, .int (nI (i + 1))), (0, .ref r), (1, .ref r2)] dX0_become_32 rfl (nI_1 _) (by decide) rfl ?_
          refine k_goto hC 35 2 dX0_become_35 (by decide) ?_
          exact ih2 (i + 1) (by omega) (by omega)
  exact loop2 41 0 (by omega) (by omega)
/-! PinnedPantry$Table: a number a kind -/
set_option maxHeartbeats 4000000 in
set_option maxRecDepth 100000 in
/-- Table() -/
theorem c_X2_init (l : Launch) (D : va_G) (r : Nat)  : MU l yX2_init cX2_init 1 none 1 12 D [.ref r] [(r, .inr (2, [.null]))] (fun v (_ : Nat) => v = none) (fun q => [(r, .inr (2, [.ref q])), (q, .inl (D.1 20, 40, .inl (fun _ => 0)))]) 1 40 := by
  refine MU.enter (by decide) [(0, .ref r)] rfl (Nat.le_of_ble_eq_true rfl) (fun G hC hE => ?_)
  have hC : CX G D cX2_init RX2 1 := hC
  refine k_aload_n hC 0 dX2_init_0 rfl ?_
  refine k_objInit hC 1 dX2_init_1 wq_2_19 wq_1_8 wq_1_9 ⟨Nat.le_of_ble_eq_true rfl, Nat.le_of_ble_eq_true rfl⟩ ?_
  refine k_aload_n hC 4 dX2_init_4 rfl ?_
  refine k_bipush hC 5 dX2_init_5 (nI 40) (by decide) ?_
  refine k_newarrI hC 7 40 dX2_init_7 (by decide) (by decide) ⟨Nat.le_of_ble_eq_true rfl, Nat.le_of_ble_eq_true rfl⟩ (fun q => ?_)
  refine KJ.eqw (ws' := [(r, .inr (2, [.null])), (q, .inl (D.1 20, 40, .inl (fun _ => 0)))]) rfl ?_
  refine k_putfF hC 9 (ty0 := tyX2) 0 0 [(r, .inr (2, [.ref q])), (q, .inl (D.1 20, 40, .inl (fun _ => 0)))] dX2_init_9 rfl rfl inlX2 tyX2_ok nmX2 (by decide) wq_2_20 rfl hE.2.2.2.2 rfl rfl rfl (Nat.le_of_ble_eq_true rfl) rfl ?_
  exact k_vret hC hE 12 q dX2_init_12 rfl rfl ⟨Nat.le_of_ble_eq_true rfl, Nat.le_of_ble_eq_true rfl⟩
set_option maxHeartbeats 4000000 in
set_option maxRecDepth 100000 in
/-- Table.become -/
theorem c_X2_become (l : Launch) (D : va_G) (r q r2 q2 : Nat) (f f2 : Nat → Int32)  : MU l yX2_become cX2_become 3 none 0 0 D [.ref r, .ref r2] [(r, .inr (2, [.ref q])), (q, .inl (D.1 20, 40, .inl f)), (r2, .inr (2, [.ref q2])), (q2, .inl (D.1 20, 40, .inl f2))] (fun v (u : Nat → Int32) => v = none ∧ ∀ k : Nat, k < 40 → u k = f2 k) (fun u => [(r, .inr (2, [.ref q])), (q, .inl (D.1 20, 40, .inl u)), (r2, .inr (2, [.ref q2])), (q2, .inl (D.1 20, 40, .inl f2))]) 0 0 := by
  refine MU.enter (by decide) [(0, .ref r), (1, .ref r2)] rfl (Nat.le_of_ble_eq_true rfl) (fun G hC hE => ?_)
  have hC : CX G D cX2_become RX2 3 := hC
  refine k_iconst hC 0 dX2_become_0 (nI 0) (by decide) ?_
  refine k_istore_n hC 1 2 [(2, .int (nI 0)), (0, .ref r), (1, .ref r2)] dX2_become_1 rfl (by decide) rfl ?_
  refine KJ.eqw (ws' := [(r, .inr (2, [.ref q])), (q, .inl (D.1 20, 40, .inl (cpf f2 f 0))), (r2, .inr (2, [.ref q2])), (q2, .inl (D.1 20, 40, .inl f2))]) (by rw [cpf_0]) ?_
  have loop2 : ∀ (n2 : Nat) (i : Nat), 40 - i < n2 → i ≤ 40 → KJ l G D ({ frames := 0, cells := 0, slots := 0, locals := 0 } : Room) 3 0 0 [(r, .inr (2, [.ref q])), (q, .inl (D.1 20, 40, .inl (cpf f2 f i))), (r2, .inr (2, [.ref q2])), (q2, .inl (D.1 20, 40, .inl f2))] [(2, .int (nI i)), (0, .ref r), (1, .ref r2)] 2 [] := by
    intro n2
    induction n2 with
    | zero => intro i h; exact absurd h (Nat.not_lt_zero _)
    | succ n2 ih2 =>
      intro i hn2 hi
      refine k_iload_n hC 2 dX2_become_2 rfl ?_
      refine k_aload_n hC 3 dX2_become_3 rfl ?_
      refine k_getf hC 4 0 0 dX2_become_4 rfl rfl inlX2 (by decide) wq_2_20 rfl ?_
      refine k_alen hC 7 1 0 (nI 40) dX2_become_7 rfl rfl rfl ?_
      refine n_icmp_ge hC 8 38 dX2_become_8 (by decide) (by omega) (by omega) (fun h8 => ?_) (fun h8 => ?_)
      · skip
        exact k_vret hC hE 38 (cpf f2 f i) dX2_become_38 (⟨rfl, fun k hk => cpf_in (by omega)⟩) rfl ⟨Nat.zero_le _, Nat.zero_le _⟩
      · skip
        refine k_iload_n hC 11 dX2_become_11 rfl ?_
        refine k_aload_n hC 12 dX2_become_12 rfl ?_
        refine k_getf hC 13 2 0 dX2_become_13 rfl rfl inlX2 (by decide) wq_2_20 rfl ?_
        refine k_alen hC 16 3 0 (nI 40) dX2_become_16 rfl rfl rfl ?_
        refine n_icmp_ge hC 17 38 dX2_become_17 (by decide) (by omega) (by omega) (fun h17 => ?_) (fun h17 => ?_)
        · skip
          exact absurd h8 (by omega)
        · skip
          refine k_aload_n hC 20 dX2_become_20 rfl ?_
          refine k_getf hC 21 0 0 dX2_become_21 rfl rfl inlX2 (by decide) wq_2_20 rfl ?_
          refine k_iload_n hC 24 dX2_become_24 rfl ?_
          refine k_aload_n hC 25 dX2_become_25 rfl ?_
          refine k_getf hC 26 2 0 dX2_become_26 rfl rfl inlX2 (by decide) wq_2_20 rfl ?_
          refine k_iload_n hC 29 dX2_become_29 rfl ?_
          refine n_iald hC 30 3 (f2 i) dX2_become_30 rfl (by omega) (by decide) rfl ?_
          refine n_iast hC 31 1 [(r, .inr (2, [.ref q])), (q, .inl (D.1 20, 40, .inl (upd (cpf f2 f i) i (f2 i)))), (r2, .inr (2, [.ref q2])), (q2, .inl (D.1 20, 40, .inl f2))] dX2_become_31 rfl (by omega) (by decide) rfl ?_
          rw [cpf_step]
          refine k_iinc hC 32 0 (nI (i + 1)) [(2, .int (nI (i + 1))), (0, .ref r), (1, .ref r2)] dX2_become_32 rfl (nI_1 _) (by decide) rfl ?_
          refine k_goto hC 35 2 dX2_become_35 (by decide) ?_
          exact ih2 (i + 1) (by omega) (by omega)
  exact loop2 41 0 (by omega) (by omega)
set_option maxHeartbeats 4000000 in
set_option maxRecDepth 100000 in
/-- Table.of -/
theorem c_X2_of (l : Launch) (D : va_G) (r q : Nat) (f : Nat → Int32) (k : Nat) (hk : k < 40) : MU l yX2_of cX2_of 2 (some .int) 0 0 D [.ref r, .int (nI k)] [(r, .inr (2, [.ref q])), (q, .inl (D.1 20, 40, .inl f))] (fun v (_ : Unit) => v = some (.int (f k))) (fun _ => [(r, .inr (2, [.ref q])), (q, .inl (D.1 20, 40, .inl f))]) 0 0 := by
  refine MU.enter (by decide) [(0, .ref r), (1, .int (nI k))] rfl (Nat.le_of_ble_eq_true rfl) (fun G hC hE => ?_)
  have hC : CX G D cX2_of RX2 2 := hC
  refine k_iload_n hC 0 dX2_of_0 rfl ?_
  refine n_if_lt hC 1 22 dX2_of_1 (by decide) (by omega) (fun h1 => ?_) (fun h1 => ?_)
  · skip
    exact h1.elim
  · skip
    refine k_iload_n hC 4 dX2_of_4 rfl ?_
    refine k_aload_n hC 5 dX2_of_5 rfl ?_
    refine k_getf hC 6 0 0 dX2_of_6 rfl rfl inlX2 (by decide) wq_2_20 rfl ?_
    refine k_alen hC 9 1 0 (nI 40) dX2_of_9 rfl rfl rfl ?_
    refine n_icmp_ge hC 10 22 dX2_of_10 (by decide) (by omega) (by omega) (fun h10 => ?_) (fun h10 => ?_)
    · skip
      exact absurd h10 (by omega)
    · skip
      refine k_aload_n hC 13 dX2_of_13 rfl ?_
      refine k_getf hC 14 0 0 dX2_of_14 rfl rfl inlX2 (by decide) wq_2_20 rfl ?_
      refine k_iload_n hC 17 dX2_of_17 rfl ?_
      refine n_iald hC 18 1 (f k) dX2_of_18 rfl (by omega) (by decide) rfl ?_
      refine k_goto hC 19 23 dX2_of_19 (by decide) ?_
      exact k_iret hC hE 23 () dX2_of_23 rfl rfl rfl ⟨Nat.zero_le _, Nat.zero_le _⟩
set_option maxHeartbeats 4000000 in
set_option maxRecDepth 100000 in
/-- Table.put -/
theorem c_X2_put (l : Launch) (D : va_G) (r q : Nat) (f : Nat → Int32) (k : Nat) (x : Int32) (hk : k < 40) : MU l yX2_put cX2_put 3 none 0 0 D [.ref r, .int (nI k), .int x] [(r, .inr (2, [.ref q])), (q, .inl (D.1 20, 40, .inl f))] (fun v (_ : Unit) => v = none) (fun _ => [(r, .inr (2, [.ref q])), (q, .inl (D.1 20, 40, .inl (upd f k x)))]) 0 0 := by
  refine MU.enter (by decide) [(0, .ref r), (1, .int (nI k)), (2, .int x)] rfl (Nat.le_of_ble_eq_true rfl) (fun G hC hE => ?_)
  have hC : CX G D cX2_put RX2 3 := hC
  refine k_iload_n hC 0 dX2_put_0 rfl ?_
  refine n_if_lt hC 1 20 dX2_put_1 (by decide) (by omega) (fun h1 => ?_) (fun h1 => ?_)
  · skip
    exact h1.elim
  · skip
    refine k_iload_n hC 4 dX2_put_4 rfl ?_
    refine k_aload_n hC 5 dX2_put_5 rfl ?_
    refine k_getf hC 6 0 0 dX2_put_6 rfl rfl inlX2 (by decide) wq_2_20 rfl ?_
    refine k_alen hC 9 1 0 (nI 40) dX2_put_9 rfl rfl rfl ?_
    refine n_icmp_ge hC 10 20 dX2_put_10 (by decide) (by omega) (by omega) (fun h10 => ?_) (fun h10 => ?_)
    · skip
      exact absurd h10 (by omega)
    · skip
      refine k_aload_n hC 13 dX2_put_13 rfl ?_
      refine k_getf hC 14 0 0 dX2_put_14 rfl rfl inlX2 (by decide) wq_2_20 rfl ?_
      refine k_iload_n hC 17 dX2_put_17 rfl ?_
      refine k_iload_n hC 18 dX2_put_18 rfl ?_
      refine n_iast hC 19 1 [(r, .inr (2, [.ref q])), (q, .inl (D.1 20, 40, .inl (upd f k x)))] dX2_put_19 rfl (by omega) (by decide) rfl ?_
      exact k_vret hC hE 20 () dX2_put_20 rfl rfl ⟨Nat.zero_le _, Nat.zero_le _⟩
