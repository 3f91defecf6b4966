/-! PinnedPantry: what is refused, and its calls. hX: no stack traces, the tables of throws, the statics of Throwable -/
set_option maxHeartbeats 4000000 in
set_option maxRecDepth 100000 in
/-- requireKind -/
theorem c_X3_requireKind (l : Launch) (hfl : l.stackTraces = false) (D : va_G) (p : Int32)  : MX l yX3_requireKind cX3_requireKind 1 none 6 82 D [.int p] [] (fun v (_ : Unit) => v = none ∧ Ck p) (fun _ => []) (fun E => E = eB ∧ ¬ Ck p) 1 6 := by
  refine MX.enter hfl (by decide) [(0, .int p)] rfl (Nat.le_of_ble_eq_true rfl) (fun G hC hE hX => ?_)
  have hC : CX G D cX3_requireKind RX3 1 := hC
  refine k_iload_n hC 0 dX3_requireKind_0 rfl ?_
  refine k_if_lt hC 1 10 dX3_requireKind_1 (by decide) (fun h1 => ?_) (fun h1 => ?_)
  · skip
    exact x_throw (tx := "a kind is 0 to 39") hC hE hX 10 (by decide +kernel) wq_3_23 wq_4_0 (by decide +kernel) go_B ng_B ot_B dX3_requireKind_10 dX3_requireKind_13 dX3_requireKind_14 dX3_requireKind_16 dX3_requireKind_19 ⟨by decide, Nat.le_of_ble_eq_true rfl, Nat.le_of_ble_eq_true rfl, Nat.le_of_ble_eq_true rfl⟩ (⟨rfl, fun z => z.1 h1⟩) rfl ⟨Nat.le_of_ble_eq_true rfl, Nat.le_of_ble_eq_true rfl⟩
  · skip
    refine k_iload_n hC 4 dX3_requireKind_4 rfl ?_
    refine k_bipush hC 5 dX3_requireKind_5 (nI 40) (by decide) ?_
    refine k_icmp_lt hC 7 20 dX3_requireKind_7 (by decide) (fun h7 => ?_) (fun h7 => ?_)
    · skip
      exact x_vret hC hE 20 () dX3_requireKind_20 (⟨rfl, h1, h7⟩) rfl ⟨Nat.zero_le _, Nat.zero_le _⟩
    · skip
      exact x_throw (tx := "a kind is 0 to 39") hC hE hX 10 (by decide +kernel) wq_3_23 wq_4_0 (by decide +kernel) go_B ng_B ot_B dX3_requireKind_10 dX3_requireKind_13 dX3_requireKind_14 dX3_requireKind_16 dX3_requireKind_19 ⟨by decide, Nat.le_of_ble_eq_true rfl, Nat.le_of_ble_eq_true rfl, Nat.le_of_ble_eq_true rfl⟩ (⟨rfl, fun z => h7 z.2⟩) rfl ⟨Nat.le_of_ble_eq_true rfl, Nat.le_of_ble_eq_true rfl⟩
set_option maxHeartbeats 4000000 in
set_option maxRecDepth 100000 in
/-- requireSeries -/
theorem c_X3_requireSeries (l : Launch) (hfl : l.stackTraces = false) (D : va_G) (p0 p1 p2 : Int32)  : MX l yX3_requireSeries cX3_requireSeries 3 none 7 102 D [.int p0, .int p1, .int p2] [] (fun v (_ : Unit) => v = none ∧ serK p0 p1 p2 = 0 ∧ Ck p0 ∧ Ck p1 ∧ Mk p2) (fun _ => []) (fun E => (serK p0 p1 p2 = 1 ∧ E = eB) ∨ (serK p0 p1 p2 = 2 ∧ E = eA)) 2 12 := by
  refine MX.enter hfl (by decide) [(0, .int p0), (1, .int p1), (2, .int p2)] rfl (Nat.le_of_ble_eq_true rfl) (fun G hC hE hX => ?_)
  have hC : CX G D cX3_requireSeries RX3 3 := hC
  refine k_iload_n hC 0 dX3_requireSeries_0 rfl ?_
  refine x_callS hC hX 1 [] (fun u => []) (c_X3_requireKind l hfl D p0) cw_RX3_19 dX3_requireSeries_1 ⟨Nat.le_of_ble_eq_true rfl, Nat.le_of_ble_eq_true rfl, Nat.le_of_ble_eq_true rfl, Nat.le_of_ble_eq_true rfl⟩ rfl (Nat.le_of_ble_eq_true rfl) (by decide) rfl (fun _ => Nat.le_of_ble_eq_true rfl) (fun _ => rfl) rfl _ rfl (fun v u hp => ?_) (fun E hx => x_out hE (Or.inl ⟨kK_1 hx.2, hx.1⟩) rfl 1 ⟨Nat.le_of_ble_eq_true rfl, Nat.le_of_ble_eq_true rfl⟩)
  obtain ⟨rfl, hk⟩ := hp
  refine KJ.eqs (st' := []) rfl ?_
  refine k_iload_n hC 4 dX3_requireSeries_4 rfl ?_
  refine k_if_lt hC 5 14 dX3_requireSeries_5 (by decide) (fun h5 => ?_) (fun h5 => ?_)
  · skip
    exact x_throw (tx := "the step is 0 to 39") hC hE hX 14 (by decide +kernel) wq_12_19 wq_12_20 (by decide +kernel) go_A ng_A ot_A dX3_requireSeries_14 dX3_requireSeries_17 dX3_requireSeries_18 dX3_requireSeries_20 dX3_requireSeries_23 ⟨by decide, Nat.le_of_ble_eq_true rfl, Nat.le_of_ble_eq_true rfl, Nat.le_of_ble_eq_true rfl⟩ (Or.inr ⟨kK_2 (not_not_intro hk) (fun z => z.1.1 h5), rfl⟩) rfl ⟨Nat.le_of_ble_eq_true rfl, Nat.le_of_ble_eq_true rfl⟩
  · skip
    refine k_iload_n hC 8 dX3_requireSeries_8 rfl ?_
    refine k_bipush hC 9 dX3_requireSeries_9 (nI 40) (by decide) ?_
    refine k_icmp_lt hC 11 24 dX3_requireSeries_11 (by decide) (fun h11 => ?_) (fun h11 => ?_)
    · skip
      refine k_iload_n hC 24 dX3_requireSeries_24 rfl ?_
      refine k_iconst hC 25 dX3_requireSeries_25 (nI 1) (by decide) ?_
      refine k_icmp_lt hC 26 35 dX3_requireSeries_26 (by decide) (fun h26 => ?_) (fun h26 => ?_)
      · skip
        exact x_throw (tx := "1 to 30 kinds are fetched") hC hE hX 35 (by decide +kernel) wq_12_19 wq_12_20 (by decide +kernel) go_A ng_A ot_A dX3_requireSeries_35 dX3_requireSeries_38 dX3_requireSeries_39 dX3_requireSeries_41 dX3_requireSeries_44 ⟨by decide, Nat.le_of_ble_eq_true rfl, Nat.le_of_ble_eq_true rfl, Nat.le_of_ble_eq_true rfl⟩ (Or.inr ⟨kK_2 (not_not_intro hk) (fun z => z.2.1 h26), rfl⟩) rfl ⟨Nat.le_of_ble_eq_true rfl, Nat.le_of_ble_eq_true rfl⟩
      · skip
        refine k_iload_n hC 29 dX3_requireSeries_29 rfl ?_
        refine k_bipush hC 30 dX3_requireSeries_30 (nI 30) (by decide) ?_
        refine k_icmp_le hC 32 45 dX3_requireSeries_32 (by decide) (fun h32 => ?_) (fun h32 => ?_)
        · skip
          exact x_vret hC hE 45 () dX3_requireSeries_45 (⟨rfl, kK_0 (not_not_intro hk) (not_not_intro ⟨⟨h5, h11⟩, h26, h32⟩), hk, ⟨h5, h11⟩, h26, h32⟩) rfl ⟨Nat.le_of_ble_eq_true rfl, Nat.le_of_ble_eq_true rfl⟩
        · skip
          exact x_throw (tx := "1 to 30 kinds are fetched") hC hE hX 35 (by decide +kernel) wq_12_19 wq_12_20 (by decide +kernel) go_A ng_A ot_A dX3_requireSeries_35 dX3_requireSeries_38 dX3_requireSeries_39 dX3_requireSeries_41 dX3_requireSeries_44 ⟨by decide, Nat.le_of_ble_eq_true rfl, Nat.le_of_ble_eq_true rfl, Nat.le_of_ble_eq_true rfl⟩ (Or.inr ⟨kK_2 (not_not_intro hk) (fun z => h32 z.2.2), rfl⟩) rfl ⟨Nat.le_of_ble_eq_true rfl, Nat.le_of_ble_eq_true rfl⟩
    · skip
      exact x_throw (tx := "the step is 0 to 39") hC hE hX 14 (by decide +kernel) wq_12_19 wq_12_20 (by decide +kernel) go_A ng_A ot_A dX3_requireSeries_14 dX3_requireSeries_17 dX3_requireSeries_18 dX3_requireSeries_20 dX3_requireSeries_23 ⟨by decide, Nat.le_of_ble_eq_true rfl, Nat.le_of_ble_eq_true rfl, Nat.le_of_ble_eq_true rfl⟩ (Or.inr ⟨kK_2 (not_not_intro hk) (fun z => h11 z.1.2), rfl⟩) rfl ⟨Nat.le_of_ble_eq_true rfl, Nat.le_of_ble_eq_true rfl⟩
set_option maxHeartbeats 4000000 in
set_option maxRecDepth 100000 in
/-- requireShelf -/
theorem c_X3_requireShelf (l : Launch) (hfl : l.stackTraces = false) (D : va_G) (p : Int32)  : MX l yX3_requireShelf cX3_requireShelf 1 none 6 82 D [.int p] [] (fun v (_ : Unit) => v = none ∧ Sk p) (fun _ => []) (fun E => E = eB ∧ ¬ Sk p) 1 6 := by
  refine MX.enter hfl (by decide) [(0, .int p)] rfl (Nat.le_of_ble_eq_true rfl) (fun G hC hE hX => ?_)
  have hC : CX G D cX3_requireShelf RX3 1 := hC
  refine k_iload_n hC 0 dX3_requireShelf_0 rfl ?_
  refine k_if_eq hC 1 19 dX3_requireShelf_1 (by decide) (fun h1 => ?_) (fun h1 => ?_)
  · skip
    exact x_vret hC hE 19 () dX3_requireShelf_19 (by first | exact ⟨rfl, Or.inl h1⟩ | exact ⟨rfl, Or.inr h6⟩) rfl ⟨Nat.zero_le _, Nat.zero_le _⟩
  · skip
    refine k_iload_n hC 4 dX3_requireShelf_4 rfl ?_
    refine k_iconst hC 5 dX3_requireShelf_5 (nI 1) (by decide) ?_
    refine k_icmp_eq hC 6 19 dX3_requireShelf_6 (by decide) (fun h6 => ?_) (fun h6 => ?_)
    · skip
      exact x_vret hC hE 19 () dX3_requireShelf_19 (by first | exact ⟨rfl, Or.inl h1⟩ | exact ⟨rfl, Or.inr h6⟩) rfl ⟨Nat.zero_le _, Nat.zero_le _⟩
    · skip
      exact x_throw (tx := "a shelf is 0 or 1") hC hE hX 9 (by decide +kernel) wq_3_23 wq_4_0 (by decide +kernel) go_B ng_B ot_B dX3_requireShelf_9 dX3_requireShelf_12 dX3_requireShelf_13 dX3_requireShelf_15 dX3_requireShelf_18 ⟨by decide, Nat.le_of_ble_eq_true rfl, Nat.le_of_ble_eq_true rfl, Nat.le_of_ble_eq_true rfl⟩ (⟨rfl, fun z => z.elim h1 h6⟩) rfl ⟨Nat.le_of_ble_eq_true rfl, Nat.le_of_ble_eq_true rfl⟩
set_option maxHeartbeats 4000000 in
set_option maxRecDepth 100000 in
/-- requireAt -/
theorem c_X3_requireAt (l : Launch) (hfl : l.stackTraces = false) (D : va_G) (r q : Nat) (L : List Nat) (f : Nat → Int32) (x : Int32) (hR : RowL L f) (hL : L.length ≤ 40) (hK : KL L) : MX l yX3_requireAt cX3_requireAt 3 (some .int) 6 82 D [.ref r, .int x] [(r, .inr (0, [.ref q, .int (nI L.length)])), (q, .inl (D.1 5, 40, .inl f))] (fun v (_ : Unit) => ∃ i : Nat, i < L.length ∧ x = nI i ∧ v = some (.int (nI (L.getD i 0)))) (fun _ => [(r, .inr (0, [.ref q, .int (nI L.length)])), (q, .inl (D.1 5, 40, .inl f))]) (fun E => E = eB ∧ ∀ i : Nat, i < L.length → x ≠ nI i) 1 6 := by
  refine MX.enter hfl (by decide) [(0, .ref r), (1, .int x)] rfl (Nat.le_of_ble_eq_true rfl) (fun G hC hE hX => ?_)
  have hC : CX G D cX3_requireAt RX3 3 := hC
  refine k_aload_n hC 0 dX3_requireAt_0 rfl ?_
  refine k_iload_n hC 1 dX3_requireAt_1 rfl ?_
  refine k_callVr hC 2 0 [0, 1] (c_X0_at l D r q L f x hR hL hK) cw_RX3_160 dX3_requireAt_2 ⟨Nat.le_of_ble_eq_true rfl, Nat.le_of_ble_eq_true rfl, Nat.le_of_ble_eq_true rfl, Nat.le_of_ble_eq_true rfl⟩ rfl (Nat.le_of_ble_eq_true rfl) rfl rfl rfl (by decide) rfl (fun _ => Nat.le_of_ble_eq_true rfl) (fun _ => rfl) _ rfl (fun v u hp => ?_)
  rcases hp with ⟨i, hi, rfl, rfl⟩ | ⟨hno, rfl⟩
  · skip
    have hg := hK.g i
    refine KJ.eqs (st' := .int (nI (L.getD i 0)) :: []) rfl ?_
    refine k_istore_n hC 5 2 [(2, .int (nI (L.getD i 0))), (0, .ref r), (1, .int (nI i))] dX3_requireAt_5 rfl (by decide) rfl ?_
    refine k_iload_n hC 6 dX3_requireAt_6 rfl ?_
    refine k_iconst hC 7 dX3_requireAt_7 (-1) (by decide) ?_
    refine k_icmp_ne hC 8 21 dX3_requireAt_8 (by decide) (fun h8 => ?_) (fun h8 => ?_)
    · skip
      refine k_iload_n hC 21 dX3_requireAt_21 rfl ?_
      exact x_iret hC hE 22 () dX3_requireAt_22 rfl (⟨i, hi, rfl, rfl⟩) rfl ⟨Nat.zero_le _, Nat.zero_le _⟩
    · skip
      exact absurd h8 (nI_m1 (by omega))
  · skip
    refine KJ.eqs (st' := .int (-1) :: []) rfl ?_
    refine k_istore_n hC 5 2 [(2, .int (-1)), (0, .ref r), (1, .int x)] dX3_requireAt_5 rfl (by decide) rfl ?_
    refine k_iload_n hC 6 dX3_requireAt_6 rfl ?_
    refine k_iconst hC 7 dX3_requireAt_7 (-1) (by decide) ?_
    refine k_icmp_ne hC 8 21 dX3_requireAt_8 (by decide) (fun h8 => ?_) (fun h8 => ?_)
    · skip
      exact absurd rfl h8
    · skip
      exact x_throw (tx := "there is no such place") hC hE hX 11 (by decide +kernel) wq_3_23 wq_4_0 (by decide +kernel) go_B ng_B ot_B dX3_requireAt_11 dX3_requireAt_14 dX3_requireAt_15 dX3_requireAt_17 dX3_requireAt_20 ⟨by decide, Nat.le_of_ble_eq_true rfl, Nat.le_of_ble_eq_true rfl, Nat.le_of_ble_eq_true rfl⟩ (⟨rfl, hno⟩) rfl ⟨Nat.le_of_ble_eq_true rfl, Nat.le_of_ble_eq_true rfl⟩
