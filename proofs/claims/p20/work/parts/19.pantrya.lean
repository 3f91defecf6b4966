/-! PinnedPantry: what is refused, and its calls. hX: no stack traces, the tables of throws, the statics of Throwable -/
set_option maxHeartbeats 400000 in
set_option maxRecDepth 100000 in
/-- requireKind -/
theorem c_X3_requireKind (l : Launch) (hfl : l.stackTraces = false) (D : va_G) (p : Int32)  : MX l yX3_requireKind cX3_requireKind 1 none 6 82 D [.int p] [] (fun v (_ : Unit) => v = none ∧ Ck p) (fun _ => []) (fun E => E = eB ∧ ¬ Ck p) 1 6 := by
  refine MX.enter hfl (by decide) [(0, .int p)] rfl (Nat.le_of_ble_eq_true rfl) (fun G hC hE hX => ?_)
  have hC : CX G D cX3_requireKind RX3 1 := hC
  refine k_iload_n hC 0 dX3_requireKind_0 rfl ?_
  refine k_if_lt hC 1 10 dX3_requireKind_1 (by decide) (fun h1 => ?_) (fun h1 => ?_)
  · skip
    exact x_throw (tx := "a kind is 0 to 39") hC hE hX 10 (by decide +kernel) wq_4_19 wq_4_20 (by decide +kernel) go_B ng_B ot_B dX3_requireKind_10 dX3_requireKind_13 dX3_requireKind_14 dX3_requireKind_16 dX3_requireKind_19 ⟨by decide, Nat.le_of_ble_eq_true rfl, Nat.le_of_ble_eq_true rfl, Nat.le_of_ble_eq_true rfl⟩ (⟨rfl, fun z => z.1 h1⟩) rfl ⟨Nat.le_of_ble_eq_true rfl, Nat.le_of_ble_eq_true rfl⟩
  · skip
    refine k_iload_n hC 4 dX3_requireKind_4 rfl ?_
    refine k_bipush hC 5 dX3_requireKind_5 (nI 40) (by decide) ?_
    refine k_icmp_lt hC 7 20 dX3_requireKind_7 (by decide) (fun h7 => ?_) (fun h7 => ?_)
    · skip
      exact x_vret hC hE 20 () dX3_requireKind_20 (⟨rfl, h1, h7⟩) rfl ⟨Nat.zero_le _, Nat.zero_le _⟩
    · skip
      exact x_throw (tx := "a kind is 0 to 39") hC hE hX 10 (by decide +kernel) wq_4_19 wq_4_20 (by decide +kernel) go_B ng_B ot_B dX3_requireKind_10 dX3_requireKind_13 dX3_requireKind_14 dX3_requireKind_16 dX3_requireKind_19 ⟨by decide, Nat.le_of_ble_eq_true rfl, Nat.le_of_ble_eq_true rfl, Nat.le_of_ble_eq_true rfl⟩ (⟨rfl, fun z => h7 z.2⟩) rfl ⟨Nat.le_of_ble_eq_true rfl, Nat.le_of_ble_eq_true rfl⟩
set_option maxHeartbeats 400000 in
set_option maxRecDepth 100000 in
/-- requireSeries -/
theorem c_X3_requireSeries (l : Launch) (hfl : l.stackTraces = false) (D : va_G) (p0 p1 p2 : Int32)  : MX l yX3_requireSeries cX3_requireSeries 3 none 7 102 D [.int p0, .int p1, .int p2] [] (fun v (_ : Unit) => v = none ∧ serK p0 p1 p2 = 0 ∧ Ck p0 ∧ Ck p1 ∧ Mk p2) (fun _ => []) (fun E => (serK p0 p1 p2 = 1 ∧ E = eB) ∨ (serK p0 p1 p2 = 2 ∧ E = eA)) 2 12 := by
  refine MX.enter hfl (by decide) [(0, .int p0), (1, .int p1), (2, .int p2)] rfl (Nat.le_of_ble_eq_true rfl) (fun G hC hE hX => ?_)
  have hC : CX G D cX3_requireSeries RX3 3 := hC
  refine k_iload_n hC 0 dX3_requireSeries_0 rfl ?_
  refine g_callS hC hX 1 ([]) ([]) (fun u => []) (c_X3_requireKind l hfl D p0) cw_RX3_19 dX3_requireSeries_1 ⟨Nat.le_of_ble_eq_true rfl, Nat.le_of_ble_eq_true rfl, Nat.le_of_ble_eq_true rfl, Nat.le_of_ble_eq_true rfl⟩ rfl (Nat.le_of_ble_eq_true rfl) (List.append_nil _).symm (fun _ => rfl) (fun _ => List.append_nil _) _ rfl (fun v u hp => ?_) (fun E hx => x_out hE (Or.inl ⟨kK_1 hx.2, hx.1⟩) rfl 1 ⟨Nat.le_of_ble_eq_true rfl, Nat.le_of_ble_eq_true rfl⟩)
  obtain ⟨rfl, hk⟩ := hp
  refine KJ.eqs (st' := []) rfl ?_
  refine k_iload_n hC 4 dX3_requireSeries_4 rfl ?_
  refine k_if_lt hC 5 14 dX3_requireSeries_5 (by decide) (fun h5 => ?_) (fun h5 => ?_)
  · skip
    exact x_throw (tx := "the step is 0 to 39") hC hE hX 14 (by decide +kernel) wq_8_9 wq_8_10 (by decide +kernel) go_A ng_A ot_A dX3_requireSeries_14 dX3_requireSeries_17 dX3_requireSeries_18 dX3_requireSeries_20 dX3_requireSeries_23 ⟨by decide, Nat.le_of_ble_eq_true rfl, Nat.le_of_ble_eq_true rfl, Nat.le_of_ble_eq_true rfl⟩ (Or.inr ⟨kK_2 (not_not_intro hk) (fun z => z.1.1 h5), rfl⟩) rfl ⟨Nat.le_of_ble_eq_true rfl, Nat.le_of_ble_eq_true rfl⟩
  · skip
    refine k_iload_n hC 8 dX3_requireSeries_8 rfl ?_
    refine k_bipush hC 9 dX3_requireSeries_9 (nI 40) (by decide) ?_
    refine k_icmp_lt hC 11 24 dX3_requireSeries_11 (by decide) (fun h11 => ?_) (fun h11 => ?_)
    · skip
      refine k_iload_n hC 24 dX3_requireSeries_24 rfl ?_
      refine k_iconst hC 25 dX3_requireSeries_25 (nI 1) (by decide) ?_
      refine k_icmp_lt hC 26 35 dX3_requireSeries_26 (by decide) (fun h26 => ?_) (fun h26 => ?_)
      · skip
        exact x_throw (tx := "1 to 30 kinds are fetched") hC hE hX 35 (by decide +kernel) wq_8_9 wq_8_10 (by decide +kernel) go_A ng_A ot_A dX3_requireSeries_35 dX3_requireSeries_38 dX3_requireSeries_39 dX3_requireSeries_41 dX3_requireSeries_44 ⟨by decide, Nat.le_of_ble_eq_true rfl, Nat.le_of_ble_eq_true rfl, Nat.le_of_ble_eq_true rfl⟩ (Or.inr ⟨kK_2 (not_not_intro hk) (fun z => z.2.1 h26), rfl⟩) rfl ⟨Nat.le_of_ble_eq_true rfl, Nat.le_of_ble_eq_true rfl⟩
      · skip
        refine k_iload_n hC 29 dX3_requireSeries_29 rfl ?_
        refine k_bipush hC 30 dX3_requireSeries_30 (nI 30) (by decide) ?_
        refine k_icmp_le hC 32 45 dX3_requireSeries_32 (by decide) (fun h32 => ?_) (fun h32 => ?_)
        · skip
          exact x_vret hC hE 45 () dX3_requireSeries_45 (⟨rfl, kK_0 (not_not_intro hk) (not_not_intro ⟨⟨h5, h11⟩, h26, h32⟩), hk, ⟨h5, h11⟩, h26, h32⟩) rfl ⟨Nat.le_of_ble_eq_true rfl, Nat.le_of_ble_eq_true rfl⟩
        · skip
          exact x_throw (tx := "1 to 30 kinds are fetched") hC hE hX 35 (by decide +kernel) wq_8_9 wq_8_10 (by decide +kernel) go_A ng_A ot_A dX3_requireSeries_35 dX3_requireSeries_38 dX3_requireSeries_39 dX3_requireSeries_41 dX3_requireSeries_44 ⟨by decide, Nat.le_of_ble_eq_true rfl, Nat.le_of_ble_eq_true rfl, Nat.le_of_ble_eq_true rfl⟩ (Or.inr ⟨kK_2 (not_not_intro hk) (fun z => h32 z.2.2), rfl⟩) rfl ⟨Nat.le_of_ble_eq_true rfl, Nat.le_of_ble_eq_true rfl⟩
    · skip
      exact x_throw (tx := "the step is 0 to 39") hC hE hX 14 (by decide +kernel) wq_8_9 wq_8_10 (by decide +kernel) go_A ng_A ot_A dX3_requireSeries_14 dX3_requireSeries_17 dX3_requireSeries_18 dX3_requireSeries_20 dX3_requireSeries_23 ⟨by decide, Nat.le_of_ble_eq_true rfl, Nat.le_of_ble_eq_true rfl, Nat.le_of_ble_eq_true rfl⟩ (Or.inr ⟨kK_2 (not_not_intro hk) (fun z => h11 z.1.2), rfl⟩) rfl ⟨Nat.le_of_ble_eq_true rfl, Nat.le_of_ble_eq_true rfl⟩
set_option maxHeartbeats 400000 in
set_option maxRecDepth 100000 in
/-- requireShelf -/
theorem c_X3_requireShelf (l : Launch) (hfl : l.stackTraces = false) (D : va_G) (p : Int32)  : MX l yX3_requireShelf cX3_requireShelf 1 none 6 82 D [.int p] [] (fun v (_ : Unit) => v = none ∧ Sk p) (fun _ => []) (fun E => E = eB ∧ ¬ Sk p) 1 6 := by
  refine MX.enter hfl (by decide) [(0, .int p)] rfl (Nat.le_of_ble_eq_true rfl) (fun G hC hE hX => ?_)
  have hC : CX G D cX3_requireShelf RX3 1 := hC
  refine k_iload_n hC 0 dX3_requireShelf_0 rfl ?_
  refine k_if_eq hC 1 19 dX3_requireShelf_1 (by decide) (fun h1 => ?_) (fun h1 => ?_)
  · skip
    exact x_vret hC hE 19 () dX3_requireShelf_19 (by first | exact ⟨rfl, Or.inl h1⟩ | exact ⟨rfl, Or.inr h6⟩) rfl ⟨Nat.zero_le _, Nat.zero_le _⟩
  · skip
    refine k_iload_n hC 4 dX3_requireShelf_4 rfl ?_
    refine k_iconst hC 5 dX3_requireShelf_5 (nI 1) (by decide) ?_
    refine k_icmp_eq hC 6 19 dX3_requireShelf_6 (by decide) (fun h6 => ?_) (fun h6 => ?_)
    · skip
      exact x_vret hC hE 19 () dX3_requireShelf_19 (by first | exact ⟨rfl, Or.inl h1⟩ | exact ⟨rfl, Or.inr h6⟩) rfl ⟨Nat.zero_le _, Nat.zero_le _⟩
    · skip
      exact x_throw (tx := "a shelf is 0 or 1") hC hE hX 9 (by decide +kernel) wq_4_19 wq_4_20 (by decide +kernel) go_B ng_B ot_B dX3_requireShelf_9 dX3_requireShelf_12 dX3_requireShelf_13 dX3_requireShelf_15 dX3_requireShelf_18 ⟨by decide, Nat.le_of_ble_eq_true rfl, Nat.le_of_ble_eq_true rfl, Nat.le_of_ble_eq_true rfl⟩ (⟨rfl, fun z => z.elim h1 h6⟩) rfl ⟨Nat.le_of_ble_eq_true rfl, Nat.le_of_ble_eq_true rfl⟩
set_option maxHeartbeats 400000 in
set_option maxRecDepth 100000 in
/-- requireAt -/
theorem c_X3_requireAt (l : Launch) (hfl : l.stackTraces = false) (D : va_G) (r q : Nat) (L : List Nat) (f : Nat → Int32) (x : Int32) (hR : RowL L f) (hL : L.length ≤ 40) (hK : KL L) : MX l yX3_requireAt cX3_requireAt 3 (some .int) 6 82 D [.ref r, .int x] [(r, .inr (0, [.ref q, .int (nI L.length)])), (q, .inl (D.1 20, 40, .inl f))] (fun v (_ : Unit) => ∃ i : Nat, i < L.length ∧ x = nI i ∧ v = some (.int (nI (L.getD i 0)))) (fun _ => [(r, .inr (0, [.ref q, .int (nI L.length)])), (q, .inl (D.1 20, 40, .inl f))]) (fun E => E = eB ∧ ∀ i : Nat, i < L.length → x ≠ nI i) 1 6 := by
  refine MX.enter hfl (by decide) [(0, .ref r), (1, .int x)] rfl (Nat.le_of_ble_eq_true rfl) (fun G hC hE hX => ?_)
  have hC : CX G D cX3_requireAt RX3 3 := hC
  refine k_aload_n hC 0 dX3_requireAt_0 rfl ?_
  refine k_iload_n hC 1 dX3_requireAt_1 rfl ?_
  refine k_callVr hC 2 0 [0, 1] (c_X0_at l D r q L f x hR hL hK) cw_RX3_160 dX3_requireAt_2 ⟨Nat.le_of_ble_eq_true rfl, Nat.le_of_ble_eq_true rfl, Nat.le_of_ble_eq_true rfl, Nat.le_of_ble_eq_true rfl⟩ rfl (Nat.le_of_ble_eq_true rfl) rfl rfl rfl (by decide) rfl (fun _ => Nat.le_of_ble_eq_true rfl) (fun _ => rfl) _ rfl (fun v u hp => ?_)
  rcases hp with ⟨i, hi, rfl, rfl⟩ | ⟨hno, rfl⟩
  · skip
    have hg := hK.g i
    refine KJ.eqs (st' := .int (nI (L.getD i 0)) :: []) rfl ?_
    refine k_istore_n hC 5 2 [(2, .int (nI (L.getD i 0))), (0, .ref r), (1, .int (nI i))] dX3_requireAt_5 rfl (by decide) rfl ?_
    refine k_iload_n hC 6 dX3_requireAt_6 rfl ?_
    refine k_iconst hC 7 dX3_requireAt_7 (-1) (by decide) ?_
    refine k_icmp_ne hC 8 21 dX3_requireAt_8 (by decide) (fun h8 => ?_) (fun h8 => ?_)
    · skip
      refine k_iload_n hC 21 dX3_requireAt_21 rfl ?_
      exact x_iret hC hE 22 () dX3_requireAt_22 rfl (⟨i, hi, rfl, rfl⟩) rfl ⟨Nat.zero_le _, Nat.zero_le _⟩
    · skip
      exact absurd h8 (nI_m1 (by omega))
  · skip
    refine KJ.eqs (st' := .int (-1) :: []) rfl ?_
    refine k_istore_n hC 5 2 [(2, .int (-1)), (0, .ref r), (1, .int x)] dX3_requireAt_5 rfl (by decide) rfl ?_
    refine k_iload_n hC 6 dX3_requireAt_6 rfl ?_
    refine k_iconst hC 7 dX3_requireAt_7 (-1) (by decide) ?_
    refine k_icmp_ne hC 8 21 dX3_requireAt_8 (by decide) (fun h8 => ?_) (fun h8 => ?_)
    · skip
      exact absurd rfl h8
    · skip
      exact x_throw (tx := "there is no such place") hC hE hX 11 (by decide +kernel) wq_4_19 wq_4_20 (by decide +kernel) go_B ng_B ot_B dX3_requireAt_11 dX3_requireAt_14 dX3_requireAt_15 dX3_requireAt_17 dX3_requireAt_20 ⟨by decide, Nat.le_of_ble_eq_true rfl, Nat.le_of_ble_eq_true rfl, Nat.le_of_ble_eq_true rfl⟩ (⟨rfl, hno⟩) rfl ⟨Nat.le_of_ble_eq_true rfl, Nat.le_of_ble_eq_true rfl⟩
set_option maxHeartbeats 400000 in
set_option maxRecDepth 100000 in
/-- requireJar -/
theorem c_X3_requireJar (l : Launch) (hfl : l.stackTraces = false) (D : va_G) (h : Nat) (a b : Nat → Nat) (s : PS) (g : PG) (k : Nat) (hS : SR s g) (hW : WF s) (hk : k < 40) : MX l yX3_requireJar cX3_requireJar 2 none 6 82 D [.ref h, .int (nI k)] ((h, .inr (3, [.ref (a 0), .ref (b 0)])) :: wSt D a s g) (fun v (_ : Unit) => v = none ∧ inn s k) (fun _ => ((h, .inr (3, [.ref (a 0), .ref (b 0)])) :: wSt D a s g)) (fun E => E = eS ∧ ¬ inn s k) 1 6 := by
  refine MX.enter hfl (by decide) [(0, .ref h), (1, .int (nI k))] rfl (Nat.le_of_ble_eq_true rfl) (fun G hC hE hX => ?_)
  have hC : CX G D cX3_requireJar RX3 2 := hC
  refine k_aload_n hC 0 dX3_requireJar_0 rfl ?_
  refine k_getf hC 1 0 0 dX3_requireJar_1 rfl rfl inlX3 (by decide) wq_1_13 rfl ?_
  refine k_iload_n hC 4 dX3_requireJar_4 rfl ?_
  refine f_callV hC 5 1 ((h, .inr (3, [.ref (a 0), .ref (b 0)])) :: []) ([]) (fun u => ((h, .inr (3, [.ref (a 0), .ref (b 0)])) :: wSt D a s g)) (f_X1_hasJar l D a s g k hS hW hk) cw_RX3_165 dX3_requireJar_5 ⟨Nat.le_of_ble_eq_true rfl, Nat.le_of_ble_eq_true rfl, Nat.le_of_ble_eq_true rfl, Nat.le_of_ble_eq_true rfl⟩ rfl (Nat.le_of_ble_eq_true rfl) rfl rfl rfl (List.append_nil _).symm (fun _ => rfl) (fun _ => List.append_nil _) _ rfl (fun v u hp => ?_)
  obtain rfl := hp
  refine KJ.eqs (st' := .int (nI (yn (k ∈ s.1 ∨ k ∈ s.2.1))) :: []) rfl ?_
  refine n_if_ne hC 8 21 dX3_requireJar_8 (by decide) (Nat.lt_of_le_of_lt yn_le (by decide)) (fun h8 => ?_) (fun h8 => ?_)
  · skip
    exact x_vret hC hE 21 () dX3_requireJar_21 (⟨rfl, show k ∈ s.1 ∨ k ∈ s.2.1 from Classical.byContradiction (fun z => h8 (yn_f z))⟩) rfl ⟨Nat.zero_le _, Nat.zero_le _⟩
  · skip
    exact x_throw (tx := "there is no jar of the kind") hC hE hX 11 (by decide +kernel) wq_4_14 wq_4_15 (by decide +kernel) go_S ng_S ot_S dX3_requireJar_11 dX3_requireJar_14 dX3_requireJar_15 dX3_requireJar_17 dX3_requireJar_20 ⟨by decide, Nat.le_of_ble_eq_true rfl, Nat.le_of_ble_eq_true rfl, Nat.le_of_ble_eq_true rfl⟩ (⟨rfl, fun z => yn_0.mp h8 z⟩) rfl ⟨Nat.le_of_ble_eq_true rfl, Nat.le_of_ble_eq_true rfl⟩
set_option maxHeartbeats 400000 in
set_option maxRecDepth 100000 in
/-- c_X3_fetch -/
theorem c_X3_fetch (l : Launch) (hfl : l.stackTraces = false) (D : va_G) (h : Nat) (a b : Nat → Nat) (s s2 : PS) (g g2 : PG) (p : Int32) (hS : SR s g) (hW : WF s) : MX l yX3_fetch cX3_fetch 3 (some .int) 7 113 D [.ref h, .int p] ((h, .inr (3, [.ref (a 0), .ref (b 0)])) :: (wSt D a s g ++ wSt D b s2 g2)) (fun v (u : (PS × PG) × PS × PG) => fetchK s p = 0 ∧ v = some (.int (nI (oc s (kn p)))) ∧ u.1.1 = br s (kn p) ∧ SR u.1.1 u.1.2) (fun u => (h, .inr (3, [.ref (a 0), .ref (b 0)])) :: (wSt D a u.1.1 u.1.2 ++ wSt D b u.2.1 u.2.2)) (fun E => (fetchK s p = 1 ∧ E = eB) ∨ (fetchK s p = 2 ∧ E = eS)) 2 12 := by
  refine MX.enter hfl (by decide) [(0, .ref h), (1, .int p)] rfl (Nat.le_of_ble_eq_true rfl) (fun G hC hE hX => ?_)
  have hC : CX G D cX3_fetch RX3 3 := hC
  refine k_iload_n hC 0 dX3_fetch_0 rfl ?_
  refine g_callS hC hX 1 ([]) ((h, .inr (3, [.ref (a 0), .ref (b 0)])) :: (wSt D a s g ++ wSt D b s2 g2)) (fun u => ((h, .inr (3, [.ref (a 0), .ref (b 0)])) :: (wSt D a s g ++ wSt D b s2 g2))) (c_X3_requireKind l hfl D p) cw_RX3_19 dX3_fetch_1 ⟨Nat.le_of_ble_eq_true rfl, Nat.le_of_ble_eq_true rfl, Nat.le_of_ble_eq_true rfl, Nat.le_of_ble_eq_true rfl⟩ rfl (Nat.le_of_ble_eq_true rfl) rfl (fun _ => rfl) (fun _ => rfl) _ rfl (fun v u hp => ?_) (fun E hx => x_out hE (Or.inl ⟨kK_1 hx.2, hx.1⟩) rfl 1 ⟨Nat.le_of_ble_eq_true rfl, Nat.le_of_ble_eq_true rfl⟩)
  obtain ⟨rfl, hk⟩ := hp
  refine KJ.eqs (st' := []) rfl ?_
  obtain ⟨hk40, hp⟩ := hk.k
  rw [← hp]
  refine k_aload_n hC 4 dX3_fetch_4 rfl ?_
  refine k_getf hC 5 0 0 dX3_fetch_5 rfl rfl inlX3 (by decide) wq_1_13 rfl ?_
  refine k_iload_n hC 8 dX3_fetch_8 rfl ?_
  by_cases h4 : oc s (kn p) = 4
  · skip
    refine f_callV hC 9 1 ((h, .inr (3, [.ref (a 0), .ref (b 0)])) :: []) (wSt D b s2 g2) (fun u => ((h, .inr (3, [.ref (a 0), .ref (b 0)])) :: (wSt D a s g ++ wSt D b s2 g2))) (f_X1_bring_no l D a s g (kn p) hS hW hk40 h4) cw_RX3_23 dX3_fetch_9 ⟨Nat.le_of_ble_eq_true rfl, Nat.le_of_ble_eq_true rfl, Nat.le_of_ble_eq_true rfl, Nat.le_of_ble_eq_true rfl⟩ rfl (Nat.le_of_ble_eq_true rfl) rfl rfl rfl rfl (fun _ => rfl) (fun _ => rfl) _ rfl (fun v u hp => ?_)
    obtain rfl := hp
    refine KJ.eqs (st' := .int (-9) :: []) rfl ?_
    refine k_istore_n hC 12 2 [(2, .int (-9)), (0, .ref h), (1, .int (nI (kn p)))] dX3_fetch_12 rfl (by decide) rfl ?_
    refine k_iload_n hC 13 dX3_fetch_13 rfl ?_
    refine k_bipush hC 14 dX3_fetch_14 (-9) (by decide) ?_
    refine k_icmp_ne hC 16 29 dX3_fetch_16 (by decide) (fun h16 => ?_) (fun h16 => ?_)
    · skip
      exact absurd rfl h16
    · skip
      exact x_throw (tx := "all places are taken by pinned jars") hC hE hX 19 (by decide +kernel) wq_4_14 wq_4_15 (by decide +kernel) go_S ng_S ot_S dX3_fetch_19 dX3_fetch_22 dX3_fetch_23 dX3_fetch_25 dX3_fetch_28 ⟨by decide, Nat.le_of_ble_eq_true rfl, Nat.le_of_ble_eq_true rfl, Nat.le_of_ble_eq_true rfl⟩ (Or.inr ⟨kK_2 (not_not_intro hk) h4, rfl⟩) rfl ⟨Nat.le_of_ble_eq_true rfl, Nat.le_of_ble_eq_true rfl⟩
  · skip
    refine f_callV hC 9 1 ((h, .inr (3, [.ref (a 0), .ref (b 0)])) :: []) (wSt D b s2 g2) (fun u => ((h, .inr (3, [.ref (a 0), .ref (b 0)])) :: (wSt D a u.1 u.2 ++ wSt D b s2 g2))) (f_X1_bring l D a s g (kn p) hS hW hk40) cw_RX3_23 dX3_fetch_9 ⟨Nat.le_of_ble_eq_true rfl, Nat.le_of_ble_eq_true rfl, Nat.le_of_ble_eq_true rfl, Nat.le_of_ble_eq_true rfl⟩ rfl (Nat.le_of_ble_eq_true rfl) rfl rfl rfl rfl (fun _ => rfl) (fun _ => rfl) _ rfl (fun v u hp => ?_)
    obtain ⟨rfl, eu, hSu⟩ := hp
    refine KJ.eqs (st' := .int (ocI (oc s (kn p))) :: []) rfl ?_
    refine KJ.topi (y := (nI (oc s (kn p)))) (ocI_n h4) ?_
    refine k_istore_n hC 12 2 [(2, .int (nI (oc s (kn p)))), (0, .ref h), (1, .int (nI (kn p)))] dX3_fetch_12 rfl (by decide) rfl ?_
    refine k_iload_n hC 13 dX3_fetch_13 rfl ?_
    refine k_bipush hC 14 dX3_fetch_14 (-9) (by decide) ?_
    refine k_icmp_ne hC 16 29 dX3_fetch_16 (by decide) (fun h16 => ?_) (fun h16 => ?_)
    · skip
      refine k_iload_n hC 29 dX3_fetch_29 rfl ?_
      exact x_iret hC hE 30 ((u.1, u.2), (s2, g2)) dX3_fetch_30 rfl (⟨kK_0 (not_not_intro hk) h4, rfl, eu, hSu⟩) rfl ⟨Nat.le_of_ble_eq_true rfl, Nat.le_of_ble_eq_true rfl⟩
    · skip
      exact absurd h16 (nI_m9 (Nat.lt_trans (oc_lt _ _) (by decide)))
set_option maxHeartbeats 400000 in
set_option maxRecDepth 100000 in
/-- c_X3_fetchAll -/
theorem c_X3_fetchAll (l : Launch) (hfl : l.stackTraces = false) (D : va_G) (h : Nat) (a b : Nat → Nat) (s s2 : PS) (g g2 : PG) (p0 p1 p2 : Int32) (hS : SR s g) (hW : WF s) : MX l yX3_fetchAll cX3_fetchAll 4 (some .int) 8 138 D [.ref h, .int p0, .int p1, .int p2] ((h, .inr (3, [.ref (a 0), .ref (b 0)])) :: (wSt D a s g ++ wSt D b s2 g2)) (fun v (u : (PS × PG) × PS × PG) => serK p0 p1 p2 = 0 ∧ v = some (.int (serV s p0 p1 p2)) ∧ u.1.1 = serS s p0 p1 p2 ∧ SR u.1.1 u.1.2) (fun u => (h, .inr (3, [.ref (a 0), .ref (b 0)])) :: (wSt D a u.1.1 u.1.2 ++ wSt D b u.2.1 u.2.2)) (fun E => (serK p0 p1 p2 = 1 ∧ E = eB) ∨ (serK p0 p1 p2 = 2 ∧ E = eA)) 2 12 := by
  refine MX.enter hfl (by decide) [(0, .ref h), (1, .int p0), (2, .int p1), (3, .int p2)] rfl (Nat.le_of_ble_eq_true rfl) (fun G hC hE hX => ?_)
  have hC : CX G D cX3_fetchAll RX3 4 := hC
  refine k_iload_n hC 0 dX3_fetchAll_0 rfl ?_
  refine k_iload_n hC 1 dX3_fetchAll_1 rfl ?_
  refine k_iload_n hC 2 dX3_fetchAll_2 rfl ?_
  refine g_callS hC hX 3 ([]) ((h, .inr (3, [.ref (a 0), .ref (b 0)])) :: (wSt D a s g ++ wSt D b s2 g2)) (fun u => ((h, .inr (3, [.ref (a 0), .ref (b 0)])) :: (wSt D a s g ++ wSt D b s2 g2))) (c_X3_requireSeries l hfl D p0 p1 p2) cw_RX3_34 dX3_fetchAll_3 ⟨Nat.le_of_ble_eq_true rfl, Nat.le_of_ble_eq_true rfl, Nat.le_of_ble_eq_true rfl, Nat.le_of_ble_eq_true rfl⟩ rfl (Nat.le_of_ble_eq_true rfl) rfl (fun _ => rfl) (fun _ => rfl) _ rfl (fun v u hp => ?_) (fun E hx => x_out hE (hx) rfl 3 ⟨Nat.le_of_ble_eq_true rfl, Nat.le_of_ble_eq_true rfl⟩)
  obtain ⟨rfl, hK0, hk, hs, hm⟩ := hp
  refine KJ.eqs (st' := []) rfl ?_
  obtain ⟨k40, hp0⟩ := hk.k
  obtain ⟨s40, hp1⟩ := hs.k
  obtain ⟨m30, hp2⟩ := hm.k
  rw [← hp0, ← hp1, ← hp2]
  refine k_aload_n hC 6 dX3_fetchAll_6 rfl ?_
  refine k_getf hC 7 0 0 dX3_fetchAll_7 rfl rfl inlX3 (by decide) wq_1_13 rfl ?_
  refine k_iload_n hC 10 dX3_fetchAll_10 rfl ?_
  refine k_iload_n hC 11 dX3_fetchAll_11 rfl ?_
  refine k_iload_n hC 12 dX3_fetchAll_12 rfl ?_
  refine f_callV hC 13 1 ((h, .inr (3, [.ref (a 0), .ref (b 0)])) :: []) (wSt D b s2 g2) (fun u => ((h, .inr (3, [.ref (a 0), .ref (b 0)])) :: (wSt D a u.1 u.2 ++ wSt D b s2 g2))) (f_X1_bringSeries l D a s g (kn p0) (kn p1) (kn p2) hS hW k40 s40 m30) cw_RX3_38 dX3_fetchAll_13 ⟨Nat.le_of_ble_eq_true rfl, Nat.le_of_ble_eq_true rfl, Nat.le_of_ble_eq_true rfl, Nat.le_of_ble_eq_true rfl⟩ rfl (Nat.le_of_ble_eq_true rfl) rfl rfl rfl rfl (fun _ => rfl) (fun _ => rfl) _ rfl (fun v u hp => ?_)
  obtain ⟨rfl, eu, hSu⟩ := hp
  refine KJ.eqs (st' := .int (serV s p0 p1 p2) :: []) rfl ?_
  exact x_iret hC hE 16 ((u.1, u.2), (s2, g2)) dX3_fetchAll_16 rfl (⟨hK0, rfl, eu, hSu⟩) rfl ⟨Nat.le_of_ble_eq_true rfl, Nat.le_of_ble_eq_true rfl⟩
set_option maxHeartbeats 400000 in
set_option maxRecDepth 100000 in
/-- c_X3_pin -/
theorem c_X3_pin (l : Launch) (hfl : l.stackTraces = false) (D : va_G) (h : Nat) (a b : Nat → Nat) (s s2 : PS) (g g2 : PG) (p : Int32) (hS : SR s g) (hW : WF s) : MX l yX3_pin cX3_pin 2 (some .int) 7 103 D [.ref h, .int p] ((h, .inr (3, [.ref (a 0), .ref (b 0)])) :: (wSt D a s g ++ wSt D b s2 g2)) (fun v (u : (PS × PG) × PS × PG) => pinK s p = 0 ∧ v = some (.int (nI (piS s (kn p) + 1))) ∧ u.1.1 = upPi s (kn p) (piS s (kn p) + 1) ∧ SR u.1.1 u.1.2) (fun u => (h, .inr (3, [.ref (a 0), .ref (b 0)])) :: (wSt D a u.1.1 u.1.2 ++ wSt D b u.2.1 u.2.2)) (fun E => (pinK s p = 1 ∧ E = eB) ∨ (pinK s p = 2 ∧ E = eS)) 3 18 := by
  refine MX.enter hfl (by decide) [(0, .ref h), (1, .int p)] rfl (Nat.le_of_ble_eq_true rfl) (fun G hC hE hX => ?_)
  have hC : CX G D cX3_pin RX3 2 := hC
  have p9k := hW.p9S (kn p)
  refine k_iload_n hC 0 dX3_pin_0 rfl ?_
  refine g_callS hC hX 1 ([]) ((h, .inr (3, [.ref (a 0), .ref (b 0)])) :: (wSt D a s g ++ wSt D b s2 g2)) (fun u => ((h, .inr (3, [.ref (a 0), .ref (b 0)])) :: (wSt D a s g ++ wSt D b s2 g2))) (c_X3_requireKind l hfl D p) cw_RX3_19 dX3_pin_1 ⟨Nat.le_of_ble_eq_true rfl, Nat.le_of_ble_eq_true rfl, Nat.le_of_ble_eq_true rfl, Nat.le_of_ble_eq_true rfl⟩ rfl (Nat.le_of_ble_eq_true rfl) rfl (fun _ => rfl) (fun _ => rfl) _ rfl (fun v u hp => ?_) (fun E hx => x_out hE (Or.inl ⟨kK_1 hx.2, hx.1⟩) rfl 1 ⟨Nat.le_of_ble_eq_true rfl, Nat.le_of_ble_eq_true rfl⟩)
  obtain ⟨rfl, hk⟩ := hp
  refine KJ.eqs (st' := []) rfl ?_
  obtain ⟨hk40, hp⟩ := hk.k
  rw [← hp]
  refine k_aload_n hC 4 dX3_pin_4 rfl ?_
  refine k_iload_n hC 5 dX3_pin_5 rfl ?_
  refine g_callV hC hX 6 0 ([]) (wSt D b s2 g2) (fun u => ((h, .inr (3, [.ref (a 0), .ref (b 0)])) :: (wSt D a s g ++ wSt D b s2 g2))) (c_X3_requireJar l hfl D h a b s g (kn p) hS hW hk40) cw_RX3_42 dX3_pin_6 ⟨Nat.le_of_ble_eq_true rfl, Nat.le_of_ble_eq_true rfl, Nat.le_of_ble_eq_true rfl, Nat.le_of_ble_eq_true rfl⟩ rfl (Nat.le_of_ble_eq_true rfl) rfl rfl rfl rfl (fun _ => rfl) (fun _ => rfl) _ rfl (fun v u hp => ?_) (fun E hx => x_out hE (Or.inr ⟨kK_2 (not_not_intro hk) (Or.inl hx.2), hx.1⟩) rfl 6 ⟨Nat.le_of_ble_eq_true rfl, Nat.le_of_ble_eq_true rfl⟩)
  obtain ⟨rfl, hj⟩ := hp
  refine KJ.eqs (st' := []) rfl ?_
  refine k_aload_n hC 9 dX3_pin_9 rfl ?_
  refine k_getf hC 10 0 0 dX3_pin_10 rfl rfl inlX3 (by decide) wq_1_13 rfl ?_
  refine k_getfN hC 13 1 5 dX3_pin_13 rfl rfl inlX1 (by decide) hC.kt.2.2.1 rfl ?_
  refine KJ.eqs (st' := .ref (a 11) :: []) rfl ?_
  refine k_iload_n hC 16 dX3_pin_16 rfl ?_
  refine k_callVr hC 17 12 [12, 13] (c_X2_of l D (a 11) (a 12) g.2.2.2.2.2.1 (kn p) hk40) cw_RX3_49 dX3_pin_17 ⟨Nat.le_of_ble_eq_true rfl, Nat.le_of_ble_eq_true rfl, Nat.le_of_ble_eq_true rfl, Nat.le_of_ble_eq_true rfl⟩ rfl (Nat.le_of_ble_eq_true rfl) rfl rfl rfl (by decide) rfl (fun _ => Nat.le_of_ble_eq_true rfl) (fun _ => rfl) _ rfl (fun v u hp => ?_)
  obtain rfl := hp
  refine KJ.eqs (st' := .int (g.2.2.2.2.2.1 (kn p)) :: []) rfl ?_
  refine KJ.topi (y := (nI (piS s (kn p)))) (hS.r5S hk40) ?_
  refine k_bipush hC 20 dX3_pin_20 (nI 9) (by decide) ?_
  refine n_icmp_lt hC 22 35 dX3_pin_22 (by decide) (by omega) (by omega) (fun h22 => ?_) (fun h22 => ?_)
  · skip
    refine k_aload_n hC 35 dX3_pin_35 rfl ?_
    refine k_getf hC 36 0 0 dX3_pin_36 rfl rfl inlX3 (by decide) wq_1_13 rfl ?_
    refine k_iload_n hC 39 dX3_pin_39 rfl ?_
    refine k_iconst hC 40 dX3_pin_40 (nI 1) (by decide) ?_
    refine f_callV hC 41 1 ((h, .inr (3, [.ref (a 0), .ref (b 0)])) :: []) (wSt D b s2 g2) (fun u => ((h, .inr (3, [.ref (a 0), .ref (b 0)])) :: (wSt D a u.1 u.2 ++ wSt D b s2 g2))) (f_X1_changePins l D a s g (kn p) (piS s (kn p) + 1) (nI 1) hS hW hk40 (nI_add _ _)) cw_RX3_56 dX3_pin_41 ⟨Nat.le_of_ble_eq_true rfl, Nat.le_of_ble_eq_true rfl, Nat.le_of_ble_eq_true rfl, Nat.le_of_ble_eq_true rfl⟩ rfl (Nat.le_of_ble_eq_true rfl) rfl rfl rfl rfl (fun _ => rfl) (fun _ => rfl) _ rfl (fun v u hp => ?_)
    obtain ⟨rfl, eu, hSu⟩ := hp
    refine KJ.eqs (st' := .int (nI (piS s (kn p) + 1)) :: []) rfl ?_
    exact x_iret hC hE 44 ((u.1, u.2), (s2, g2)) dX3_pin_44 rfl (⟨kK_0 (not_not_intro hk) (fun z => z.elim (fun y => y hj) (fun y => absurd h22 (Nat.not_lt.mpr y))), rfl, eu, hSu⟩) rfl ⟨Nat.le_of_ble_eq_true rfl, Nat.le_of_ble_eq_true rfl⟩
  · skip
    exact x_throw (tx := "the jar has as many pins as it can have") hC hE hX 25 (by decide +kernel) wq_4_14 wq_4_15 (by decide +kernel) go_S ng_S ot_S dX3_pin_25 dX3_pin_28 dX3_pin_29 dX3_pin_31 dX3_pin_34 ⟨by decide, Nat.le_of_ble_eq_true rfl, Nat.le_of_ble_eq_true rfl, Nat.le_of_ble_eq_true rfl⟩ (Or.inr ⟨kK_2 (not_not_intro hk) (Or.inr h22), rfl⟩) rfl ⟨Nat.le_of_ble_eq_true rfl, Nat.le_of_ble_eq_true rfl⟩
set_option maxHeartbeats 400000 in
set_option maxRecDepth 100000 in
/-- c_X3_unpin -/
theorem c_X3_unpin (l : Launch) (hfl : l.stackTraces = false) (D : va_G) (h : Nat) (a b : Nat → Nat) (s s2 : PS) (g g2 : PG) (p : Int32) (hS : SR s g) (hW : WF s) : MX l yX3_unpin cX3_unpin 2 (some .int) 7 103 D [.ref h, .int p] ((h, .inr (3, [.ref (a 0), .ref (b 0)])) :: (wSt D a s g ++ wSt D b s2 g2)) (fun v (u : (PS × PG) × PS × PG) => unpinK s p = 0 ∧ v = some (.int (nI (piS s (kn p) - 1))) ∧ u.1.1 = upPi s (kn p) (piS s (kn p) - 1) ∧ SR u.1.1 u.1.2) (fun u => (h, .inr (3, [.ref (a 0), .ref (b 0)])) :: (wSt D a u.1.1 u.1.2 ++ wSt D b u.2.1 u.2.2)) (fun E => (unpinK s p = 1 ∧ E = eB) ∨ (unpinK s p = 2 ∧ E = eS)) 3 18 := by
  refine MX.enter hfl (by decide) [(0, .ref h), (1, .int p)] rfl (Nat.le_of_ble_eq_true rfl) (fun G hC hE hX => ?_)
  have hC : CX G D cX3_unpin RX3 2 := hC
  have p9k := hW.p9S (kn p)
  refine k_iload_n hC 0 dX3_unpin_0 rfl ?_
  refine g_callS hC hX 1 ([]) ((h, .inr (3, [.ref (a 0), .ref (b 0)])) :: (wSt D a s g ++ wSt D b s2 g2)) (fun u => ((h, .inr (3, [.ref (a 0), .ref (b 0)])) :: (wSt D a s g ++ wSt D b s2 g2))) (c_X3_requireKind l hfl D p) cw_RX3_19 dX3_unpin_1 ⟨Nat.le_of_ble_eq_true rfl, Nat.le_of_ble_eq_true rfl, Nat.le_of_ble_eq_true rfl, Nat.le_of_ble_eq_true rfl⟩ rfl (Nat.le_of_ble_eq_true rfl) rfl (fun _ => rfl) (fun _ => rfl) _ rfl (fun v u hp => ?_) (fun E hx => x_out hE (Or.inl ⟨kK_1 hx.2, hx.1⟩) rfl 1 ⟨Nat.le_of_ble_eq_true rfl, Nat.le_of_ble_eq_true rfl⟩)
  obtain ⟨rfl, hk⟩ := hp
  refine KJ.eqs (st' := []) rfl ?_
  obtain ⟨hk40, hp⟩ := hk.k
  rw [← hp]
  refine k_aload_n hC 4 dX3_unpin_4 rfl ?_
  refine k_iload_n hC 5 dX3_unpin_5 rfl ?_
  refine g_callV hC hX 6 0 ([]) (wSt D b s2 g2) (fun u => ((h, .inr (3, [.ref (a 0), .ref (b 0)])) :: (wSt D a s g ++ wSt D b s2 g2))) (c_X3_requireJar l hfl D h a b s g (kn p) hS hW hk40) cw_RX3_42 dX3_unpin_6 ⟨Nat.le_of_ble_eq_true rfl, Nat.le_of_ble_eq_true rfl, Nat.le_of_ble_eq_true rfl, Nat.le_of_ble_eq_true rfl⟩ rfl (Nat.le_of_ble_eq_true rfl) rfl rfl rfl rfl (fun _ => rfl) (fun _ => rfl) _ rfl (fun v u hp => ?_) (fun E hx => x_out hE (Or.inr ⟨kK_2 (not_not_intro hk) (Or.inl hx.2), hx.1⟩) rfl 6 ⟨Nat.le_of_ble_eq_true rfl, Nat.le_of_ble_eq_true rfl⟩)
  obtain ⟨rfl, hj⟩ := hp
  refine KJ.eqs (st' := []) rfl ?_
  refine k_aload_n hC 9 dX3_unpin_9 rfl ?_
  refine k_getf hC 10 0 0 dX3_unpin_10 rfl rfl inlX3 (by decide) wq_1_13 rfl ?_
  refine k_getfN hC 13 1 5 dX3_unpin_13 rfl rfl inlX1 (by decide) hC.kt.2.2.1 rfl ?_
  refine KJ.eqs (st' := .ref (a 11) :: []) rfl ?_
  refine k_iload_n hC 16 dX3_unpin_16 rfl ?_
  refine k_callVr hC 17 12 [12, 13] (c_X2_of l D (a 11) (a 12) g.2.2.2.2.2.1 (kn p) hk40) cw_RX3_49 dX3_unpin_17 ⟨Nat.le_of_ble_eq_true rfl, Nat.le_of_ble_eq_true rfl, Nat.le_of_ble_eq_true rfl, Nat.le_of_ble_eq_true rfl⟩ rfl (Nat.le_of_ble_eq_true rfl) rfl rfl rfl (by decide) rfl (fun _ => Nat.le_of_ble_eq_true rfl) (fun _ => rfl) _ rfl (fun v u hp => ?_)
  obtain rfl := hp
  refine KJ.eqs (st' := .int (g.2.2.2.2.2.1 (kn p)) :: []) rfl ?_
  refine KJ.topi (y := (nI (piS s (kn p)))) (hS.r5S hk40) ?_
  refine k_iconst hC 20 dX3_unpin_20 (nI 1) (by decide) ?_
  refine n_icmp_ge hC 21 34 dX3_unpin_21 (by decide) (by omega) (by omega) (fun h21 => ?_) (fun h21 => ?_)
  · skip
    refine k_aload_n hC 34 dX3_unpin_34 rfl ?_
    refine k_getf hC 35 0 0 dX3_unpin_35 rfl rfl inlX3 (by decide) wq_1_13 rfl ?_
    refine k_iload_n hC 38 dX3_unpin_38 rfl ?_
    refine k_iconst hC 39 dX3_unpin_39 (-1) (by decide) ?_
    refine f_callV hC 40 1 ((h, .inr (3, [.ref (a 0), .ref (b 0)])) :: []) (wSt D b s2 g2) (fun u => ((h, .inr (3, [.ref (a 0), .ref (b 0)])) :: (wSt D a u.1 u.2 ++ wSt D b s2 g2))) (f_X1_changePins l D a s g (kn p) (piS s (kn p) - 1) (-1) hS hW hk40 (by rw [show piS s (kn p) = (piS s (kn p) - 1) + 1 by omega]; exact pk_m1 _)) cw_RX3_56 dX3_unpin_40 ⟨Nat.le_of_ble_eq_true rfl, Nat.le_of_ble_eq_true rfl, Nat.le_of_ble_eq_true rfl, Nat.le_of_ble_eq_true rfl⟩ rfl (Nat.le_of_ble_eq_true rfl) rfl rfl rfl rfl (fun _ => rfl) (fun _ => rfl) _ rfl (fun v u hp => ?_)
    obtain ⟨rfl, eu, hSu⟩ := hp
    refine KJ.eqs (st' := .int (nI (piS s (kn p) - 1)) :: []) rfl ?_
    exact x_iret hC hE 43 ((u.1, u.2), (s2, g2)) dX3_unpin_43 rfl (⟨kK_0 (not_not_intro hk) (fun z => z.elim (fun y => y hj) (fun y => by omega)), rfl, eu, hSu⟩) rfl ⟨Nat.le_of_ble_eq_true rfl, Nat.le_of_ble_eq_true rfl⟩
  · skip
    exact x_throw (tx := "the jar has no pin") hC hE hX 24 (by decide +kernel) wq_4_14 wq_4_15 (by decide +kernel) go_S ng_S ot_S dX3_unpin_24 dX3_unpin_27 dX3_unpin_28 dX3_unpin_30 dX3_unpin_33 ⟨by decide, Nat.le_of_ble_eq_true rfl, Nat.le_of_ble_eq_true rfl, Nat.le_of_ble_eq_true rfl⟩ (Or.inr ⟨kK_2 (not_not_intro hk) (Or.inr (Nat.lt_one_iff.mp h21)), rfl⟩) rfl ⟨Nat.le_of_ble_eq_true rfl, Nat.le_of_ble_eq_true rfl⟩
set_option maxHeartbeats 400000 in
set_option maxRecDepth 100000 in
/-- c_X3_eat -/
theorem c_X3_eat (l : Launch) (hfl : l.stackTraces = false) (D : va_G) (h : Nat) (a b : Nat → Nat) (s s2 : PS) (g g2 : PG) (p : Int32) (hS : SR s g) (hW : WF s) : MX l yX3_eat cX3_eat 2 (some .int) 7 103 D [.ref h, .int p] ((h, .inr (3, [.ref (a 0), .ref (b 0)])) :: (wSt D a s g ++ wSt D b s2 g2)) (fun v (u : (PS × PG) × PS × PG) => eatK s p = 0 ∧ v = some (.int (feS s (kn p))) ∧ u.1.1 = eatS s (kn p) ∧ SR u.1.1 u.1.2) (fun u => (h, .inr (3, [.ref (a 0), .ref (b 0)])) :: (wSt D a u.1.1 u.1.2 ++ wSt D b u.2.1 u.2.2)) (fun E => (eatK s p = 1 ∧ E = eB) ∨ (eatK s p = 2 ∧ E = eS)) 3 18 := by
  refine MX.enter hfl (by decide) [(0, .ref h), (1, .int p)] rfl (Nat.le_of_ble_eq_true rfl) (fun G hC hE hX => ?_)
  have hC : CX G D cX3_eat RX3 2 := hC
  have p9k := hW.p9S (kn p)
  refine k_iload_n hC 0 dX3_eat_0 rfl ?_
  refine g_callS hC hX 1 ([]) ((h, .inr (3, [.ref (a 0), .ref (b 0)])) :: (wSt D a s g ++ wSt D b s2 g2)) (fun u => ((h, .inr (3, [.ref (a 0), .ref (b 0)])) :: (wSt D a s g ++ wSt D b s2 g2))) (c_X3_requireKind l hfl D p) cw_RX3_19 dX3_eat_1 ⟨Nat.le_of_ble_eq_true rfl, Nat.le_of_ble_eq_true rfl, Nat.le_of_ble_eq_true rfl, Nat.le_of_ble_eq_true rfl⟩ rfl (Nat.le_of_ble_eq_true rfl) rfl (fun _ => rfl) (fun _ => rfl) _ rfl (fun v u hp => ?_) (fun E hx => x_out hE (Or.inl ⟨kK_1 hx.2, hx.1⟩) rfl 1 ⟨Nat.le_of_ble_eq_true rfl, Nat.le_of_ble_eq_true rfl⟩)
  obtain ⟨rfl, hk⟩ := hp
  refine KJ.eqs (st' := []) rfl ?_
  obtain ⟨hk40, hp⟩ := hk.k
  rw [← hp]
  refine k_aload_n hC 4 dX3_eat_4 rfl ?_
  refine k_iload_n hC 5 dX3_eat_5 rfl ?_
  refine g_callV hC hX 6 0 ([]) (wSt D b s2 g2) (fun u => ((h, .inr (3, [.ref (a 0), .ref (b 0)])) :: (wSt D a s g ++ wSt D b s2 g2))) (c_X3_requireJar l hfl D h a b s g (kn p) hS hW hk40) cw_RX3_42 dX3_eat_6 ⟨Nat.le_of_ble_eq_true rfl, Nat.le_of_ble_eq_true rfl, Nat.le_of_ble_eq_true rfl, Nat.le_of_ble_eq_true rfl⟩ rfl (Nat.le_of_ble_eq_true rfl) rfl rfl rfl rfl (fun _ => rfl) (fun _ => rfl) _ rfl (fun v u hp => ?_) (fun E hx => x_out hE (Or.inr ⟨kK_2 (not_not_intro hk) (Or.inl hx.2), hx.1⟩) rfl 6 ⟨Nat.le_of_ble_eq_true rfl, Nat.le_of_ble_eq_true rfl⟩)
  obtain ⟨rfl, hj⟩ := hp
  refine KJ.eqs (st' := []) rfl ?_
  refine k_aload_n hC 9 dX3_eat_9 rfl ?_
  refine k_getf hC 10 0 0 dX3_eat_10 rfl rfl inlX3 (by decide) wq_1_13 rfl ?_
  refine k_getfN hC 13 1 5 dX3_eat_13 rfl rfl inlX1 (by decide) hC.kt.2.2.1 rfl ?_
  refine KJ.eqs (st' := .ref (a 11) :: []) rfl ?_
  refine k_iload_n hC 16 dX3_eat_16 rfl ?_
  refine k_callVr hC 17 12 [12, 13] (c_X2_of l D (a 11) (a 12) g.2.2.2.2.2.1 (kn p) hk40) cw_RX3_49 dX3_eat_17 ⟨Nat.le_of_ble_eq_true rfl, Nat.le_of_ble_eq_true rfl, Nat.le_of_ble_eq_true rfl, Nat.le_of_ble_eq_true rfl⟩ rfl (Nat.le_of_ble_eq_true rfl) rfl rfl rfl (by decide) rfl (fun _ => Nat.le_of_ble_eq_true rfl) (fun _ => rfl) _ rfl (fun v u hp => ?_)
  obtain rfl := hp
  refine KJ.eqs (st' := .int (g.2.2.2.2.2.1 (kn p)) :: []) rfl ?_
  refine KJ.topi (y := (nI (piS s (kn p)))) (hS.r5S hk40) ?_
  refine n_if_le hC 20 33 dX3_eat_20 (by decide) (by omega) (fun h20 => ?_) (fun h20 => ?_)
  · skip
    refine k_aload_n hC 33 dX3_eat_33 rfl ?_
    refine k_getf hC 34 0 0 dX3_eat_34 rfl rfl inlX3 (by decide) wq_1_13 rfl ?_
    refine k_iload_n hC 37 dX3_eat_37 rfl ?_
    refine f_callV hC 38 1 ((h, .inr (3, [.ref (a 0), .ref (b 0)])) :: []) (wSt D b s2 g2) (fun u => ((h, .inr (3, [.ref (a 0), .ref (b 0)])) :: (wSt D a u.1 u.2 ++ wSt D b s2 g2))) (f_X1_remove l D a s g (kn p) hS hW hk40) cw_RX3_64 dX3_eat_38 ⟨Nat.le_of_ble_eq_true rfl, Nat.le_of_ble_eq_true rfl, Nat.le_of_ble_eq_true rfl, Nat.le_of_ble_eq_true rfl⟩ rfl (Nat.le_of_ble_eq_true rfl) rfl rfl rfl rfl (fun _ => rfl) (fun _ => rfl) _ rfl (fun v u hp => ?_)
    obtain ⟨rfl, eu, hSu⟩ := hp
    refine KJ.eqs (st' := .int (feS s (kn p)) :: []) rfl ?_
    exact x_iret hC hE 41 ((u.1, u.2), (s2, g2)) dX3_eat_41 rfl (⟨kK_0 (not_not_intro hk) (fun z => z.elim (fun y => y hj) (fun y => absurd h20 (Nat.pos_iff_ne_zero.mp y))), rfl, eu, hSu⟩) rfl ⟨Nat.le_of_ble_eq_true rfl, Nat.le_of_ble_eq_true rfl⟩
  · skip
    exact x_throw (tx := "the jar is pinned") hC hE hX 23 (by decide +kernel) wq_4_14 wq_4_15 (by decide +kernel) go_S ng_S ot_S dX3_eat_23 dX3_eat_26 dX3_eat_27 dX3_eat_29 dX3_eat_32 ⟨by decide, Nat.le_of_ble_eq_true rfl, Nat.le_of_ble_eq_true rfl, Nat.le_of_ble_eq_true rfl⟩ (Or.inr ⟨kK_2 (not_not_intro hk) (Or.inr h20), rfl⟩) rfl ⟨Nat.le_of_ble_eq_true rfl, Nat.le_of_ble_eq_true rfl⟩
set_option maxHeartbeats 400000 in
set_option maxRecDepth 100000 in
/-- c_X3_setPlaces -/
theorem c_X3_setPlaces (l : Launch) (hfl : l.stackTraces = false) (D : va_G) (h : Nat) (a b : Nat → Nat) (s s2 : PS) (g g2 : PG) (p : Int32) (hS : SR s g) (hW : WF s) : MX l yX3_setPlaces cX3_setPlaces 3 (some .int) 6 113 D [.ref h, .int p] ((h, .inr (3, [.ref (a 0), .ref (b 0)])) :: (wSt D a s g ++ wSt D b s2 g2)) (fun v (u : (PS × PG) × PS × PG) => setPlacesK s p = 0 ∧ v = some (.int (nI (plS s))) ∧ u.1.1 = rsz (kn p) s ∧ SR u.1.1 u.1.2) (fun u => (h, .inr (3, [.ref (a 0), .ref (b 0)])) :: (wSt D a u.1.1 u.1.2 ++ wSt D b u.2.1 u.2.2)) (fun E => (setPlacesK s p = 1 ∧ E = eA) ∨ (setPlacesK s p = 2 ∧ E = eS)) 1 6 := by
  refine MX.enter hfl (by decide) [(0, .ref h), (1, .int p)] rfl (Nat.le_of_ble_eq_true rfl) (fun G hC hE hX => ?_)
  have hC : CX G D cX3_setPlaces RX3 3 := hC
  have pn12 := pnd_le hW
  have pl12 := hW.pl12
  refine k_iload_n hC 0 dX3_setPlaces_0 rfl ?_
  refine k_iconst hC 1 dX3_setPlaces_1 (nI 2) (by decide) ?_
  refine k_icmp_lt hC 2 11 dX3_setPlaces_2 (by decide) (fun h2 => ?_) (fun h2 => ?_)
  · skip
    exact x_throw (tx := "there are 2 to 12 places") hC hE hX 11 (by decide +kernel) wq_8_9 wq_8_10 (by decide +kernel) go_A ng_A ot_A dX3_setPlaces_11 dX3_setPlaces_14 dX3_setPlaces_15 dX3_setPlaces_17 dX3_setPlaces_20 ⟨by decide, Nat.le_of_ble_eq_true rfl, Nat.le_of_ble_eq_true rfl, Nat.le_of_ble_eq_true rfl⟩ (Or.inl ⟨kK_1 (Or.inl h2), rfl⟩) rfl ⟨Nat.le_of_ble_eq_true rfl, Nat.le_of_ble_eq_true rfl⟩
  · skip
    refine k_iload_n hC 5 dX3_setPlaces_5 rfl ?_
    refine k_bipush hC 6 dX3_setPlaces_6 (nI 12) (by decide) ?_
    refine k_icmp_le hC 8 21 dX3_setPlaces_8 (by decide) (fun h8 => ?_) (fun h8 => ?_)
    · skip
      obtain ⟨b1, b2, hp⟩ := nn_of (by decide) (by decide) h2 h8
      rw [← hp]
      refine k_aload_n hC 21 dX3_setPlaces_21 rfl ?_
      refine k_getf hC 22 0 0 dX3_setPlaces_22 rfl rfl inlX3 (by decide) wq_1_13 rfl ?_
      refine f_callV hC 25 1 ((h, .inr (3, [.ref (a 0), .ref (b 0)])) :: []) (wSt D b s2 g2) (fun u => ((h, .inr (3, [.ref (a 0), .ref (b 0)])) :: (wSt D a s g ++ wSt D b s2 g2))) (f_X1_pinnedJars l D a s g hS hW) cw_RX3_72 dX3_setPlaces_25 ⟨Nat.le_of_ble_eq_true rfl, Nat.le_of_ble_eq_true rfl, Nat.le_of_ble_eq_true rfl, Nat.le_of_ble_eq_true rfl⟩ rfl (Nat.le_of_ble_eq_true rfl) rfl rfl rfl rfl (fun _ => rfl) (fun _ => rfl) _ rfl (fun v u hp => ?_)
      obtain rfl := hp
      refine KJ.eqs (st' := .int (nI (pnd s)) :: []) rfl ?_
      refine k_iload_n hC 28 dX3_setPlaces_28 rfl ?_
      refine n_icmp_le hC 29 42 dX3_setPlaces_29 (by decide) (by omega) (by omega) (fun h29 => ?_) (fun h29 => ?_)
      · skip
        refine k_aload_n hC 42 dX3_setPlaces_42 rfl ?_
        refine k_getf hC 43 0 0 dX3_setPlaces_43 rfl rfl inlX3 (by decide) wq_1_13 rfl ?_
        refine k_getfN hC 46 1 7 dX3_setPlaces_46 rfl rfl inlX1 (by decide) hC.kt.2.2.2.1 rfl ?_
        refine KJ.eqs (st' := .int (nI (plS s)) :: []) rfl ?_
        refine k_istore_n hC 49 2 [(2, .int (nI (plS s))), (0, .ref h), (1, .int (nI (kn p)))] dX3_setPlaces_49 rfl (by decide) rfl ?_
        refine k_aload_n hC 50 dX3_setPlaces_50 rfl ?_
        refine k_getf hC 51 0 0 dX3_setPlaces_51 rfl rfl inlX3 (by decide) wq_1_13 rfl ?_
        refine k_iload_n hC 54 dX3_setPlaces_54 rfl ?_
        refine f_callV hC 55 1 ((h, .inr (3, [.ref (a 0), .ref (b 0)])) :: []) (wSt D b s2 g2) (fun u => ((h, .inr (3, [.ref (a 0), .ref (b 0)])) :: (wSt D a u.1 u.2 ++ wSt D b s2 g2))) (f_X1_resize l D a s g (kn p) hS hW b1 b2 h29) cw_RX3_82 dX3_setPlaces_55 ⟨Nat.le_of_ble_eq_true rfl, Nat.le_of_ble_eq_true rfl, Nat.le_of_ble_eq_true rfl, Nat.le_of_ble_eq_true rfl⟩ rfl (Nat.le_of_ble_eq_true rfl) rfl rfl rfl rfl (fun _ => rfl) (fun _ => rfl) _ rfl (fun v u hp => ?_)
        obtain ⟨rfl, eu, hSu⟩ := hp
        refine KJ.eqs (st' := []) rfl ?_
        refine k_iload_n hC 58 dX3_setPlaces_58 rfl ?_
        exact x_iret hC hE 59 ((u.1, u.2), (s2, g2)) dX3_setPlaces_59 rfl (⟨kK_0 (fun z => z.elim h2 (fun y => y h8)) (Nat.not_lt.mpr h29), rfl, eu, hSu⟩) rfl ⟨Nat.zero_le _, Nat.zero_le _⟩
      · skip
        exact x_throw (tx := "more jars are pinned") hC hE hX 32 (by decide +kernel) wq_4_14 wq_4_15 (by decide +kernel) go_S ng_S ot_S dX3_setPlaces_32 dX3_setPlaces_35 dX3_setPlaces_36 dX3_setPlaces_38 dX3_setPlaces_41 ⟨by decide, Nat.le_of_ble_eq_true rfl, Nat.le_of_ble_eq_true rfl, Nat.le_of_ble_eq_true rfl⟩ (Or.inr ⟨kK_2 (fun z => z.elim h2 (fun y => y h8)) h29, rfl⟩) rfl ⟨Nat.le_of_ble_eq_true rfl, Nat.le_of_ble_eq_true rfl⟩
    · skip
      exact x_throw (tx := "there are 2 to 12 places") hC hE hX 11 (by decide +kernel) wq_8_9 wq_8_10 (by decide +kernel) go_A ng_A ot_A dX3_setPlaces_11 dX3_setPlaces_14 dX3_setPlaces_15 dX3_setPlaces_17 dX3_setPlaces_20 ⟨by decide, Nat.le_of_ble_eq_true rfl, Nat.le_of_ble_eq_true rfl, Nat.le_of_ble_eq_true rfl⟩ (Or.inl ⟨kK_1 (Or.inr h8), rfl⟩) rfl ⟨Nat.le_of_ble_eq_true rfl, Nat.le_of_ble_eq_true rfl⟩
set_option maxHeartbeats 400000 in
set_option maxRecDepth 100000 in
/-- c_X3_setGoal -/
theorem c_X3_setGoal (l : Launch) (hfl : l.stackTraces = false) (D : va_G) (h : Nat) (a b : Nat → Nat) (s s2 : PS) (g g2 : PG) (p : Int32) (hS : SR s g) (hW : WF s) : MX l yX3_setGoal cX3_setGoal 3 (some .int) 6 82 D [.ref h, .int p] ((h, .inr (3, [.ref (a 0), .ref (b 0)])) :: (wSt D a s g ++ wSt D b s2 g2)) (fun v (u : (PS × PG) × PS × PG) => setGoalK s p = 0 ∧ v = some (.int (nI (goS s))) ∧ u.1.1 = goTo s (kn p) ∧ SR u.1.1 u.1.2) (fun u => (h, .inr (3, [.ref (a 0), .ref (b 0)])) :: (wSt D a u.1.1 u.1.2 ++ wSt D b u.2.1 u.2.2)) (fun E => (setGoalK s p = 1 ∧ E = eA) ∨ (setGoalK s p = 2 ∧ E = eS)) 1 6 := by
  refine MX.enter hfl (by decide) [(0, .ref h), (1, .int p)] rfl (Nat.le_of_ble_eq_true rfl) (fun G hC hE hX => ?_)
  have hC : CX G D cX3_setGoal RX3 3 := hC
  have pl12 := hW.pl12
  have go12 := hW.go12
  refine k_iload_n hC 0 dX3_setGoal_0 rfl ?_
  refine k_if_lt hC 1 15 dX3_setGoal_1 (by decide) (fun h1 => ?_) (fun h1 => ?_)
  · skip
    exact x_throw (tx := "the goal is 0 to as many as there are places") hC hE hX 15 (by decide +kernel) wq_8_9 wq_8_10 (by decide +kernel) go_A ng_A ot_A dX3_setGoal_15 dX3_setGoal_18 dX3_setGoal_19 dX3_setGoal_21 dX3_setGoal_24 ⟨by decide, Nat.le_of_ble_eq_true rfl, Nat.le_of_ble_eq_true rfl, Nat.le_of_ble_eq_true rfl⟩ (Or.inl ⟨kK_1 (Or.inl h1), rfl⟩) rfl ⟨Nat.le_of_ble_eq_true rfl, Nat.le_of_ble_eq_true rfl⟩
  · skip
    refine k_iload_n hC 4 dX3_setGoal_4 rfl ?_
    refine k_aload_n hC 5 dX3_setGoal_5 rfl ?_
    refine k_getf hC 6 0 0 dX3_setGoal_6 rfl rfl inlX3 (by decide) wq_1_13 rfl ?_
    refine k_getfN hC 9 1 7 dX3_setGoal_9 rfl rfl inlX1 (by decide) hC.kt.2.2.2.1 rfl ?_
    refine KJ.eqs (st' := .int (nI (plS s)) :: .int p :: []) rfl ?_
    refine k_icmp_le hC 12 25 dX3_setGoal_12 (by decide) (fun h12 => ?_) (fun h12 => ?_)
    · skip
      obtain ⟨b1, b2, hp⟩ := nn_of (m := 0) (by decide) (by omega) (by rw [nI_0]; exact h1) h12
      rw [← hp]
      refine k_aload_n hC 25 dX3_setGoal_25 rfl ?_
      refine k_getf hC 26 0 0 dX3_setGoal_26 rfl rfl inlX3 (by decide) wq_1_13 rfl ?_
      refine k_getfN hC 29 1 8 dX3_setGoal_29 rfl rfl inlX1 (by decide) hC.kt.2.2.2.2.1 rfl ?_
      refine KJ.eqs (st' := .int (nI (goS s)) :: []) rfl ?_
      refine k_istore_n hC 32 2 [(2, .int (nI (goS s))), (0, .ref h), (1, .int (nI (kn p)))] dX3_setGoal_32 rfl (by decide) rfl ?_
      refine k_aload_n hC 33 dX3_setGoal_33 rfl ?_
      refine k_getf hC 34 0 0 dX3_setGoal_34 rfl rfl inlX3 (by decide) wq_1_13 rfl ?_
      refine k_iload_n hC 37 dX3_setGoal_37 rfl ?_
      refine k_putfN hC 38 (ty0 := tyX1) 1 8 ((h, .inr (3, [.ref (a 0), .ref (b 0)])) :: (wSt D a (goTo s (kn p)) g ++ wSt D b s2 g2)) dX3_setGoal_38 rfl rfl inlX1 tyX1_ok nmX1 (by decide) hC.kt.2.2.2.2.1 rfl rfl rfl (Nat.le_of_ble_eq_true rfl) rfl ?_
      refine k_iload_n hC 41 dX3_setGoal_41 rfl ?_
      exact x_iret hC hE 42 ((goTo s (kn p), g), (s2, g2)) dX3_setGoal_42 rfl (⟨kK_0 (fun z => z.elim h1 (fun y => y h12)) id, rfl, rfl, hS⟩) rfl ⟨Nat.zero_le _, Nat.zero_le _⟩
    · skip
      exact x_throw (tx := "the goal is 0 to as many as there are places") hC hE hX 15 (by decide +kernel) wq_8_9 wq_8_10 (by decide +kernel) go_A ng_A ot_A dX3_setGoal_15 dX3_setGoal_18 dX3_setGoal_19 dX3_setGoal_21 dX3_setGoal_24 ⟨by decide, Nat.le_of_ble_eq_true rfl, Nat.le_of_ble_eq_true rfl, Nat.le_of_ble_eq_true rfl⟩ (Or.inl ⟨kK_1 (Or.inr h12), rfl⟩) rfl ⟨Nat.le_of_ble_eq_true rfl, Nat.le_of_ble_eq_true rfl⟩
set_option maxHeartbeats 400000 in
set_option maxRecDepth 100000 in
/-- c_X3_jar -/
theorem c_X3_jar (l : Launch) (hfl : l.stackTraces = false) (D : va_G) (h : Nat) (a b : Nat → Nat) (s s2 : PS) (g g2 : PG) (p0 p1 : Int32) (hS : SR s g) (hW : WF s) : MX l yX3_jar cX3_jar 3 (some .int) 7 102 D [.ref h, .int p0, .int p1] ((h, .inr (3, [.ref (a 0), .ref (b 0)])) :: (wSt D a s g ++ wSt D b s2 g2)) (fun v (u : (PS × PG) × PS × PG) => jarK p0 p1 = 0 ∧ v = some (.int (dtl s (kn p0) (kn p1))) ∧ u.1.1 = s ∧ SR u.1.1 u.1.2) (fun u => (h, .inr (3, [.ref (a 0), .ref (b 0)])) :: (wSt D a u.1.1 u.1.2 ++ wSt D b u.2.1 u.2.2)) (fun E => (jarK p0 p1 = 1 ∧ E = eB) ∨ (jarK p0 p1 = 2 ∧ E = eS)) 2 12 := by
  refine MX.enter hfl (by decide) [(0, .ref h), (1, .int p0), (2, .int p1)] rfl (Nat.le_of_ble_eq_true rfl) (fun G hC hE hX => ?_)
  have hC : CX G D cX3_jar RX3 3 := hC
  refine k_iload_n hC 0 dX3_jar_0 rfl ?_
  refine g_callS hC hX 1 ([]) ((h, .inr (3, [.ref (a 0), .ref (b 0)])) :: (wSt D a s g ++ wSt D b s2 g2)) (fun u => ((h, .inr (3, [.ref (a 0), .ref (b 0)])) :: (wSt D a s g ++ wSt D b s2 g2))) (c_X3_requireKind l hfl D p0) cw_RX3_19 dX3_jar_1 ⟨Nat.le_of_ble_eq_true rfl, Nat.le_of_ble_eq_true rfl, Nat.le_of_ble_eq_true rfl, Nat.le_of_ble_eq_true rfl⟩ rfl (Nat.le_of_ble_eq_true rfl) rfl (fun _ => rfl) (fun _ => rfl) _ rfl (fun v u hp => ?_) (fun E hx => x_out hE (Or.inl ⟨kK_1 (Or.inl hx.2), hx.1⟩) rfl 1 ⟨Nat.le_of_ble_eq_true rfl, Nat.le_of_ble_eq_true rfl⟩)
  obtain ⟨rfl, hk⟩ := hp
  refine KJ.eqs (st' := []) rfl ?_
  obtain ⟨hk40, hp0⟩ := hk.k
  rw [← hp0]
  refine k_iload_n hC 4 dX3_jar_4 rfl ?_
  refine k_if_lt hC 5 13 dX3_jar_5 (by decide) (fun h5 => ?_) (fun h5 => ?_)
  · skip
    exact x_throw (tx := "what is told of a jar is 0 to 4") hC hE hX 13 (by decide +kernel) wq_4_19 wq_4_20 (by decide +kernel) go_B ng_B ot_B dX3_jar_13 dX3_jar_16 dX3_jar_17 dX3_jar_19 dX3_jar_22 ⟨by decide, Nat.le_of_ble_eq_true rfl, Nat.le_of_ble_eq_true rfl, Nat.le_of_ble_eq_true rfl⟩ (Or.inl ⟨kK_1 (Or.inr (Or.inl h5)), rfl⟩) rfl ⟨Nat.le_of_ble_eq_true rfl, Nat.le_of_ble_eq_true rfl⟩
  · skip
    refine k_iload_n hC 8 dX3_jar_8 rfl ?_
    refine k_iconst hC 9 dX3_jar_9 (nI 5) (by decide) ?_
    refine k_icmp_lt hC 10 23 dX3_jar_10 (by decide) (fun h10 => ?_) (fun h10 => ?_)
    · skip
      obtain ⟨b1, b2, hp1⟩ := nn_of (m := 0) (n := 4) (by decide) (by decide) (by rw [nI_0]; exact h5) (lt_le (by decide) h10)
      rw [← hp1]
      refine k_aload_n hC 23 dX3_jar_23 rfl ?_
      refine k_getf hC 24 0 0 dX3_jar_24 rfl rfl inlX3 (by decide) wq_1_13 rfl ?_
      refine k_iload_n hC 27 dX3_jar_27 rfl ?_
      refine k_iload_n hC 28 dX3_jar_28 rfl ?_
      refine f_callV hC 29 1 ((h, .inr (3, [.ref (a 0), .ref (b 0)])) :: []) (wSt D b s2 g2) (fun u => ((h, .inr (3, [.ref (a 0), .ref (b 0)])) :: (wSt D a s g ++ wSt D b s2 g2))) (f_X1_detail l D a s g (kn p0) (kn p1) hS hW hk40 b2) cw_RX3_95 dX3_jar_29 ⟨Nat.le_of_ble_eq_true rfl, Nat.le_of_ble_eq_true rfl, Nat.le_of_ble_eq_true rfl, Nat.le_of_ble_eq_true rfl⟩ rfl (Nat.le_of_ble_eq_true rfl) rfl rfl rfl rfl (fun _ => rfl) (fun _ => rfl) _ rfl (fun v u hp => ?_)
      obtain rfl := hp
      refine KJ.eqs (st' := .int (dtl s (kn p0) (kn p1)) :: []) rfl ?_
      exact x_iret hC hE 32 ((s, g), (s2, g2)) dX3_jar_32 rfl (⟨kK_0 (fun z => z.elim (fun y => y hk) (fun y => y.elim h5 (fun x => x h10))) id, rfl, rfl, hS⟩) rfl ⟨Nat.le_of_ble_eq_true rfl, Nat.le_of_ble_eq_true rfl⟩
    · skip
      exact x_throw (tx := "what is told of a jar is 0 to 4") hC hE hX 13 (by decide +kernel) wq_4_19 wq_4_20 (by decide +kernel) go_B ng_B ot_B dX3_jar_13 dX3_jar_16 dX3_jar_17 dX3_jar_19 dX3_jar_22 ⟨by decide, Nat.le_of_ble_eq_true rfl, Nat.le_of_ble_eq_true rfl, Nat.le_of_ble_eq_true rfl⟩ (Or.inl ⟨kK_1 (Or.inr (Or.inr h10)), rfl⟩) rfl ⟨Nat.le_of_ble_eq_true rfl, Nat.le_of_ble_eq_true rfl⟩
set_option maxHeartbeats 400000 in
set_option maxRecDepth 100000 in
/-- c_X3_shelf -/
theorem c_X3_shelf (l : Launch) (hfl : l.stackTraces = false) (D : va_G) (h : Nat) (a b : Nat → Nat) (s s2 : PS) (g g2 : PG) (p0 p1 : Int32) (hS : SR s g) (hW : WF s) : MX l yX3_shelf cX3_shelf 3 (some .int) 7 104 D [.ref h, .int p0, .int p1] ((h, .inr (3, [.ref (a 0), .ref (b 0)])) :: (wSt D a s g ++ wSt D b s2 g2)) (fun v (u : (PS × PG) × PS × PG) => rowK s.1 s.2.1 p0 p1 = 0 ∧ v = some (.int (rowV s.1 s.2.1 p0 p1)) ∧ u.1.1 = s ∧ SR u.1.1 u.1.2) (fun u => (h, .inr (3, [.ref (a 0), .ref (b 0)])) :: (wSt D a u.1.1 u.1.2 ++ wSt D b u.2.1 u.2.2)) (fun E => (rowK s.1 s.2.1 p0 p1 = 1 ∧ E = eB) ∨ (rowK s.1 s.2.1 p0 p1 = 2 ∧ E = eS)) 2 12 := by
  refine MX.enter hfl (by decide) [(0, .ref h), (1, .int p0), (2, .int p1)] rfl (Nat.le_of_ble_eq_true rfl) (fun G hC hE hX => ?_)
  have hC : CX G D cX3_shelf RX3 3 := hC
  have hS0 := hS
  have hW0 := hW
  obtain ⟨r0, r1, r2, r3, -⟩ := hS0
  obtain ⟨kN, kT, kA, kB, -, len, lA, lB, -⟩ := hW0
  have len0 : s.1.length + s.2.1.length ≤ 12 := len
  have lA0 : s.2.2.1.length ≤ 12 := lA
  have lB0 : s.2.2.2.1.length ≤ 12 := lB
  refine k_iload_n hC 0 dX3_shelf_0 rfl ?_
  refine g_callS hC hX 1 ([]) ((h, .inr (3, [.ref (a 0), .ref (b 0)])) :: (wSt D a s g ++ wSt D b s2 g2)) (fun u => ((h, .inr (3, [.ref (a 0), .ref (b 0)])) :: (wSt D a s g ++ wSt D b s2 g2))) (c_X3_requireShelf l hfl D p0) cw_RX3_98 dX3_shelf_1 ⟨Nat.le_of_ble_eq_true rfl, Nat.le_of_ble_eq_true rfl, Nat.le_of_ble_eq_true rfl, Nat.le_of_ble_eq_true rfl⟩ rfl (Nat.le_of_ble_eq_true rfl) rfl (fun _ => rfl) (fun _ => rfl) _ rfl (fun v u hp => ?_) (fun E hx => x_out hE (Or.inl ⟨kK_1 (Or.inl hx.2), hx.1⟩) rfl 1 ⟨Nat.le_of_ble_eq_true rfl, Nat.le_of_ble_eq_true rfl⟩)
  obtain ⟨rfl, hk⟩ := hp
  refine KJ.eqs (st' := []) rfl ?_
  rcases hk with h0 | h0
  · skip
    have h0 : p0 = nI 0 := h0.trans nI_0.symm
    rw [h0]
    refine k_aload_n hC 4 dX3_shelf_4 rfl ?_
    refine k_getf hC 5 0 0 dX3_shelf_5 rfl rfl inlX3 (by decide) wq_1_13 rfl ?_
    refine k_iload_n hC 8 dX3_shelf_8 rfl ?_
    refine f_callV hC 9 1 ((h, .inr (3, [.ref (a 0), .ref (b 0)])) :: []) (wSt D b s2 g2) (fun u => ((h, .inr (3, [.ref (a 0), .ref (b 0)])) :: (wSt D a s g ++ wSt D b s2 g2))) (f_X1_rowOf0 l D a s g hS hW) cw_RX3_101 dX3_shelf_9 ⟨Nat.le_of_ble_eq_true rfl, Nat.le_of_ble_eq_true rfl, Nat.le_of_ble_eq_true rfl, Nat.le_of_ble_eq_true rfl⟩ rfl (Nat.le_of_ble_eq_true rfl) rfl rfl rfl rfl (fun _ => rfl) (fun _ => rfl) _ rfl (fun v u hp => ?_)
    obtain rfl := hp
    refine KJ.eqs (st' := .ref (a 1) :: []) rfl ?_
    refine k_iload_n hC 12 dX3_shelf_12 rfl ?_
    refine x_callS hC hX 13 [2, 3] (fun u => ((h, .inr (3, [.ref (a 0), .ref (b 0)])) :: (wSt D a s g ++ wSt D b s2 g2))) (c_X3_requireAt l hfl D (a 1) (a 2) s.1 g.1 p1 r0 (by omega) kN) cw_RX3_105 dX3_shelf_13 ⟨Nat.le_of_ble_eq_true rfl, Nat.le_of_ble_eq_true rfl, Nat.le_of_ble_eq_true rfl, Nat.le_of_ble_eq_true rfl⟩ rfl (Nat.le_of_ble_eq_true rfl) (by decide) rfl (fun _ => Nat.le_of_ble_eq_true rfl) (fun _ => rfl) rfl _ rfl (fun v u hp => ?_) (fun E hx => x_out hE (Or.inl ⟨kK_1 (Or.inr (by rw [if_pos (h0.trans nI_0)]; exact hx.2)), hx.1⟩) rfl 13 ⟨Nat.le_of_ble_eq_true rfl, Nat.le_of_ble_eq_true rfl⟩)
    obtain ⟨i, hil, hpi, rfl⟩ := hp
    refine KJ.eqs (st' := .int (nI (s.1.getD i 0)) :: []) rfl ?_
    exact x_iret hC hE 16 ((s, g), (s2, g2)) dX3_shelf_16 rfl (⟨kK_0 (fun z => z.elim (fun y => y (Or.inl (h0.trans nI_0))) (fun y => by rw [if_pos (h0.trans nI_0)] at y; exact y i hil hpi)) id, by rw [rowV, if_pos (h0.trans nI_0), hpi, kn_nI (by omega)], rfl, hS⟩) rfl ⟨Nat.le_of_ble_eq_true rfl, Nat.le_of_ble_eq_true rfl⟩
  · skip
    rw [h0]
    refine k_aload_n hC 4 dX3_shelf_4 rfl ?_
    refine k_getf hC 5 0 0 dX3_shelf_5 rfl rfl inlX3 (by decide) wq_1_13 rfl ?_
    refine k_iload_n hC 8 dX3_shelf_8 rfl ?_
    refine f_callV hC 9 1 ((h, .inr (3, [.ref (a 0), .ref (b 0)])) :: []) (wSt D b s2 g2) (fun u => ((h, .inr (3, [.ref (a 0), .ref (b 0)])) :: (wSt D a s g ++ wSt D b s2 g2))) (f_X1_rowOf1 l D a s g hS hW) cw_RX3_101 dX3_shelf_9 ⟨Nat.le_of_ble_eq_true rfl, Nat.le_of_ble_eq_true rfl, Nat.le_of_ble_eq_true rfl, Nat.le_of_ble_eq_true rfl⟩ rfl (Nat.le_of_ble_eq_true rfl) rfl rfl rfl rfl (fun _ => rfl) (fun _ => rfl) _ rfl (fun v u hp => ?_)
    obtain rfl := hp
    refine KJ.eqs (st' := .ref (a 3) :: []) rfl ?_
    refine k_iload_n hC 12 dX3_shelf_12 rfl ?_
    refine x_callS hC hX 13 [4, 5] (fun u => ((h, .inr (3, [.ref (a 0), .ref (b 0)])) :: (wSt D a s g ++ wSt D b s2 g2))) (c_X3_requireAt l hfl D (a 3) (a 4) s.2.1 g.2.1 p1 r1 (by omega) kT) cw_RX3_105 dX3_shelf_13 ⟨Nat.le_of_ble_eq_true rfl, Nat.le_of_ble_eq_true rfl, Nat.le_of_ble_eq_true rfl, Nat.le_of_ble_eq_true rfl⟩ rfl (Nat.le_of_ble_eq_true rfl) (by decide) rfl (fun _ => Nat.le_of_ble_eq_true rfl) (fun _ => rfl) rfl _ rfl (fun v u hp => ?_) (fun E hx => x_out hE (Or.inl ⟨kK_1 (Or.inr (by rw [if_neg (fun z => absurd (h0.symm.trans z) (by decide))]; exact hx.2)), hx.1⟩) rfl 13 ⟨Nat.le_of_ble_eq_true rfl, Nat.le_of_ble_eq_true rfl⟩)
    obtain ⟨i, hil, hpi, rfl⟩ := hp
    refine KJ.eqs (st' := .int (nI (s.2.1.getD i 0)) :: []) rfl ?_
    exact x_iret hC hE 16 ((s, g), (s2, g2)) dX3_shelf_16 rfl (⟨kK_0 (fun z => z.elim (fun y => y (Or.inr h0)) (fun y => by rw [if_neg (fun z => absurd (h0.symm.trans z) (by decide))] at y; exact y i hil hpi)) id, by rw [rowV, if_neg (fun z => absurd (h0.symm.trans z) (by decide)), hpi, kn_nI (by omega)], rfl, hS⟩) rfl ⟨Nat.le_of_ble_eq_true rfl, Nat.le_of_ble_eq_true rfl⟩
set_option maxHeartbeats 400000 in
set_option maxRecDepth 100000 in
/-- c_X3_ghost -/
theorem c_X3_ghost (l : Launch) (hfl : l.stackTraces = false) (D : va_G) (h : Nat) (a b : Nat → Nat) (s s2 : PS) (g g2 : PG) (p0 p1 : Int32) (hS : SR s g) (hW : WF s) : MX l yX3_ghost cX3_ghost 3 (some .int) 7 104 D [.ref h, .int p0, .int p1] ((h, .inr (3, [.ref (a 0), .ref (b 0)])) :: (wSt D a s g ++ wSt D b s2 g2)) (fun v (u : (PS × PG) × PS × PG) => rowK s.2.2.1 s.2.2.2.1 p0 p1 = 0 ∧ v = some (.int (rowV s.2.2.1 s.2.2.2.1 p0 p1)) ∧ u.1.1 = s ∧ SR u.1.1 u.1.2) (fun u => (h, .inr (3, [.ref (a 0), .ref (b 0)])) :: (wSt D a u.1.1 u.1.2 ++ wSt D b u.2.1 u.2.2)) (fun E => (rowK s.2.2.1 s.2.2.2.1 p0 p1 = 1 ∧ E = eB) ∨ (rowK s.2.2.1 s.2.2.2.1 p0 p1 = 2 ∧ E = eS)) 2 12 := by
  refine MX.enter hfl (by decide) [(0, .ref h), (1, .int p0), (2, .int p1)] rfl (Nat.le_of_ble_eq_true rfl) (fun G hC hE hX => ?_)
  have hC : CX G D cX3_ghost RX3 3 := hC
  have hS0 := hS
  have hW0 := hW
  obtain ⟨r0, r1, r2, r3, -⟩ := hS0
  obtain ⟨kN, kT, kA, kB, -, len, lA, lB, -⟩ := hW0
  have len0 : s.1.length + s.2.1.length ≤ 12 := len
  have lA0 : s.2.2.1.length ≤ 12 := lA
  have lB0 : s.2.2.2.1.length ≤ 12 := lB
  refine k_iload_n hC 0 dX3_ghost_0 rfl ?_
  refine g_callS hC hX 1 ([]) ((h, .inr (3, [.ref (a 0), .ref (b 0)])) :: (wSt D a s g ++ wSt D b s2 g2)) (fun u => ((h, .inr (3, [.ref (a 0), .ref (b 0)])) :: (wSt D a s g ++ wSt D b s2 g2))) (c_X3_requireShelf l hfl D p0) cw_RX3_98 dX3_ghost_1 ⟨Nat.le_of_ble_eq_true rfl, Nat.le_of_ble_eq_true rfl, Nat.le_of_ble_eq_true rfl, Nat.le_of_ble_eq_true rfl⟩ rfl (Nat.le_of_ble_eq_true rfl) rfl (fun _ => rfl) (fun _ => rfl) _ rfl (fun v u hp => ?_) (fun E hx => x_out hE (Or.inl ⟨kK_1 (Or.inl hx.2), hx.1⟩) rfl 1 ⟨Nat.le_of_ble_eq_true rfl, Nat.le_of_ble_eq_true rfl⟩)
  obtain ⟨rfl, hk⟩ := hp
  refine KJ.eqs (st' := []) rfl ?_
  rcases hk with h0 | h0
  · skip
    have h0 : p0 = nI 0 := h0.trans nI_0.symm
    rw [h0]
    refine k_aload_n hC 4 dX3_ghost_4 rfl ?_
    refine k_getf hC 5 0 0 dX3_ghost_5 rfl rfl inlX3 (by decide) wq_1_13 rfl ?_
    refine k_iload_n hC 8 dX3_ghost_8 rfl ?_
    refine f_callV hC 9 1 ((h, .inr (3, [.ref (a 0), .ref (b 0)])) :: []) (wSt D b s2 g2) (fun u => ((h, .inr (3, [.ref (a 0), .ref (b 0)])) :: (wSt D a s g ++ wSt D b s2 g2))) (f_X1_listOf0 l D a s g hS hW) cw_RX3_109 dX3_ghost_9 ⟨Nat.le_of_ble_eq_true rfl, Nat.le_of_ble_eq_true rfl, Nat.le_of_ble_eq_true rfl, Nat.le_of_ble_eq_true rfl⟩ rfl (Nat.le_of_ble_eq_true rfl) rfl rfl rfl rfl (fun _ => rfl) (fun _ => rfl) _ rfl (fun v u hp => ?_)
    obtain rfl := hp
    refine KJ.eqs (st' := .ref (a 5) :: []) rfl ?_
    refine k_iload_n hC 12 dX3_ghost_12 rfl ?_
    refine x_callS hC hX 13 [6, 7] (fun u => ((h, .inr (3, [.ref (a 0), .ref (b 0)])) :: (wSt D a s g ++ wSt D b s2 g2))) (c_X3_requireAt l hfl D (a 5) (a 6) s.2.2.1 g.2.2.1 p1 r2 (by omega) kA) cw_RX3_105 dX3_ghost_13 ⟨Nat.le_of_ble_eq_true rfl, Nat.le_of_ble_eq_true rfl, Nat.le_of_ble_eq_true rfl, Nat.le_of_ble_eq_true rfl⟩ rfl (Nat.le_of_ble_eq_true rfl) (by decide) rfl (fun _ => Nat.le_of_ble_eq_true rfl) (fun _ => rfl) rfl _ rfl (fun v u hp => ?_) (fun E hx => x_out hE (Or.inl ⟨kK_1 (Or.inr (by rw [if_pos (h0.trans nI_0)]; exact hx.2)), hx.1⟩) rfl 13 ⟨Nat.le_of_ble_eq_true rfl, Nat.le_of_ble_eq_true rfl⟩)
    obtain ⟨i, hil, hpi, rfl⟩ := hp
    refine KJ.eqs (st' := .int (nI (s.2.2.1.getD i 0)) :: []) rfl ?_
    exact x_iret hC hE 16 ((s, g), (s2, g2)) dX3_ghost_16 rfl (⟨kK_0 (fun z => z.elim (fun y => y (Or.inl (h0.trans nI_0))) (fun y => by rw [if_pos (h0.trans nI_0)] at y; exact y i hil hpi)) id, by rw [rowV, if_pos (h0.trans nI_0), hpi, kn_nI (by omega)], rfl, hS⟩) rfl ⟨Nat.le_of_ble_eq_true rfl, Nat.le_of_ble_eq_true rfl⟩
  · skip
    rw [h0]
    refine k_aload_n hC 4 dX3_ghost_4 rfl ?_
    refine k_getf hC 5 0 0 dX3_ghost_5 rfl rfl inlX3 (by decide) wq_1_13 rfl ?_
    refine k_iload_n hC 8 dX3_ghost_8 rfl ?_
    refine f_callV hC 9 1 ((h, .inr (3, [.ref (a 0), .ref (b 0)])) :: []) (wSt D b s2 g2) (fun u => ((h, .inr (3, [.ref (a 0), .ref (b 0)])) :: (wSt D a s g ++ wSt D b s2 g2))) (f_X1_listOf1 l D a s g hS hW) cw_RX3_109 dX3_ghost_9 ⟨Nat.le_of_ble_eq_true rfl, Nat.le_of_ble_eq_true rfl, Nat.le_of_ble_eq_true rfl, Nat.le_of_ble_eq_true rfl⟩ rfl (Nat.le_of_ble_eq_true rfl) rfl rfl rfl rfl (fun _ => rfl) (fun _ => rfl) _ rfl (fun v u hp => ?_)
    obtain rfl := hp
    refine KJ.eqs (st' := .ref (a 7) :: []) rfl ?_
    refine k_iload_n hC 12 dX3_ghost_12 rfl ?_
    refine x_callS hC hX 13 [8, 9] (fun u => ((h, .inr (3, [.ref (a 0), .ref (b 0)])) :: (wSt D a s g ++ wSt D b s2 g2))) (c_X3_requireAt l hfl D (a 7) (a 8) s.2.2.2.1 g.2.2.2.1 p1 r3 (by omega) kB) cw_RX3_105 dX3_ghost_13 ⟨Nat.le_of_ble_eq_true rfl, Nat.le_of_ble_eq_true rfl, Nat.le_of_ble_eq_true rfl, Nat.le_of_ble_eq_true rfl⟩ rfl (Nat.le_of_ble_eq_true rfl) (by decide) rfl (fun _ => Nat.le_of_ble_eq_true rfl) (fun _ => rfl) rfl _ rfl (fun v u hp => ?_) (fun E hx => x_out hE (Or.inl ⟨kK_1 (Or.inr (by rw [if_neg (fun z => absurd (h0.symm.trans z) (by decide))]; exact hx.2)), hx.1⟩) rfl 13 ⟨Nat.le_of_ble_eq_true rfl, Nat.le_of_ble_eq_true rfl⟩)
    obtain ⟨i, hil, hpi, rfl⟩ := hp
    refine KJ.eqs (st' := .int (nI (s.2.2.2.1.getD i 0)) :: []) rfl ?_
    exact x_iret hC hE 16 ((s, g), (s2, g2)) dX3_ghost_16 rfl (⟨kK_0 (fun z => z.elim (fun y => y (Or.inr h0)) (fun y => by rw [if_neg (fun z => absurd (h0.symm.trans z) (by decide))] at y; exact y i hil hpi)) id, by rw [rowV, if_neg (fun z => absurd (h0.symm.trans z) (by decide)), hpi, kn_nI (by omega)], rfl, hS⟩) rfl ⟨Nat.le_of_ble_eq_true rfl, Nat.le_of_ble_eq_true rfl⟩
set_option maxHeartbeats 400000 in
set_option maxRecDepth 100000 in
/-- c_X3_count -/
theorem c_X3_count (l : Launch) (hfl : l.stackTraces = false) (D : va_G) (h : Nat) (a b : Nat → Nat) (s s2 : PS) (g g2 : PG) (p : Int32) (hS : SR s g) (hW : WF s) : MX l yX3_count cX3_count 2 (some .int) 6 85 D [.ref h, .int p] ((h, .inr (3, [.ref (a 0), .ref (b 0)])) :: (wSt D a s g ++ wSt D b s2 g2)) (fun v (u : (PS × PG) × PS × PG) => countK p = 0 ∧ v = some (.int (ct s (kn p))) ∧ u.1.1 = s ∧ SR u.1.1 u.1.2) (fun u => (h, .inr (3, [.ref (a 0), .ref (b 0)])) :: (wSt D a u.1.1 u.1.2 ++ wSt D b u.2.1 u.2.2)) (fun E => (countK p = 1 ∧ E = eB) ∨ (countK p = 2 ∧ E = eS)) 1 6 := by
  refine MX.enter hfl (by decide) [(0, .ref h), (1, .int p)] rfl (Nat.le_of_ble_eq_true rfl) (fun G hC hE hX => ?_)
  have hC : CX G D cX3_count RX3 2 := hC
  refine k_iload_n hC 0 dX3_count_0 rfl ?_
  refine k_if_lt hC 1 10 dX3_count_1 (by decide) (fun h1 => ?_) (fun h1 => ?_)
  · skip
    exact x_throw (tx := "what is counted is 0 to 10") hC hE hX 10 (by decide +kernel) wq_4_19 wq_4_20 (by decide +kernel) go_B ng_B ot_B dX3_count_10 dX3_count_13 dX3_count_14 dX3_count_16 dX3_count_19 ⟨by decide, Nat.le_of_ble_eq_true rfl, Nat.le_of_ble_eq_true rfl, Nat.le_of_ble_eq_true rfl⟩ (Or.inl ⟨kK_1 (Or.inl h1), rfl⟩) rfl ⟨Nat.le_of_ble_eq_true rfl, Nat.le_of_ble_eq_true rfl⟩
  · skip
    refine k_iload_n hC 4 dX3_count_4 rfl ?_
    refine k_bipush hC 5 dX3_count_5 (nI 11) (by decide) ?_
    refine k_icmp_lt hC 7 20 dX3_count_7 (by decide) (fun h7 => ?_) (fun h7 => ?_)
    · skip
      obtain ⟨b1, b2, hp⟩ := nn_of (m := 0) (n := 10) (by decide) (by decide) (by rw [nI_0]; exact h1) (lt_le (by decide) h7)
      rw [← hp]
      refine k_aload_n hC 20 dX3_count_20 rfl ?_
      refine k_getf hC 21 0 0 dX3_count_21 rfl rfl inlX3 (by decide) wq_1_13 rfl ?_
      refine k_iload_n hC 24 dX3_count_24 rfl ?_
      refine f_callV hC 25 1 ((h, .inr (3, [.ref (a 0), .ref (b 0)])) :: []) (wSt D b s2 g2) (fun u => ((h, .inr (3, [.ref (a 0), .ref (b 0)])) :: (wSt D a s g ++ wSt D b s2 g2))) (f_X1_tally l D a s g (kn p) hS hW b2) cw_RX3_114 dX3_count_25 ⟨Nat.le_of_ble_eq_true rfl, Nat.le_of_ble_eq_true rfl, Nat.le_of_ble_eq_true rfl, Nat.le_of_ble_eq_true rfl⟩ rfl (Nat.le_of_ble_eq_true rfl) rfl rfl rfl rfl (fun _ => rfl) (fun _ => rfl) _ rfl (fun v u hp => ?_)
      obtain rfl := hp
      refine KJ.eqs (st' := .int (ct s (kn p)) :: []) rfl ?_
      exact x_iret hC hE 28 ((s, g), (s2, g2)) dX3_count_28 rfl (⟨kK_0 (fun z => z.elim h1 (fun y => y h7)) id, rfl, rfl, hS⟩) rfl ⟨Nat.zero_le _, Nat.zero_le _⟩
    · skip
      exact x_throw (tx := "what is counted is 0 to 10") hC hE hX 10 (by decide +kernel) wq_4_19 wq_4_20 (by decide +kernel) go_B ng_B ot_B dX3_count_10 dX3_count_13 dX3_count_14 dX3_count_16 dX3_count_19 ⟨by decide, Nat.le_of_ble_eq_true rfl, Nat.le_of_ble_eq_true rfl, Nat.le_of_ble_eq_true rfl⟩ (Or.inl ⟨kK_1 (Or.inr h7), rfl⟩) rfl ⟨Nat.le_of_ble_eq_true rfl, Nat.le_of_ble_eq_true rfl⟩
set_option maxHeartbeats 400000 in
set_option maxRecDepth 100000 in
/-- next -/
theorem c_X3_next (l : Launch) (D : va_G) (h : Nat) (a b : Nat → Nat) (s s2 : PS) (g g2 : PG) (hS : SR s g) (hW : WF s) : MU l yX3_next cX3_next 1 (some .int) 4 91 D [.ref h] ((h, .inr (3, [.ref (a 0), .ref (b 0)])) :: (wSt D a s g ++ wSt D b s2 g2)) (fun v (u : PS × PG) => v = some (.int (nextV s))) (fun u => (h, .inr (3, [.ref (a 0), .ref (b 0)])) :: (wSt D a s g ++ wSt D b u.1 u.2)) 0 0 := by
  refine MU.enter (by decide) [(0, .ref h)] rfl (Nat.le_of_ble_eq_true rfl) (fun G hC hE => ?_)
  have hC : CX G D cX3_next RX3 1 := hC
  refine k_aload_n hC 0 dX3_next_0 rfl ?_
  refine k_getf hC 1 0 1 dX3_next_1 rfl rfl inlX3 (by decide) wq_1_14 rfl ?_
  refine k_aload_n hC 4 dX3_next_4 rfl ?_
  refine k_getf hC 5 0 0 dX3_next_5 rfl rfl inlX3 (by decide) wq_1_13 rfl ?_
  refine f_callV2 hC 8 16 ((h, .inr (3, [.ref (a 0), .ref (b 0)])) :: []) (wSt D a s g) (wSt D b s2 g2) (fun (z : PG) => wSt D b s z) (fun (z : PG) => ((h, .inr (3, [.ref (a 0), .ref (b 0)])) :: (wSt D a s g ++ wSt D b s z))) (f_X1_become l D b s2 g2 a s g hS hW) cw_RX3_117 dX3_next_8 ⟨Nat.le_of_ble_eq_true rfl, Nat.le_of_ble_eq_true rfl, Nat.le_of_ble_eq_true rfl, Nat.le_of_ble_eq_true rfl⟩ rfl (Nat.le_of_ble_eq_true rfl) rfl rfl rfl rfl (fun _ => rfl) (fun _ => rfl) _ rfl (fun v (z : PG) hp => ?_)
  obtain ⟨rfl, hz⟩ := hp
  refine KJ.eqs (st' := []) rfl ?_
  refine k_aload_n hC 11 dX3_next_11 rfl ?_
  refine k_getf hC 12 0 1 dX3_next_12 rfl rfl inlX3 (by decide) wq_1_14 rfl ?_
  by_cases hj : pnd s < jrs s
  · skip
    refine f_callV hC 15 16 ((h, .inr (3, [.ref (a 0), .ref (b 0)])) :: wSt D a s g) ([]) (fun u => ((h, .inr (3, [.ref (a 0), .ref (b 0)])) :: (wSt D a s g ++ wSt D b u.1 u.2))) (f_X1_sweep l D b s z hz hW hj) cw_RX3_121 dX3_next_15 ⟨Nat.le_of_ble_eq_true rfl, Nat.le_of_ble_eq_true rfl, Nat.le_of_ble_eq_true rfl, Nat.le_of_ble_eq_true rfl⟩ rfl (Nat.le_of_ble_eq_true rfl) rfl rfl rfl (List.append_nil _).symm (fun _ => rfl) (fun _ => List.append_nil _) _ rfl (fun v u hp => ?_)
    obtain ⟨hv, eu, hSu⟩ := hp
    obtain rfl : v = some (.int (nextV s)) := hv.trans (by rw [nextV, if_pos hj])
    refine KJ.eqs (st' := .int (nextV s) :: []) rfl ?_
    exact k_iret hC hE 18 (u.1, u.2) dX3_next_18 rfl rfl rfl ⟨Nat.zero_le _, Nat.zero_le _⟩
  · skip
    refine f_callV hC 15 16 ((h, .inr (3, [.ref (a 0), .ref (b 0)])) :: wSt D a s g) ([]) (fun u => ((h, .inr (3, [.ref (a 0), .ref (b 0)])) :: (wSt D a s g ++ wSt D b u.1 u.2))) (f_X1_sweep_no l D b s z hz hW hj) cw_RX3_121 dX3_next_15 ⟨Nat.le_of_ble_eq_true rfl, Nat.le_of_ble_eq_true rfl, Nat.le_of_ble_eq_true rfl, Nat.le_of_ble_eq_true rfl⟩ rfl (Nat.le_of_ble_eq_true rfl) rfl rfl rfl (List.append_nil _).symm (fun _ => rfl) (fun _ => List.append_nil _) _ rfl (fun v u hp => ?_)
    obtain ⟨hv, eu, hSu⟩ := hp
    obtain rfl : v = some (.int (nextV s)) := hv.trans (by rw [nextV, if_neg hj])
    refine KJ.eqs (st' := .int (nextV s) :: []) rfl ?_
    exact k_iret hC hE 18 (u.1, u.2) dX3_next_18 rfl rfl rfl ⟨Nat.zero_le _, Nat.zero_le _⟩
def dgN (s : PS) (i : Nat) : Int64 := (List.range i).foldl (fun d n => d * 31 + (ct s n).toInt64) 1541
theorem dgN_s (s : PS) (i : Nat) : dgN s i * 31 + (ct s i).toInt64 = dgN s (i + 1) := by
  unfold dgN
  rw [List.range_succ, List.foldl_append]
  rfl
def dgA (s : PS) (d : Int64) (L : List Nat) : Int64 := djs s.2.2.2.2.1 s.2.2.2.2.2.1 s.2.2.2.2.2.2.1 d L
set_option maxHeartbeats 400000 in
set_option maxRecDepth 100000 in
/-- mean -/
theorem c_X3_mean (l : Launch) (D : va_G) (h : Nat) (a b : Nat → Nat) (s s2 : PS) (g g2 : PG) (hS : SR s g) (hW : WF s) (hN : ∀ (x : Int32) (j : Nat), 1 ≤ j → j ≤ 12 → vf_n64 (FP.ddiv (FP.i2d x) (FP.i2d (nI j)))) : MU l yX3_mean cX3_mean 2 (some .double) 4 86 D [.ref h] ((h, .inr (3, [.ref (a 0), .ref (b 0)])) :: (wSt D a s g ++ wSt D b s2 g2)) (fun v (_ : Unit) => v = some (.double (meanV s))) (fun _ => ((h, .inr (3, [.ref (a 0), .ref (b 0)])) :: (wSt D a s g ++ wSt D b s2 g2))) 0 0 := by
  refine MU.enter (by decide) [(0, .ref h)] rfl (Nat.le_of_ble_eq_true rfl) (fun G hC hE => ?_)
  have hC : CX G D cX3_mean RX3 2 := hC
  have j12 := jrs_12 hW
  refine k_aload_n hC 0 dX3_mean_0 rfl ?_
  refine k_getf hC 1 0 0 dX3_mean_1 rfl rfl inlX3 (by decide) wq_1_13 rfl ?_
  refine f_callV hC 4 1 ((h, .inr (3, [.ref (a 0), .ref (b 0)])) :: []) (wSt D b s2 g2) (fun u => ((h, .inr (3, [.ref (a 0), .ref (b 0)])) :: (wSt D a s g ++ wSt D b s2 g2))) (f_X1_jars l D a s g hS hW) cw_RX3_132 dX3_mean_4 ⟨Nat.le_of_ble_eq_true rfl, Nat.le_of_ble_eq_true rfl, Nat.le_of_ble_eq_true rfl, Nat.le_of_ble_eq_true rfl⟩ rfl (Nat.le_of_ble_eq_true rfl) rfl rfl rfl rfl (fun _ => rfl) (fun _ => rfl) _ rfl (fun v u hp => ?_)
  obtain rfl := hp
  refine KJ.eqs (st' := .int (nI (jrs s)) :: []) rfl ?_
  refine k_istore_n hC 7 1 [(1, .int (nI (jrs s))), (0, .ref h)] dX3_mean_7 rfl (by decide) rfl ?_
  refine k_iload_n hC 8 dX3_mean_8 rfl ?_
  refine k_iconst hC 9 dX3_mean_9 (nI 1) (by decide) ?_
  refine n_icmp_ge hC 10 17 dX3_mean_10 (by decide) (by omega) (by omega) (fun h10 => ?_) (fun h10 => ?_)
  · skip
    refine k_aload_n hC 17 dX3_mean_17 rfl ?_
    refine k_getf hC 18 0 0 dX3_mean_18 rfl rfl inlX3 (by decide) wq_1_13 rfl ?_
    refine f_callV hC 21 1 ((h, .inr (3, [.ref (a 0), .ref (b 0)])) :: []) (wSt D b s2 g2) (fun u => ((h, .inr (3, [.ref (a 0), .ref (b 0)])) :: (wSt D a s g ++ wSt D b s2 g2))) (f_X1_fetchesOfAll l D a s g hS hW) cw_RX3_135 dX3_mean_21 ⟨Nat.le_of_ble_eq_true rfl, Nat.le_of_ble_eq_true rfl, Nat.le_of_ble_eq_true rfl, Nat.le_of_ble_eq_true rfl⟩ rfl (Nat.le_of_ble_eq_true rfl) rfl rfl rfl rfl (fun _ => rfl) (fun _ => rfl) _ rfl (fun v u hp => ?_)
    obtain rfl := hp
    refine KJ.eqs (st' := .int (fsm s.1 s.2.1 s.2.2.2.2.2.2.1 40) :: []) rfl ?_
    refine k_i2d hC 24 dX3_mean_24 ?_
    refine k_iload_n hC 25 dX3_mean_25 rfl ?_
    refine k_i2d hC 26 dX3_mean_26 ?_
    refine k_ddiv hC 27 dX3_mean_27 (hN _ _ h10 (by omega)) ?_
    exact k_dret hC hE 28 () dX3_mean_28 (by rw [meanV, if_neg (by omega)]) rfl ⟨Nat.zero_le _, Nat.zero_le _⟩
  · skip
    refine k_dconst0 hC 13 dX3_mean_13 ?_
    refine k_goto hC 14 28 dX3_mean_14 (by decide) ?_
    exact k_dret hC hE 28 () dX3_mean_28 (by rw [meanV, if_pos (by omega)]) rfl ⟨Nat.zero_le _, Nat.zero_le _⟩
set_option maxHeartbeats 400000 in
set_option maxRecDepth 100000 in
/-- PinnedPantry() -/
theorem c_X3_init (l : Launch) (D : va_G) (h : Nat)  : MU l yX3_init cX3_init 1 none 3 52 D [.ref h] [(h, .inr (3, [.null, .null]))] (fun v (u : (Nat → Nat) × (Nat → Nat)) => v = none) (fun u => (h, .inr (3, [.ref (u.1 0), .ref (u.2 0)])) :: (wSt D u.1 initS zeroG ++ wSt D u.2 initS zeroG)) 30 608 := by
  refine MU.enter (by decide) [(0, .ref h)] rfl (Nat.le_of_ble_eq_true rfl) (fun G hC hE => ?_)
  have hC : CX G D cX3_init RX3 1 := hC
  refine k_aload_n hC 0 dX3_init_0 rfl ?_
  refine k_objInit hC 1 dX3_init_1 wq_1_7 wq_1_8 wq_1_9 ⟨Nat.le_of_ble_eq_true rfl, Nat.le_of_ble_eq_true rfl⟩ ?_
  refine k_aload_n hC 4 dX3_init_4 rfl ?_
  refine k_new hC 5 1 [.null, .null, .null, .null, .null, .null, .null, .int 0, .int 0, .int 0, .int 0, .int 0, .int 0] dX3_init_5 rfl inlX1 tyX1_ok wq_1_10 wq_1_11 wq_1_12 (fun j hj => by rcases (show j = 0 ∨ j = 1 ∨ j = 2 ∨ j = 3 ∨ j = 4 ∨ j = 5 ∨ j = 6 ∨ j = 7 ∨ j = 8 ∨ j = 9 ∨ j = 10 ∨ j = 11 ∨ j = 12 by omega) with rfl | rfl | rfl | rfl | rfl | rfl | rfl | rfl | rfl | rfl | rfl | rfl | rfl <;> rfl) ⟨Nat.le_of_ble_eq_true rfl, Nat.le_of_ble_eq_true rfl⟩ (fun q5 => ?_)
  refine KJ.eqw (ws' := [(h, .inr (3, [.null, .null])), (q5, .inr (1, [.null, .null, .null, .null, .null, .null, .null, .int 0, .int 0, .int 0, .int 0, .int 0, .int 0]))]) rfl ?_
  refine k_dup hC 8 dX3_init_8 rfl ?_
  refine f_callIe hC 9 ((h, .inr (3, [.null, .null])) :: []) (fun u1 => ((h, .inr (3, [.null, .null])) :: wSt D u1 initS zeroG)) (c_X1_init l D q5) cw_RX3_9 dX3_init_9 ⟨Nat.le_of_ble_eq_true rfl, Nat.le_of_ble_eq_true rfl, Nat.le_of_ble_eq_true rfl, Nat.le_of_ble_eq_true rfl⟩ rfl (Nat.le_of_ble_eq_true rfl) (List.append_nil _).symm (fun _ => Nat.le_of_ble_eq_true rfl) (fun _ => List.append_nil _) _ rfl (fun v u1 hp => ?_)
  obtain ⟨rfl, rfl⟩ := hp
  refine KJ.eqs (st' := .ref (u1 0) :: .ref h :: []) rfl ?_
  refine k_putfF hC 12 (ty0 := tyX3) 0 0 ((h, .inr (3, [.ref (u1 0), .null])) :: wSt D u1 initS zeroG) dX3_init_12 rfl rfl inlX3 tyX3_ok nmX3 (by decide) wq_1_13 rfl hE.2.2.2.2 rfl rfl rfl (Nat.le_of_ble_eq_true rfl) rfl ?_
  refine k_aload_n hC 15 dX3_init_15 rfl ?_
  refine k_new hC 16 1 [.null, .null, .null, .null, .null, .null, .null, .int 0, .int 0, .int 0, .int 0, .int 0, .int 0] dX3_init_16 rfl inlX1 tyX1_ok wq_1_10 wq_1_11 wq_1_12 (fun j hj => by rcases (show j = 0 ∨ j = 1 ∨ j = 2 ∨ j = 3 ∨ j = 4 ∨ j = 5 ∨ j = 6 ∨ j = 7 ∨ j = 8 ∨ j = 9 ∨ j = 10 ∨ j = 11 ∨ j = 12 by omega) with rfl | rfl | rfl | rfl | rfl | rfl | rfl | rfl | rfl | rfl | rfl | rfl | rfl <;> rfl) ⟨Nat.le_of_ble_eq_true rfl, Nat.le_of_ble_eq_true rfl⟩ (fun q16 => ?_)
  refine KJ.eqw (ws' := ((h, .inr (3, [.ref (u1 0), .null])) :: (wSt D u1 initS zeroG ++ ((q16, .inr (1, [.null, .null, .null, .null, .null, .null, .null, .int 0, .int 0, .int 0, .int 0, .int 0, .int 0])) :: [])))) rfl ?_
  refine k_dup hC 19 dX3_init_19 rfl ?_
  refine f_callIe hC 20 ((h, .inr (3, [.ref (u1 0), .null])) :: wSt D u1 initS zeroG) (fun u2 => ((h, .inr (3, [.ref (u1 0), .null])) :: (wSt D u1 initS zeroG ++ wSt D u2 initS zeroG))) (c_X1_init l D q16) cw_RX3_9 dX3_init_20 ⟨Nat.le_of_ble_eq_true rfl, Nat.le_of_ble_eq_true rfl, Nat.le_of_ble_eq_true rfl, Nat.le_of_ble_eq_true rfl⟩ rfl (Nat.le_of_ble_eq_true rfl) (List.append_nil _).symm (fun _ => Nat.le_of_ble_eq_true rfl) (fun _ => List.append_nil _) _ rfl (fun v u2 hp => ?_)
  obtain ⟨rfl, rfl⟩ := hp
  refine KJ.eqs (st' := .ref (u2 0) :: .ref h :: []) rfl ?_
  refine k_putfF hC 23 (ty0 := tyX3) 0 1 ((h, .inr (3, [.ref (u1 0), .ref (u2 0)])) :: (wSt D u1 initS zeroG ++ wSt D u2 initS zeroG)) dX3_init_23 rfl rfl inlX3 tyX3_ok nmX3 (by decide) wq_1_14 rfl hE.2.2.2.2 rfl rfl rfl (Nat.le_of_ble_eq_true rfl) rfl ?_
  exact k_vret hC hE 26 (u1, u2) dX3_init_26 rfl rfl ⟨Nat.le_of_ble_eq_true rfl, Nat.le_of_ble_eq_true rfl⟩
