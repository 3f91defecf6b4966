/-! The law: rows with one more, with one less -/
set_option maxHeartbeats 400000 in
set_option maxRecDepth 100000 in
/-- with, jars -/
theorem c_L_with (l : Launch) (D : va_G) (a n : Nat) (F : Nat → Option Nat) (b : Nat) (fs : List Value) (L : List Nat) (f : Nat → va_E) (hn : n ≤ 12) (hF : ∀ i : Nat, i < n → ∃ (v : Nat) (fs : List Value), F i = some v ∧ v ∈ L ∧ f v = .inr (4, fs)) (hb : b ∈ L) (hbf : f b = .inr (4, fs)) : MU l yL_with cL_with 4 (some (.array (.object "PinnedPantryLaw$Jar"))) 0 0 D [.ref a, .ref b] ((a, .inl (D.1 22, n, qv F)) :: va_pl L f) (fun v (u : Nat) => v = some (.ref u)) (fun u => ((a, .inl (D.1 22, n, qv F)) :: ((u, .inl (D.1 22, n + 1, qv (va_up (fillq F n) n (some b)))) :: va_pl L f))) 1 13 := by
  refine MU.enter (by decide) [(0, .ref a), (1, .ref b)] rfl (Nat.le_of_ble_eq_true rfl) (fun G hC hE => ?_)
  have hC : CX G D cL_with RL 4 := hC
  refine k_aload_n hC 0 dL_with_0 rfl ?_
  refine k_alen hC 1 0 2 (nI n) dL_with_1 rfl rfl rfl ?_
  refine k_iconst hC 2 dL_with_2 (nI 1) (by decide) ?_
  refine n_iadd hC 3 (n + 1) dL_with_3 rfl ?_
  refine k_anewJ hC 4 (n + 1) dL_with_4 wq_6_9 (by omega) (by omega) ⟨(Nat.le_of_ble_eq_true rfl), (show 0 + (n + 1) ≤ 13 by omega)⟩ (fun q4 => ?_)
  refine KJ.eqw (ws' := ((a, .inl (D.1 22, n, qv F)) :: (va_pl L f ++ ((q4, .inl (D.1 22, n + 1, qv (fun _ => none))) :: [])))) rfl ?_
  refine KJ.mv ((a, .inl (D.1 22, n, qv F)) :: []) (va_pl L f) (q4, .inl (D.1 22, n + 1, qv (fun _ => none))) rfl rfl (ws' := ((a, .inl (D.1 22, n, qv F)) :: ((q4, .inl (D.1 22, n + 1, qv (fun _ => none))) :: va_pl L f))) ?_
  refine k_astore_n hC 7 2 [(2, .ref q4), (0, .ref a), (1, .ref b)] dL_with_7 rfl (by decide) rfl ?_
  refine k_iconst hC 8 dL_with_8 (nI 0) (by decide) ?_
  refine k_istore_n hC 9 3 [(3, .int (nI 0)), (2, .ref q4), (0, .ref a), (1, .ref b)] dL_with_9 rfl (by decide) rfl ?_
  refine KJ.eqw (ws' := ((a, .inl (D.1 22, n, qv F)) :: ((q4, .inl (D.1 22, n + 1, qv (fillq F 0))) :: va_pl L f))) (by rw [← fillq_0 F]) ?_
  have loop10 : ∀ (n10 : Nat) (i : Nat), n - i < n10 → i ≤ n → KJ l G D ({ frames := 0, cells := 1, slots := 13, locals := 0 } : Room) 4 1 (0 + (n + 1)) ((a, .inl (D.1 22, n, qv F)) :: ((q4, .inl (D.1 22, n + 1, qv (fillq F i))) :: va_pl L f)) [(3, .int (nI i)), (2, .ref q4), (0, .ref a), (1, .ref b)] 10 [] := by
    intro n10
    induction n10 with
    | zero => intro i h; exact absurd h (Nat.not_lt_zero _)
    | succ n10 ih10 =>
      intro i hn10 hi
      refine k_iload_n hC 10 dL_with_10 rfl ?_
      refine k_aload_n hC 11 dL_with_11 rfl ?_
      refine k_alen hC 12 0 2 (nI n) dL_with_12 rfl rfl rfl ?_
      refine n_icmp_ge hC 13 28 dL_with_13 (by decide) (by omega) (by omega) (fun h13 => ?_) (fun h13 => ?_)
      · skip
        have hin : n = i := by omega
        subst hin
        refine k_aload_n hC 28 dL_with_28 rfl ?_
        refine k_aload_n hC 29 dL_with_29 rfl ?_
        refine k_alen hC 30 0 2 (nI n) dL_with_30 rfl rfl rfl ?_
        refine k_aload_n hC 31 dL_with_31 rfl ?_
        refine k_astJ hC 32 1 n ((a, .inl (D.1 22, n, qv F)) :: ((q4, .inl (D.1 22, n + 1, qv (va_up (fillq F n) n (some b)))) :: va_pl L f)) dL_with_32 rfl (List.mem_cons_of_mem _ (List.mem_cons_of_mem _ (pl_mem hb hbf))) (by omega) (by omega) rfl ?_
        refine k_aload_n hC 33 dL_with_33 rfl ?_
        exact k_aret hC hE 34 q4 dL_with_34 (Or.inr ⟨_, rfl⟩) rfl rfl ⟨Nat.le_of_ble_eq_true rfl, (show 0 + (n + 1) ≤ 13 by omega)⟩
      · skip
        obtain ⟨v, fsv, hFi, hvL, hvf⟩ := hF i h13
        refine k_aload_n hC 16 dL_with_16 rfl ?_
        refine k_iload_n hC 17 dL_with_17 rfl ?_
        refine k_aload_n hC 18 dL_with_18 rfl ?_
        refine k_iload_n hC 19 dL_with_19 rfl ?_
        refine k_aald hC 20 0 i 2 (v := v) dL_with_20 rfl rfl rfl (by omega) (by omega) hFi ?_
        refine k_astJ hC 21 1 i ((a, .inl (D.1 22, n, qv F)) :: ((q4, .inl (D.1 22, n + 1, qv (fillq F (i + 1)))) :: va_pl L f)) dL_with_21 rfl (List.mem_cons_of_mem _ (List.mem_cons_of_mem _ (pl_mem hvL hvf))) (by omega) (by omega) (by rw [← fillq_s hFi]; rfl) ?_
        refine k_iinc hC 22 0 (nI (i + 1)) [(3, .int (nI (i + 1))), (2, .ref q4), (0, .ref a), (1, .ref b)] dL_with_22 rfl (nI_1 _) (by decide) rfl ?_
        refine k_goto hC 25 10 dL_with_25 (by decide) ?_
        exact ih10 (i + 1) (by omega) (by omega)
  exact loop10 (n + 1) 0 (by omega) (by omega)
set_option maxHeartbeats 400000 in
set_option maxRecDepth 100000 in
/-- without, jars -/
theorem c_L_without (l : Launch) (D : va_G) (a n : Nat) (F : Nat → Option Nat) (x : Nat) (L : List Nat) (f : Nat → va_E) (hx : x < n) (hn : n ≤ 13) (hF : ∀ i : Nat, i < n → ∃ (v : Nat) (fs : List Value), F i = some v ∧ v ∈ L ∧ f v = .inr (4, fs)) : MU l yL_without cL_without 4 (some (.array (.object "PinnedPantryLaw$Jar"))) 0 0 D [.ref a, .int (nI x)] ((a, .inl (D.1 22, n, qv F)) :: va_pl L f) (fun v (u : Nat) => v = some (.ref u)) (fun u => ((a, .inl (D.1 22, n, qv F)) :: ((u, .inl (D.1 22, n - 1, qv (fillq (wof F x) (n - 1)))) :: va_pl L f))) 1 13 := by
  refine MU.enter (by decide) [(0, .ref a), (1, .int (nI x))] rfl (Nat.le_of_ble_eq_true rfl) (fun G hC hE => ?_)
  have hC : CX G D cL_without RL 4 := hC
  refine k_aload_n hC 0 dL_without_0 rfl ?_
  refine k_alen hC 1 0 2 (nI n) dL_without_1 rfl rfl rfl ?_
  refine k_iconst hC 2 dL_without_2 (nI 1) (by decide) ?_
  refine n_isub hC 3 (n - 1) dL_without_3 (by omega) rfl ?_
  refine k_anewJ hC 4 (n - 1) dL_without_4 wq_6_9 (by omega) (by omega) ⟨(Nat.le_of_ble_eq_true rfl), (show 0 + (n - 1) ≤ 13 by omega)⟩ (fun q4 => ?_)
  refine KJ.eqw (ws' := ((a, .inl (D.1 22, n, qv F)) :: (va_pl L f ++ ((q4, .inl (D.1 22, n - 1, qv (fun _ => none))) :: [])))) rfl ?_
  refine KJ.mv ((a, .inl (D.1 22, n, qv F)) :: []) (va_pl L f) (q4, .inl (D.1 22, n - 1, qv (fun _ => none))) rfl rfl (ws' := ((a, .inl (D.1 22, n, qv F)) :: ((q4, .inl (D.1 22, n - 1, qv (fun _ => none))) :: va_pl L f))) ?_
  refine k_astore_n hC 7 2 [(2, .ref q4), (0, .ref a), (1, .int (nI x))] dL_without_7 rfl (by decide) rfl ?_
  refine k_iconst hC 8 dL_without_8 (nI 0) (by decide) ?_
  refine k_istore_n hC 9 3 [(3, .int (nI 0)), (2, .ref q4), (0, .ref a), (1, .int (nI x))] dL_without_9 rfl (by decide) rfl ?_
  refine KJ.eqw (ws' := ((a, .inl (D.1 22, n, qv F)) :: ((q4, .inl (D.1 22, n - 1, qv (fillq (wof F x) 0))) :: va_pl L f))) (by rw [← fillq_0 (wof F x)]) ?_
  have loop10 : ∀ (n10 : Nat) (i : Nat), n - i < n10 → i ≤ n - 1 → KJ l G D ({ frames := 0, cells := 1, slots := 13, locals := 0 } : Room) 4 1 (0 + (n - 1)) ((a, .inl (D.1 22, n, qv F)) :: ((q4, .inl (D.1 22, n - 1, qv (fillq (wof F x) i))) :: va_pl L f)) [(3, .int (nI i)), (2, .ref q4), (0, .ref a), (1, .int (nI x))] 10 [] := by
    intro n10
    induction n10 with
    | zero => intro i h; exact absurd h (Nat.not_lt_zero _)
    | succ n10 ih10 =>
      intro i hn10 hi
      refine k_iload_n hC 10 dL_without_10 rfl ?_
      refine k_aload_n hC 11 dL_without_11 rfl ?_
      refine k_alen hC 12 1 2 (nI (n - 1)) dL_without_12 rfl rfl rfl ?_
      refine n_icmp_ge hC 13 39 dL_without_13 (by decide) (by omega) (by omega) (fun h13 => ?_) (fun h13 => ?_)
      · skip
        have hin : n - 1 = i := by omega
        subst hin
        refine k_aload_n hC 39 dL_without_39 rfl ?_
        exact k_aret hC hE 40 q4 dL_without_40 (Or.inr ⟨_, rfl⟩) rfl rfl ⟨Nat.le_of_ble_eq_true rfl, (show 0 + (n - 1) ≤ 13 by omega)⟩
      · skip
        refine k_aload_n hC 16 dL_without_16 rfl ?_
        refine k_iload_n hC 17 dL_without_17 rfl ?_
        refine k_aload_n hC 18 dL_without_18 rfl ?_
        refine k_iload_n hC 19 dL_without_19 rfl ?_
        refine k_iload_n hC 20 dL_without_20 rfl ?_
        refine n_icmp_ge hC 21 28 dL_without_21 (by decide) (by omega) (by omega) (fun h21 => ?_) (fun h21 => ?_)
        · skip
          obtain ⟨v, fsv, hFi, hvL, hvf⟩ := hF (i + 1) (by omega)
          have hwo : wof F x i = some v := (wof_r (by omega)).trans hFi
          refine k_iload_n hC 28 dL_without_28 rfl ?_
          refine k_iconst hC 29 dL_without_29 (nI 1) (by decide) ?_
          refine n_iadd hC 30 (i + 1) dL_without_30 rfl ?_
          refine k_aald hC 31 0 (i + 1) 2 (v := v) dL_without_31 rfl rfl rfl (by omega) (by omega) hFi ?_
          refine k_astJ hC 32 1 i ((a, .inl (D.1 22, n, qv F)) :: ((q4, .inl (D.1 22, n - 1, qv (fillq (wof F x) (i + 1)))) :: va_pl L f)) dL_without_32 rfl (List.mem_cons_of_mem _ (List.mem_cons_of_mem _ (pl_mem hvL hvf))) (by omega) (by omega) (by rw [← fillq_s hwo]; rfl) ?_
          refine k_iinc hC 33 0 (nI (i + 1)) [(3, .int (nI (i + 1))), (2, .ref q4), (0, .ref a), (1, .int (nI x))] dL_without_33 rfl (nI_1 _) (by decide) rfl ?_
          refine k_goto hC 36 10 dL_without_36 (by decide) ?_
          exact ih10 (i + 1) (by omega) (by omega)
        · skip
          obtain ⟨v, fsv, hFi, hvL, hvf⟩ := hF i (by omega)
          have hwo : wof F x i = some v := (wof_l h21).trans hFi
          refine k_iload_n hC 24 dL_without_24 rfl ?_
          refine k_goto hC 25 31 dL_without_25 (by decide) ?_
          refine k_aald hC 31 0 i 2 (v := v) dL_without_31 rfl rfl rfl (by omega) (by omega) hFi ?_
          refine k_astJ hC 32 1 i ((a, .inl (D.1 22, n, qv F)) :: ((q4, .inl (D.1 22, n - 1, qv (fillq (wof F x) (i + 1)))) :: va_pl L f)) dL_without_32 rfl (List.mem_cons_of_mem _ (List.mem_cons_of_mem _ (pl_mem hvL hvf))) (by omega) (by omega) (by rw [← fillq_s hwo]; rfl) ?_
          refine k_iinc hC 33 0 (nI (i + 1)) [(3, .int (nI (i + 1))), (2, .ref q4), (0, .ref a), (1, .int (nI x))] dL_without_33 rfl (nI_1 _) (by decide) rfl ?_
          refine k_goto hC 36 10 dL_without_36 (by decide) ?_
          exact ih10 (i + 1) (by omega) (by omega)
  exact loop10 (n + 1) 0 (by omega) (by omega)
set_option maxHeartbeats 400000 in
set_option maxRecDepth 100000 in
/-- with, numbers -/
theorem c_L_with_ (l : Launch) (D : va_G) (a n : Nat) (F : Nat → Int32) (b : Int32) (hn : n ≤ 12) : MU l yL_with_ cL_with_ 4 (some (.array .int)) 0 0 D [.ref a, .int b] [(a, .inl (D.1 20, n, .inl F))] (fun v (u : Nat) => v = some (.ref u)) (fun u => [(a, .inl (D.1 20, n, .inl F)), (u, .inl (D.1 20, n + 1, .inl (upd (cpf F (fun _ => 0) n) n b)))]) 1 13 := by
  refine MU.enter (by decide) [(0, .ref a), (1, .int b)] rfl (Nat.le_of_ble_eq_true rfl) (fun G hC hE => ?_)
  have hC : CX G D cL_with_ RL 4 := hC
  refine k_aload_n hC 0 dL_with__0 rfl ?_
  refine k_alen hC 1 0 0 (nI n) dL_with__1 rfl rfl rfl ?_
  refine k_iconst hC 2 dL_with__2 (nI 1) (by decide) ?_
  refine n_iadd hC 3 (n + 1) dL_with__3 rfl ?_
  refine k_newarrI hC 4 (n + 1) dL_with__4 (by omega) (by omega) ⟨(Nat.le_of_ble_eq_true rfl), (show 0 + (n + 1) ≤ 13 by omega)⟩ (fun q4 => ?_)
  refine KJ.eqw (ws' := [(a, .inl (D.1 20, n, .inl F)), (q4, .inl (D.1 20, n + 1, .inl (fun _ => 0)))]) rfl ?_
  refine k_astore_n hC 6 2 [(2, .ref q4), (0, .ref a), (1, .int b)] dL_with__6 rfl (by decide) rfl ?_
  refine k_iconst hC 7 dL_with__7 (nI 0) (by decide) ?_
  refine k_istore_n hC 8 3 [(3, .int (nI 0)), (2, .ref q4), (0, .ref a), (1, .int b)] dL_with__8 rfl (by decide) rfl ?_
  refine KJ.eqw (ws' := [(a, .inl (D.1 20, n, .inl F)), (q4, .inl (D.1 20, n + 1, .inl (cpf F (fun _ => 0) 0)))]) (by rw [cpf_0]) ?_
  have loop9 : ∀ (n9 : Nat) (i : Nat), n - i < n9 → i ≤ n → KJ l G D ({ frames := 0, cells := 1, slots := 13, locals := 0 } : Room) 4 1 (0 + (n + 1)) [(a, .inl (D.1 20, n, .inl F)), (q4, .inl (D.1 20, n + 1, .inl (cpf F (fun _ => 0) i)))] [(3, .int (nI i)), (2, .ref q4), (0, .ref a), (1, .int b)] 9 [] := by
    intro n9
    induction n9 with
    | zero => intro i h; exact absurd h (Nat.not_lt_zero _)
    | succ n9 ih9 =>
      intro i hn9 hi
      refine k_iload_n hC 9 dL_with__9 rfl ?_
      refine k_aload_n hC 10 dL_with__10 rfl ?_
      refine k_alen hC 11 0 0 (nI n) dL_with__11 rfl rfl rfl ?_
      refine n_icmp_ge hC 12 27 dL_with__12 (by decide) (by omega) (by omega) (fun h12 => ?_) (fun h12 => ?_)
      · skip
        have hin : n = i := by omega
        subst hin
        refine k_aload_n hC 27 dL_with__27 rfl ?_
        refine k_aload_n hC 28 dL_with__28 rfl ?_
        refine k_alen hC 29 0 0 (nI n) dL_with__29 rfl rfl rfl ?_
        refine k_iload_n hC 30 dL_with__30 rfl ?_
        refine n_iast hC 31 1 [(a, .inl (D.1 20, n, .inl F)), (q4, .inl (D.1 20, n + 1, .inl (upd (cpf F (fun _ => 0) n) n b)))] dL_with__31 rfl (by omega) (by omega) rfl ?_
        refine k_aload_n hC 32 dL_with__32 rfl ?_
        exact k_aret hC hE 33 q4 dL_with__33 (Or.inr ⟨_, rfl⟩) rfl rfl ⟨Nat.le_of_ble_eq_true rfl, (show 0 + (n + 1) ≤ 13 by omega)⟩
      · skip
        refine k_aload_n hC 15 dL_with__15 rfl ?_
        refine k_iload_n hC 16 dL_with__16 rfl ?_
        refine k_aload_n hC 17 dL_with__17 rfl ?_
        refine k_iload_n hC 18 dL_with__18 rfl ?_
        refine n_iald hC 19 0 (F i) dL_with__19 rfl (by omega) (by omega) rfl ?_
        refine n_iast hC 20 1 [(a, .inl (D.1 20, n, .inl F)), (q4, .inl (D.1 20, n + 1, .inl (upd (cpf F (fun _ => 0) i) i (F i))))] dL_with__20 rfl (by omega) (by omega) rfl ?_
        rw [cpf_step]
        refine k_iinc hC 21 0 (nI (i + 1)) [(3, .int (nI (i + 1))), (2, .ref q4), (0, .ref a), (1, .int b)] dL_with__21 rfl (nI_1 _) (by decide) rfl ?_
        refine k_goto hC 24 9 dL_with__24 (by decide) ?_
        exact ih9 (i + 1) (by omega) (by omega)
  exact loop9 (n + 1) 0 (by omega) (by omega)
set_option maxHeartbeats 400000 in
set_option maxRecDepth 100000 in
/-- without, numbers -/
theorem c_L_without_ (l : Launch) (D : va_G) (a n : Nat) (F : Nat → Int32) (x : Nat) (hx : x < n) (hn : n ≤ 13) : MU l yL_without_ cL_without_ 4 (some (.array .int)) 0 0 D [.ref a, .int (nI x)] [(a, .inl (D.1 20, n, .inl F))] (fun v (u : Nat) => v = some (.ref u)) (fun u => [(a, .inl (D.1 20, n, .inl F)), (u, .inl (D.1 20, n - 1, .inl (cpf (wof F x) (fun _ => 0) (n - 1))))]) 1 13 := by
  refine MU.enter (by decide) [(0, .ref a), (1, .int (nI x))] rfl (Nat.le_of_ble_eq_true rfl) (fun G hC hE => ?_)
  have hC : CX G D cL_without_ RL 4 := hC
  refine k_aload_n hC 0 dL_without__0 rfl ?_
  refine k_alen hC 1 0 0 (nI n) dL_without__1 rfl rfl rfl ?_
  refine k_iconst hC 2 dL_without__2 (nI 1) (by decide) ?_
  refine n_isub hC 3 (n - 1) dL_without__3 (by omega) rfl ?_
  refine k_newarrI hC 4 (n - 1) dL_without__4 (by omega) (by omega) ⟨(Nat.le_of_ble_eq_true rfl), (show 0 + (n - 1) ≤ 13 by omega)⟩ (fun q4 => ?_)
  refine KJ.eqw (ws' := [(a, .inl (D.1 20, n, .inl F)), (q4, .inl (D.1 20, n - 1, .inl (fun _ => 0)))]) rfl ?_
  refine k_astore_n hC 6 2 [(2, .ref q4), (0, .ref a), (1, .int (nI x))] dL_without__6 rfl (by decide) rfl ?_
  refine k_iconst hC 7 dL_without__7 (nI 0) (by decide) ?_
  refine k_istore_n hC 8 3 [(3, .int (nI 0)), (2, .ref q4), (0, .ref a), (1, .int (nI x))] dL_without__8 rfl (by decide) rfl ?_
  refine KJ.eqw (ws' := [(a, .inl (D.1 20, n, .inl F)), (q4, .inl (D.1 20, n - 1, .inl (cpf (wof F x) (fun _ => 0) 0)))]) (by rw [cpf_0]) ?_
  have loop9 : ∀ (n9 : Nat) (i : Nat), n - i < n9 → i ≤ n - 1 → KJ l G D ({ frames := 0, cells := 1, slots := 13, locals := 0 } : Room) 4 1 (0 + (n - 1)) [(a, .inl (D.1 20, n, .inl F)), (q4, .inl (D.1 20, n - 1, .inl (cpf (wof F x) (fun _ => 0) i)))] [(3, .int (nI i)), (2, .ref q4), (0, .ref a), (1, .int (nI x))] 9 [] := by
    intro n9
    induction n9 with
    | zero => intro i h; exact absurd h (Nat.not_lt_zero _)
    | succ n9 ih9 =>
      intro i hn9 hi
      refine k_iload_n hC 9 dL_without__9 rfl ?_
      refine k_aload_n hC 10 dL_without__10 rfl ?_
      refine k_alen hC 11 1 0 (nI (n - 1)) dL_without__11 rfl rfl rfl ?_
      refine n_icmp_ge hC 12 38 dL_without__12 (by decide) (by omega) (by omega) (fun h12 => ?_) (fun h12 => ?_)
      · skip
        have hin : n - 1 = i := by omega
        subst hin
        refine k_aload_n hC 38 dL_without__38 rfl ?_
        exact k_aret hC hE 39 q4 dL_without__39 (Or.inr ⟨_, rfl⟩) rfl rfl ⟨Nat.le_of_ble_eq_true rfl, (show 0 + (n - 1) ≤ 13 by omega)⟩
      · skip
        refine k_aload_n hC 15 dL_without__15 rfl ?_
        refine k_iload_n hC 16 dL_without__16 rfl ?_
        refine k_aload_n hC 17 dL_without__17 rfl ?_
        refine k_iload_n hC 18 dL_without__18 rfl ?_
        refine k_iload_n hC 19 dL_without__19 rfl ?_
        refine n_icmp_ge hC 20 27 dL_without__20 (by decide) (by omega) (by omega) (fun h20 => ?_) (fun h20 => ?_)
        · skip
          refine k_iload_n hC 27 dL_without__27 rfl ?_
          refine k_iconst hC 28 dL_without__28 (nI 1) (by decide) ?_
          refine n_iadd hC 29 (i + 1) dL_without__29 rfl ?_
          refine n_iald hC 30 0 (wof F x i) dL_without__30 rfl (by omega) (by omega) (wof_r (by omega)).symm ?_
          refine n_iast hC 31 1 [(a, .inl (D.1 20, n, .inl F)), (q4, .inl (D.1 20, n - 1, .inl (upd (cpf (wof F x) (fun _ => 0) i) i (wof F x i))))] dL_without__31 rfl (by omega) (by omega) rfl ?_
          rw [cpf_step]
          refine k_iinc hC 32 0 (nI (i + 1)) [(3, .int (nI (i + 1))), (2, .ref q4), (0, .ref a), (1, .int (nI x))] dL_without__32 rfl (nI_1 _) (by decide) rfl ?_
          refine k_goto hC 35 9 dL_without__35 (by decide) ?_
          exact ih9 (i + 1) (by omega) (by omega)
        · skip
          refine k_iload_n hC 23 dL_without__23 rfl ?_
          refine k_goto hC 24 30 dL_without__24 (by decide) ?_
          refine n_iald hC 30 0 (wof F x i) dL_without__30 rfl (by omega) (by omega) (wof_l h20).symm ?_
          refine n_iast hC 31 1 [(a, .inl (D.1 20, n, .inl F)), (q4, .inl (D.1 20, n - 1, .inl (upd (cpf (wof F x) (fun _ => 0) i) i (wof F x i))))] dL_without__31 rfl (by omega) (by omega) rfl ?_
          rw [cpf_step]
          refine k_iinc hC 32 0 (nI (i + 1)) [(3, .int (nI (i + 1))), (2, .ref q4), (0, .ref a), (1, .int (nI x))] dL_without__32 rfl (nI_1 _) (by decide) rfl ?_
          refine k_goto hC 35 9 dL_without__35 (by decide) ?_
          exact ih9 (i + 1) (by omega) (by omega)
  exact loop9 (n + 1) 0 (by omega) (by omega)
