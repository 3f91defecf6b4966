/-! What holds at the entry: the tables' words, the strings, the statics -/
theorem st_arr {s : State} {args : Array Value} {ty : FieldType} (h : (Cond.arrayClass ty).before args s = true) : ∃ cA : ClassId, ArrOfT s cA ty ∧ s.vm.findClass ("[" ++ ty.toString) = some cA := by
  obtain ⟨cA, kA, comp, hfind, hk, hkind⟩ := Cond.arrayClass_spec h
  exact ⟨cA, fun n z => ⟨fun k h => (by cases h), kA, hk, comp, hkind⟩, hfind⟩
theorem st_arrA {s : State} {t : FieldType} (h : va_AA t s) : ∃ cA : ClassId, ArrOfT s cA (.array t) ∧ s.vm.findClass ("[" ++ (FieldType.array t).toString) = some cA := by
  obtain ⟨comp, c, k, h1, h2, h3, h4, h5⟩ := arrayOverA_spec h
  exact ⟨c, fun n z => ⟨fun k h => (by cases h), k, h3, comp, h4⟩, h5⟩
theorem st_arrO {s : State} {C : String} (h : va_AO C s) : ∃ cA : ClassId, ArrOfT s cA (.object C) ∧ va_RA s cA (.object C) := by
  obtain ⟨comp, c, k, h1, h2, h3, h4, h5⟩ := Cond.arrayOver_spec h
  exact ⟨c, fun n z => ⟨fun k h => (by cases h), k, h3, comp, h4⟩, k, comp, h3, h4, h1, h5⟩
theorem st_tabs : Cond.arrayOver (.array .int) ∈ lw_tbl ∧ Cond.arrayOver (.array (.object RX4)) ∈ lw_tbl ∧ Cond.arrayOver (.object RX4) ∈ lw_tbl ∧ Cond.arrayClass .int ∈ lw_tbl ∧ Cond.arrayClass .boolean ∈ lw_tbl := ⟨by decide +kernel, by decide +kernel, by decide +kernel, by decide +kernel, by decide +kernel⟩
theorem st_tabn : Cond.fieldLinkNest RX1 70 RX0 "length" "I" RX3 ∈ lw_tbl ∧ Cond.fieldLinkNest RX3 45 RX1 "pins" "LPinnedPantry$Table;" RX3 ∈ lw_tbl ∧ Cond.fieldLinkNest RX3 78 RX1 "places" "I" RX3 ∈ lw_tbl ∧ Cond.fieldLinkNest RX3 87 RX1 "goal" "I" RX3 ∈ lw_tbl ∧ Cond.methodLinkNest RL 83 yX5_init RL ∈ lw_tbl ∧ Cond.methodLinkNest RX5 57 yL_without RL ∈ lw_tbl ∧ Cond.methodLinkNest RX5 63 yL_with RL ∈ lw_tbl ∧ Cond.methodLinkNest RX5 71 yL_with_ RL ∈ lw_tbl ∧ Cond.methodLinkNest RX5 74 yL_without_ RL ∈ lw_tbl := ⟨by decide +kernel, by decide +kernel, by decide +kernel, by decide +kernel, by decide +kernel, by decide +kernel, by decide +kernel, by decide +kernel, by decide +kernel⟩
theorem st_aa {s : State} {args : Array Value} {t : FieldType} (h : (Cond.arrayOver (.array t)).before args s = true) : va_AA t s := by
  unfold Cond.before Cond.holds at h
  unfold va_AA Cond.before Cond.holds
  exact h
theorem st_KT {s : State} {args : Array Value} (hts : ∀ w ∈ lw_tbl, w.before args s = true) : ∃ D : va_G, KT D s := by
  obtain ⟨t0, t1, t2, t3, t4⟩ := st_tabs
  obtain ⟨n0, n1, n2, n3, n4, n5, n6, n7, n8⟩ := st_tabn
  have hA1 : va_AA .int s := st_aa (hts _ t0)
  have hA2 : va_AA (.object RX4) s := st_aa (hts _ t1)
  have hA3 : va_AO RX4 s := va_AO.of (hts _ t2)
  obtain ⟨c0, i0, h0⟩ := u_known (C := RX0) (T := TX0) (N := 2) (n := 2) hts inX0 (hts _ (wsL_law_in _ wq_1_20))
  obtain ⟨c1, i1, h1⟩ := u_known (C := RX1) (T := TX1) (N := 13) (n := 13) hts inX1 (hts _ (wsL_law_in _ wq_1_11))
  obtain ⟨c2, i2, h2⟩ := u_known (C := RX2) (T := TX2) (N := 1) (n := 1) hts inX2 (hts _ (wsL_law_in _ wq_2_3))
  obtain ⟨c3, i3, h3⟩ := u_known (C := RX3) (T := TX3) (N := 2) (n := 2) hts inX3 (hts _ (wsL_law_in _ wq_1_1))
  obtain ⟨c4, i4, h4⟩ := u_known (C := RX4) (T := TX4) (N := 4) (n := 4) hts inX4 (hts _ (wsL_law_in _ wq_12_21))
  obtain ⟨c5, i5, h5⟩ := u_known (C := RX5) (T := TX5) (N := 8) (n := 8) hts inX5 (hts _ (wsL_law_in _ wq_3_2))
  obtain ⟨d0, a0, m0⟩ := st_arr (hts _ t3)
  obtain ⟨d1, a1, m1⟩ := st_arr (hts _ t4)
  obtain ⟨d2, a2, m2⟩ := st_arrO hA3
  obtain ⟨d3, a3, m3⟩ := st_arrA hA2
  obtain ⟨d4, a4, m4⟩ := st_arrA hA1
  refine ⟨(fun k => if k = 0 then c0 else if k = 1 then c1 else if k = 2 then c2 else if k = 3 then c3 else if k = 4 then c4 else if k = 5 then c5 else if k = 20 then d0 else if k = 21 then d1 else if k = 22 then d2 else if k = 23 then d3 else d4, fun k => if k = 0 then i0 else if k = 1 then i1 else if k = 2 then i2 else if k = 3 then i3 else if k = 4 then i4 else i5), ⟨?_, ?_⟩, va_Nw.of rfl (hts _ n0), va_Nw.of rfl (hts _ n1), va_Nw.of rfl (hts _ n2), va_Nw.of rfl (hts _ n3), hA1, hA2, hA3, va_Nw.of rfl (hts _ n4), va_Nw.of rfl (hts _ n5), va_Nw.of rfl (hts _ n6), va_Nw.of rfl (hts _ n7), va_Nw.of rfl (hts _ n8)⟩
  · intro k q hq
    match k, hq with
    | 0, hq => cases hq; exact h0
    | 1, hq => cases hq; exact h1
    | 2, hq => cases hq; exact h2
    | 3, hq => cases hq; exact h3
    | 4, hq => cases hq; exact h4
    | 5, hq => cases hq; exact h5
    | k + 6, hq => simp [vwCl] at hq
  · intro k q hq
    match k, hq with
    | 0, hq => cases hq; exact ⟨a0, m0⟩
    | 1, hq => cases hq; exact ⟨a1, m1⟩
    | 2, hq => cases hq; exact ⟨a2, m2⟩
    | 3, hq => cases hq; exact ⟨a3, m3⟩
    | 4, hq => cases hq; exact ⟨a4, m4⟩
    | k + 5, hq => simp at hq
theorem st_text : ∀ q ∈ eTx, Cond.stringRef RX3 q.1 q.2 ∈ lw_tbl ∧ Cond.exactly (.string RX3 q.1) "java/lang/String" ∈ flatC (Cond.and given_1 narrow_1) := by decide +kernel
theorem st_nots : Cond.isRef (.static Bundle.tN "UNASSIGNED_STACK" Bundle.steD) ∈ flatC (Cond.and given_1 narrow_1) ∧ Cond.isRef (.static Bundle.tN "SUPPRESSED_SENTINEL" Bundle.listD) ∈ flatC (Cond.and given_1 narrow_1) := ⟨by decide +kernel, by decide +kernel⟩
theorem st_exc : Cond.declares (Bundle.initS "java/lang/RuntimeException") ∈ lw_tbl ∧ Cond.declares (Bundle.initS "java/lang/Exception") ∈ lw_tbl ∧ Cond.declares (Bundle.initS Bundle.tN) ∈ lw_tbl ∧ Cond.castable eS eS ∈ lw_tbl ∧ Cond.castable eB eB ∈ lw_tbl ∧ Cond.castable eA eA ∈ lw_tbl ∧ Cond.laysStatic Bundle.tN "UNASSIGNED_STACK" Bundle.steD ∈ lw_tbl ∧ Cond.laysStatic Bundle.tN "SUPPRESSED_SENTINEL" Bundle.listD ∈ lw_tbl ∧ Cond.initialized Bundle.tN ∈ lw_tbl := ⟨by decide +kernel, by decide +kernel, by decide +kernel, by decide +kernel, by decide +kernel, by decide +kernel, by decide +kernel, by decide +kernel, by decide +kernel⟩
theorem st_XT {s : State} {args : Array Value} (hts : ∀ w ∈ lw_tbl, w.before args s = true) (hg : (Cond.and given_1 narrow_1).before args s = true) : XT s := by
  obtain ⟨t0, t1, t2, t3, t4, t5, -⟩ := st_exc
  have hf := flat_of_before _ hg
  refine ⟨⟨va_Nw.of rfl (hts _ t0), va_Nw.of rfl (hts _ t1), va_Nw.of rfl (hts _ t2), va_Nw.of rfl (hts _ t3), va_Nw.of rfl (hts _ t4), va_Nw.of rfl (hts _ t5)⟩, fun q hq => ?_⟩
  obtain ⟨h1, h2⟩ := st_text q hq
  obtain ⟨a, c, cA, kA, q1, -⟩ := Cond.exactly_spec (args := args) (first := s) (o := none) (s := s) (idx := []) (t := .string RX3 q.1) (cls := "java/lang/String") (hf _ h2)
  exact ⟨a, vk_R.of (hts _ h1) q1⟩
theorem st_ZZ {s : State} {args : Array Value} (hts : ∀ w ∈ lw_tbl, w.before args s = true) (hg : (Cond.and given_1 narrow_1).before args s = true) : ZZ (fun q => s.heap.size ≤ q) s s.heap := by
  obtain ⟨-, -, -, -, -, -, t6, t7, t8⟩ := st_exc
  obtain ⟨n3, n4⟩ := st_nots
  have hf := flat_of_before _ hg
  exact ⟨vx_Zqof (hts _ t6) (hts _ t8) (hf _ n3) (fun a h => Nat.not_le.mpr h), vx_Zqof (hts _ t7) (hts _ t8) (hf _ n4) (fun a h => Nat.not_le.mpr h)⟩
