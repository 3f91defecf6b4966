/-! What holds at the entry: the tables' words, the strings, the statics -/
theorem st_arr {s : State} {args : Array Value} {ty : FieldType} (h : (Cond.arrayClass ty).before args s = true) : ∃ cA : ClassId, ArrOfT s cA ty ∧ s.vm.findClass ("[" ++ ty.toString) = some cA := by
  obtain ⟨cA, kA, comp, hfind, hk, hkind⟩ := Cond.arrayClass_spec h
  exact ⟨cA, fun n z => ⟨fun k h => (by cases h), kA, hk, comp, hkind⟩, hfind⟩
theorem st_arrA {s : State} (h : va_AA s) : ∃ cA : ClassId, ArrOfT s cA (.array .int) ∧ s.vm.findClass ("[" ++ (FieldType.array .int).toString) = some cA := by
  obtain ⟨comp, c, k, h1, h2, h3, h4, h5⟩ := arrayOverA_spec h
  exact ⟨c, fun n z => ⟨fun k h => (by cases h), k, h3, comp, h4⟩, h5⟩
theorem st_tabs : Cond.arrayOver (.array .int) ∈ lw_tbl ∧ Cond.arrayClass .int ∈ lw_tbl ∧ Cond.arrayClass .long ∈ lw_tbl ∧ Cond.fieldLinkNest RX1 70 RX0 "length" "I" RX3 ∈ lw_tbl ∧ Cond.fieldLinkNest RX3 45 RX1 "pins" "LPinnedPantry$Table;" RX3 ∈ lw_tbl ∧ Cond.fieldLinkNest RX3 78 RX1 "places" "I" RX3 ∈ lw_tbl ∧ Cond.fieldLinkNest RX3 87 RX1 "goal" "I" RX3 ∈ lw_tbl ∧ Cond.castable "[I" "java/lang/Cloneable" ∈ lw_tbl := ⟨by decide +kernel, by decide +kernel, by decide +kernel, by decide +kernel, by decide +kernel, by decide +kernel, by decide +kernel, by decide +kernel⟩
theorem st_KT {s : State} {args : Array Value} (hts : ∀ w ∈ lw_tbl, w.before args s = true) : ∃ D : va_G, KT D s := by
  obtain ⟨t0, t1, t2, t3, t4, t5, t6, t7⟩ := st_tabs
  have hAA : va_AA s := by
    have h := hts _ t0
    unfold Cond.before Cond.holds at h
    unfold va_AA Cond.before Cond.holds
    exact h
  obtain ⟨c0, i0, h0⟩ := u_known (C := RX0) (T := TX0) (N := 2) (n := 2) hts inX0 (hts _ (wsL_law_in _ wq_1_23))
  obtain ⟨c1, i1, h1⟩ := u_known (C := RX1) (T := TX1) (N := 13) (n := 13) hts inX1 (hts _ (wsL_law_in _ wq_1_14))
  obtain ⟨c2, i2, h2⟩ := u_known (C := RX2) (T := TX2) (N := 1) (n := 1) hts inX2 (hts _ (wsL_law_in _ wq_2_6))
  obtain ⟨c3, i3, h3⟩ := u_known (C := RX3) (T := TX3) (N := 2) (n := 2) hts inX3 (hts _ (wsL_law_in _ wq_1_1))
  obtain ⟨c4, i4, h4⟩ := u_known (C := RX4) (T := TX4) (N := 5) (n := 5) hts inX4 (hts _ (wsL_law_in _ wq_1_4))
  obtain ⟨c5, a5, n5⟩ := st_arr (hts _ t1)
  obtain ⟨c6, a6, n6⟩ := st_arr (hts _ t2)
  obtain ⟨c7, a7, n7⟩ := st_arrA hAA
  refine ⟨(fun k => if k = 0 then c0 else if k = 1 then c1 else if k = 2 then c2 else if k = 3 then c3 else if k = 4 then c4 else if k = 5 then c5 else if k = 6 then c6 else c7, fun k => if k = 0 then i0 else if k = 1 then i1 else if k = 2 then i2 else if k = 3 then i3 else i4), ⟨?_, ?_⟩, va_Nw.of rfl (hts _ t3), va_Nw.of rfl (hts _ t4), va_Nw.of rfl (hts _ t5), va_Nw.of rfl (hts _ t6), va_Nw.of rfl (hts _ t7), hAA⟩
  · intro k q hq
    match k, hq with
    | 0, hq => cases hq; exact h0
    | 1, hq => cases hq; exact h1
    | 2, hq => cases hq; exact h2
    | 3, hq => cases hq; exact h3
    | 4, hq => cases hq; exact h4
    | k + 5, hq => simp [vwCl] at hq
  · intro k q hq
    match k, hq with
    | 0, hq => cases hq; exact ⟨a5, n5⟩
    | 1, hq => cases hq; exact ⟨a6, n6⟩
    | 2, hq => cases hq; exact ⟨a7, n7⟩
    | k + 3, hq => simp at hq
theorem st_text : ∀ q ∈ eTx, Cond.stringRef RX3 q.1 q.2 ∈ lw_tbl ∧ Cond.exactly (.string RX3 q.1) "java/lang/String" ∈ flatC (Cond.and given_1 narrow_1) := by decide +kernel
theorem st_nots : Cond.not (.castable eS eB) ∈ flatC (Cond.and given_1 narrow_1) ∧ Cond.not (.castable eA eB) ∈ flatC (Cond.and given_1 narrow_1) ∧ Cond.not (.castable eS eA) ∈ flatC (Cond.and given_1 narrow_1) ∧ Cond.isRef (.static Bundle.tN "UNASSIGNED_STACK" Bundle.steD) ∈ flatC (Cond.and given_1 narrow_1) ∧ Cond.isRef (.static Bundle.tN "SUPPRESSED_SENTINEL" Bundle.listD) ∈ flatC (Cond.and given_1 narrow_1) := ⟨by decide +kernel, by decide +kernel, by decide +kernel, by decide +kernel, by decide +kernel⟩
theorem st_exc : Cond.declares (Bundle.initS "java/lang/RuntimeException") ∈ lw_tbl ∧ Cond.declares (Bundle.initS "java/lang/Exception") ∈ lw_tbl ∧ Cond.declares (Bundle.initS Bundle.tN) ∈ lw_tbl ∧ Cond.castable eS eS ∈ lw_tbl ∧ Cond.castable eB eB ∈ lw_tbl ∧ Cond.castable eA eA ∈ lw_tbl ∧ Cond.laysStatic Bundle.tN "UNASSIGNED_STACK" Bundle.steD ∈ lw_tbl ∧ Cond.laysStatic Bundle.tN "SUPPRESSED_SENTINEL" Bundle.listD ∈ lw_tbl ∧ Cond.initialized Bundle.tN ∈ lw_tbl := ⟨by decide +kernel, by decide +kernel, by decide +kernel, by decide +kernel, by decide +kernel, by decide +kernel, by decide +kernel, by decide +kernel, by decide +kernel⟩
theorem st_XT {s : State} {args : Array Value} (hts : ∀ w ∈ lw_tbl, w.before args s = true) (hg : (Cond.and given_1 narrow_1).before args s = true) : XT s := by
  obtain ⟨t0, t1, t2, t3, t4, t5, -⟩ := st_exc
  obtain ⟨n0, n1, n2, -⟩ := st_nots
  have hf := flat_of_before _ hg
  refine ⟨⟨va_Nw.of rfl (hts _ t0), va_Nw.of rfl (hts _ t1), va_Nw.of rfl (hts _ t2), va_Nw.of rfl (hts _ t3), va_Nw.of rfl (hts _ t4), va_Nw.of rfl (hts _ t5)⟩, fun q hq => ?_, va_Nc.of (hf _ n0), va_Nc.of (hf _ n1), va_Nc.of (hf _ n2)⟩
  obtain ⟨h1, h2⟩ := st_text q hq
  obtain ⟨a, c, cA, kA, q1, -⟩ := Cond.exactly_spec (args := args) (first := s) (o := none) (s := s) (idx := []) (t := .string RX3 q.1) (cls := "java/lang/String") (hf _ h2)
  exact ⟨a, vk_R.of (hts _ h1) q1⟩
theorem st_ZZ {s : State} {args : Array Value} (hts : ∀ w ∈ lw_tbl, w.before args s = true) (hg : (Cond.and given_1 narrow_1).before args s = true) : ZZ (fun q => s.heap.size ≤ q) s s.heap := by
  obtain ⟨-, -, -, -, -, -, t6, t7, t8⟩ := st_exc
  obtain ⟨-, -, -, n3, n4⟩ := st_nots
  have hf := flat_of_before _ hg
  exact ⟨vx_Zqof (hts _ t6) (hts _ t8) (hf _ n3) (fun a h => Nat.not_le.mpr h), vx_Zqof (hts _ t7) (hts _ t8) (hf _ n4) (fun a h => Nat.not_le.mpr h)⟩
