/-! The simulation: a new one; is it the same as the pantry -/
theorem mean_nan (x : Int32) (j : Nat) (h1 : 1 ≤ j) (h2 : j ≤ 12) : FP.Core.dIsNaN (FP.ddiv (FP.i2d x) (FP.i2d (nI j))) = false := by
  have hne : nI j ≠ 0 := fun h => by
    rw [← nI_0] at h
    have := (nI_eq (a := j) (b := 0) (by omega) (by omega)).mp h
    omega
  have hz : ¬ FP.Core.DZero (FP.Core.i2d (nI j)) := fun h => FP.Core.i2d_ne_zero hne ((FP.Core.zero_bits2 _).mp h)
  have hf : FP.Core.dIsNaN (FP.Core.i2d x) = false := by
    have h := (FP.Core.fin_bits _).mp (FP.Core.i2d_fin x)
    rw [FP.Core.notNaN_iff, FP.Core.ne_nan]
    omega
  exact FP.Core.ddiv_out hf (FP.Core.i2d_fin _) hz
theorem dc_self {x : UInt64} (h : FP.Core.dIsNaN x = false) (o : CmpOp) : Op.cmpValue (FP.dcmp x x) o = 0 := by
  rw [show FP.dcmp x x = some .eq from FP.Core.dcmp_refl h]
  rfl
theorem rowK0 {L0 L1 : List Nat} {k : Nat} (h : k < L0.length) (hL : L0.length ≤ 12) : rowK L0 L1 (nI 0) (nI k) = 0 := kK_0 (fun z => z.elim (fun y => y (Or.inl nI_0)) (fun y => by
  rw [if_pos nI_0] at y
  exact y k h rfl)) id
theorem rowK1 {L0 L1 : List Nat} {k : Nat} (h : k < L1.length) (hL : L1.length ≤ 12) : rowK L0 L1 (nI 1) (nI k) = 0 := kK_0 (fun z => z.elim (fun y => y (Or.inr rfl)) (fun y => by
  rw [if_neg (by decide)] at y
  exact y k h rfl)) id
theorem rowV0 {L0 L1 : List Nat} {k : Nat} (h : k < 40) : rowV L0 L1 (nI 0) (nI k) = nI (L0.getD k 0) := by
  unfold rowV
  rw [if_pos nI_0, kn_ek h]
theorem rowV1 {L0 L1 : List Nat} {k : Nat} (h : k < 40) : rowV L0 L1 (nI 1) (nI k) = nI (L1.getD k 0) := by
  unfold rowV
  rw [if_neg (by decide), kn_ek h]
theorem jarK0 {k n : Nat} (hk : k < 40) (hn : n < 5) : jarK (nI k) (nI n) = 0 := kK_0 (fun z => z.elim (fun y => y (Ck.of hk)) (fun y => y.elim (fun x => nI_pos (by omega) x) (fun x => x ((nI_ltI (by omega) (by decide)).mpr hn)))) id
theorem countK0 {n : Nat} (hn : n < 11) : countK (nI n) = 0 := kK_0 (fun z => z.elim (fun x => nI_pos (by omega) x) (fun x => x ((nI_ltI (by omega) (by decide)).mpr hn))) id
theorem mem_ts {N : List Nat} {i k : Nat} (h : i < N.length) : k ∈ N.take (i + 1) ↔ (k ∈ N.take i ∨ N.getD i 0 = k) := by
  rw [take_s h, List.mem_append, List.mem_singleton]
  exact ⟨fun z => z.imp id Eq.symm, fun z => z.imp id Eq.symm⟩
theorem nd_nt {N : List Nat} (h : N.Nodup) {i k : Nat} (hi : i < N.length) (e : N.getD i 0 = k) : k ∉ N.take i := fun z => by
  obtain ⟨j, hj, e2⟩ := List.getElem_of_mem z
  rw [List.length_take] at hj
  rw [List.getElem_take] at e2
  refine nd_getD h (show j < i by omega) hi (Eq.trans ?_ e.symm)
  rw [List.getD_eq_getElem?_getD, List.getElem?_eq_getElem (by omega)]
  exact e2
set_option maxHeartbeats 2000000 in
set_option maxRecDepth 100000 in
/-- Sim() -/
theorem s_init (l : Launch) (D : va_G) (m : Nat)  : MU l yX5_init cX5_init 1 none 1 12 D [.ref m] [(m, .inr (5, [.int 0, .int 0, .int 0, .int 0, .int 0, .int 0, .null, .null]))] (fun v (u : Nat × Nat × SX) => v = none ∧ SJ initS u.2.2) (fun u => wSm D m u.1 u.2.1 initS u.2.2) 6 4 := by
  refine MU.enter (by decide) [(0, .ref m)] rfl (Nat.le_of_ble_eq_true rfl) (fun G hC hE => ?_)
  have hC : CX G D cX5_init RX5 1 := hC
  refine k_aload_n hC 0 dX5_init_0 rfl ?_
  refine k_objInit hC 1 dX5_init_1 wq_3_6 wq_1_8 wq_1_9 ⟨Nat.le_of_ble_eq_true rfl, Nat.le_of_ble_eq_true rfl⟩ ?_
  refine k_aload_n hC 4 dX5_init_4 rfl ?_
  refine k_bipush hC 5 dX5_init_5 (nI 6) (by decide) ?_
  refine k_putf hC 7 (ty0 := tyX5) 0 0 [(m, .inr (5, [.int (nI 6), .int 0, .int 0, .int 0, .int 0, .int 0, .null, .null]))] dX5_init_7 rfl rfl inlX5 tyX5_ok nmX5 (by decide) wq_3_7 rfl rfl rfl (Nat.le_of_ble_eq_true rfl) rfl ?_
  refine k_aload_n hC 10 dX5_init_10 rfl ?_
  refine k_iconst hC 11 dX5_init_11 (nI 2) (by decide) ?_
  refine k_anewA hC 12 2 (t := .object RX4) 3 rfl hC.kt.2.2.2.2.2.2.1 (by decide +kernel) dX5_init_12 wq_3_8 (by decide) (by decide) ⟨(Nat.le_of_ble_eq_true rfl), (Nat.le_of_ble_eq_true rfl)⟩ (fun q12 => ?_)
  refine KJ.eqw (ws' := [(m, .inr (5, [.int (nI 6), .int 0, .int 0, .int 0, .int 0, .int 0, .null, .null])), (q12, .inl (D.1 23, 2, qv (fun _ => none)))]) rfl ?_
  refine k_dup hC 15 dX5_init_15 rfl ?_
  refine k_iconst hC 16 dX5_init_16 (nI 0) (by decide) ?_
  refine k_iconst hC 17 dX5_init_17 (nI 0) (by decide) ?_
  refine k_anewJ hC 18 0 dX5_init_18 wq_3_9 (by decide) (by decide) ⟨(Nat.le_of_ble_eq_true rfl), (Nat.le_of_ble_eq_true rfl)⟩ (fun q18 => ?_)
  refine KJ.eqw (ws' := [(m, .inr (5, [.int (nI 6), .int 0, .int 0, .int 0, .int 0, .int 0, .null, .null])), (q12, .inl (D.1 23, 2, qv (fun _ => none))), (q18, .inl (D.1 22, 0, qv (fun _ => none)))]) rfl ?_
  refine k_astA hC 21 1 2 0 (t := .object RX4) 3 2 [(m, .inr (5, [.int (nI 6), .int 0, .int 0, .int 0, .int 0, .int 0, .null, .null])), (q12, .inl (D.1 23, 2, qv (va_up (fun _ => none) 0 (some q18)))), (q18, .inl (D.1 22, 0, qv (fun _ => none)))] hC.kt.2.2.2.2.2.2.1 rfl rfl (fcJ hC) dX5_init_21 rfl rfl (by omega) (by omega) rfl ?_
  refine k_dup hC 22 dX5_init_22 rfl ?_
  refine k_iconst hC 23 dX5_init_23 (nI 1) (by decide) ?_
  refine k_iconst hC 24 dX5_init_24 (nI 0) (by decide) ?_
  refine k_anewJ hC 25 0 dX5_init_25 wq_3_9 (by decide) (by decide) ⟨(Nat.le_of_ble_eq_true rfl), (Nat.le_of_ble_eq_true rfl)⟩ (fun q25 => ?_)
  refine KJ.eqw (ws' := [(m, .inr (5, [.int (nI 6), .int 0, .int 0, .int 0, .int 0, .int 0, .null, .null])), (q12, .inl (D.1 23, 2, qv (va_up (fun _ => none) 0 (some q18)))), (q18, .inl (D.1 22, 0, qv (fun _ => none))), (q25, .inl (D.1 22, 0, qv (fun _ => none)))]) rfl ?_
  refine k_astA hC 28 1 3 1 (t := .object RX4) 3 2 [(m, .inr (5, [.int (nI 6), .int 0, .int 0, .int 0, .int 0, .int 0, .null, .null])), (q12, .inl (D.1 23, 2, qv (va_up (va_up (fun _ => none) 0 (some q18)) 1 (some q25)))), (q18, .inl (D.1 22, 0, qv (fun _ => none))), (q25, .inl (D.1 22, 0, qv (fun _ => none)))] hC.kt.2.2.2.2.2.2.1 rfl rfl (fcJ hC) dX5_init_28 rfl rfl (by omega) (by omega) rfl ?_
  refine k_putf hC 29 (ty0 := tyX5) 0 6 [(m, .inr (5, [.int (nI 6), .int 0, .int 0, .int 0, .int 0, .int 0, .ref q12, .null])), (q12, .inl (D.1 23, 2, qv (va_up (va_up (fun _ => none) 0 (some q18)) 1 (some q25)))), (q18, .inl (D.1 22, 0, qv (fun _ => none))), (q25, .inl (D.1 22, 0, qv (fun _ => none)))] dX5_init_29 rfl rfl inlX5 tyX5_ok nmX5 (by decide) wq_3_10 rfl rfl rfl (Nat.le_of_ble_eq_true rfl) rfl ?_
  refine k_aload_n hC 32 dX5_init_32 rfl ?_
  refine k_iconst hC 33 dX5_init_33 (nI 2) (by decide) ?_
  refine k_anewA hC 34 2 (t := .int) 4 rfl hC.kt.2.2.2.2.2.1 rfl dX5_init_34 wq_3_11 (by decide) (by decide) ⟨(Nat.le_of_ble_eq_true rfl), (Nat.le_of_ble_eq_true rfl)⟩ (fun q34 => ?_)
  refine KJ.eqw (ws' := [(m, .inr (5, [.int (nI 6), .int 0, .int 0, .int 0, .int 0, .int 0, .ref q12, .null])), (q12, .inl (D.1 23, 2, qv (va_up (va_up (fun _ => none) 0 (some q18)) 1 (some q25)))), (q18, .inl (D.1 22, 0, qv (fun _ => none))), (q25, .inl (D.1 22, 0, qv (fun _ => none))), (q34, .inl (D.1 24, 2, qv (fun _ => none)))]) rfl ?_
  refine k_dup hC 37 dX5_init_37 rfl ?_
  refine k_iconst hC 38 dX5_init_38 (nI 0) (by decide) ?_
  refine k_iconst hC 39 dX5_init_39 (nI 0) (by decide) ?_
  refine k_newarrI hC 40 0 dX5_init_40 (by decide) (by decide) ⟨(Nat.le_of_ble_eq_true rfl), (Nat.le_of_ble_eq_true rfl)⟩ (fun q40 => ?_)
  refine KJ.eqw (ws' := [(m, .inr (5, [.int (nI 6), .int 0, .int 0, .int 0, .int 0, .int 0, .ref q12, .null])), (q12, .inl (D.1 23, 2, qv (va_up (va_up (fun _ => none) 0 (some q18)) 1 (some q25)))), (q18, .inl (D.1 22, 0, qv (fun _ => none))), (q25, .inl (D.1 22, 0, qv (fun _ => none))), (q34, .inl (D.1 24, 2, qv (fun _ => none))), (q40, .inl (D.1 20, 0, .inl (fun _ => 0)))]) rfl ?_
  refine k_astA hC 42 4 5 0 (t := .int) 4 0 [(m, .inr (5, [.int (nI 6), .int 0, .int 0, .int 0, .int 0, .int 0, .ref q12, .null])), (q12, .inl (D.1 23, 2, qv (va_up (va_up (fun _ => none) 0 (some q18)) 1 (some q25)))), (q18, .inl (D.1 22, 0, qv (fun _ => none))), (q25, .inl (D.1 22, 0, qv (fun _ => none))), (q34, .inl (D.1 24, 2, qv (va_up (fun _ => none) 0 (some q40)))), (q40, .inl (D.1 20, 0, .inl (fun _ => 0)))] hC.kt.2.2.2.2.2.1 rfl rfl (fcI hC) dX5_init_42 rfl rfl (by omega) (by omega) rfl ?_
  refine k_dup hC 43 dX5_init_43 rfl ?_
  refine k_iconst hC 44 dX5_init_44 (nI 1) (by decide) ?_
  refine k_iconst hC 45 dX5_init_45 (nI 0) (by decide) ?_
  refine k_newarrI hC 46 0 dX5_init_46 (by decide) (by decide) ⟨(Nat.le_of_ble_eq_true rfl), (Nat.le_of_ble_eq_true rfl)⟩ (fun q46 => ?_)
  refine KJ.eqw (ws' := [(m, .inr (5, [.int (nI 6), .int 0, .int 0, .int 0, .int 0, .int 0, .ref q12, .null])), (q12, .inl (D.1 23, 2, qv (va_up (va_up (fun _ => none) 0 (some q18)) 1 (some q25)))), (q18, .inl (D.1 22, 0, qv (fun _ => none))), (q25, .inl (D.1 22, 0, qv (fun _ => none))), (q34, .inl (D.1 24, 2, qv (va_up (fun _ => none) 0 (some q40)))), (q40, .inl (D.1 20, 0, .inl (fun _ => 0))), (q46, .inl (D.1 20, 0, .inl (fun _ => 0)))]) rfl ?_
  refine k_astA hC 48 4 6 1 (t := .int) 4 0 [(m, .inr (5, [.int (nI 6), .int 0, .int 0, .int 0, .int 0, .int 0, .ref q12, .null])), (q12, .inl (D.1 23, 2, qv (va_up (va_up (fun _ => none) 0 (some q18)) 1 (some q25)))), (q18, .inl (D.1 22, 0, qv (fun _ => none))), (q25, .inl (D.1 22, 0, qv (fun _ => none))), (q34, .inl (D.1 24, 2, qv (va_up (va_up (fun _ => none) 0 (some q40)) 1 (some q46)))), (q40, .inl (D.1 20, 0, .inl (fun _ => 0))), (q46, .inl (D.1 20, 0, .inl (fun _ => 0)))] hC.kt.2.2.2.2.2.1 rfl rfl (fcI hC) dX5_init_48 rfl rfl (by omega) (by omega) rfl ?_
  refine k_putf hC 49 (ty0 := tyX5) 0 7 [(m, .inr (5, [.int (nI 6), .int 0, .int 0, .int 0, .int 0, .int 0, .ref q12, .ref q34])), (q12, .inl (D.1 23, 2, qv (va_up (va_up (fun _ => none) 0 (some q18)) 1 (some q25)))), (q18, .inl (D.1 22, 0, qv (fun _ => none))), (q25, .inl (D.1 22, 0, qv (fun _ => none))), (q34, .inl (D.1 24, 2, qv (va_up (va_up (fun _ => none) 0 (some q40)) 1 (some q46)))), (q40, .inl (D.1 20, 0, .inl (fun _ => 0))), (q46, .inl (D.1 20, 0, .inl (fun _ => 0)))] dX5_init_49 rfl rfl inlX5 tyX5_ok nmX5 (by decide) wq_3_12 rfl rfl rfl (Nat.le_of_ble_eq_true rfl) rfl ?_
  refine KJ.sub [0, 1, 4, 2, 3, 5, 6] (by decide) rfl rfl ?_
  exact k_vret hC hE 52 (q12, q34, (q18, q25, q40, q46, va_up (va_up (fun _ => none) 0 (some q18)) 1 (some q25), va_up (va_up (fun _ => none) 0 (some q40)) 1 (some q46), (fun _ => none), (fun _ => none), (fun _ => 0), (fun _ => 0), [], (fun _ => .inr (0, [])), fun _ => 0)) dX5_init_52 (⟨rfl, rfl, rfl, rfl, rfl, fun i h => absurd h (Nat.not_lt_zero i), fun i h => absurd h (Nat.not_lt_zero i), RowL.nil, RowL.nil, fun k h => h.elim (fun z => absurd z List.not_mem_nil) (fun z => absurd z List.not_mem_nil)⟩) rfl ⟨Nat.le_of_ble_eq_true rfl, Nat.le_of_ble_eq_true rfl⟩
set_option maxHeartbeats 2000000 in
set_option maxRecDepth 100000 in
/-- isSame -/
theorem s_isSame (l : Launch) (hfl : l.stackTraces = false) (D : va_G) (bb LS : Nat) (xs : Nat → Int32) (h m p r : Nat) (a b : Nat → Nat) (s s2 : PS) (g g2 : PG) (x : SX) (hLS : LS ≤ 260) (hO : OKs s g x) : MS l yX5_isSame cX5_isSame 9 (some .boolean) 8 126 D bb LS xs [.ref m, .ref h] ((h, .inr (3, [.ref (a 0), .ref (b 0)])) :: (wSt D a s g ++ (wSt D b s2 g2 ++ (wSm D m p r s x)))) (fun v (u : PG × PS × PG) => v = some (.int (nI 1)) ∧ SR s u.1) (fun u => ((h, .inr (3, [.ref (a 0), .ref (b 0)])) :: (wSt D a s u.1 ++ (wSt D b u.2.1 u.2.2 ++ (wSm D m p r s x))))) 13000 77000 := by
  refine MS.enter hfl (by decide) [(0, .ref m), (1, .ref h)] rfl (Nat.le_of_ble_eq_true rfl) (fun G hC hE hX hZ => ?_)
  have hC : CX G D cX5_isSame RX5 9 := hC
  obtain ⟨hS, hW, hJ, hI⟩ := id hO
  obtain ⟨N, T, A, B, to, pi, fe, pl, go, hi, mi, re, lo⟩ := s
  obtain ⟨n0, n1, l0, l1, hs, hl, f0, f1, g0, g1, Lp, f, adr⟩ := x
  obtain ⟨kN, kT, kA, kB, nd, len, lA, lB, p2, p12, g12, t1, p9⟩ := id hW
  obtain ⟨s0, s1, s2', s3, j0, j1, a0, a1, jp⟩ := id hJ
  have ndN : N.Nodup := (List.nodup_append.mp nd).1
  have ndT : T.Nodup := (List.nodup_append.mp nd).2.1
  have hq0 := pc_le pi N
  have hq1 := pc_le pi T
  refine KJ.eqw (ws' := ((h, .inr (3, [.ref (a 0), .ref (b 0)])) :: (wSt D a (N, T, A, B, to, pi, fe, pl, go, hi, mi, re, lo) g ++ (wSt D b s2 g2 ++ ((m, .inr (5, [.int (nI pl), .int (nI go), .int hi, .int mi, .int re, .int lo, .ref p, .ref r])) :: ((p, .inl (D.1 23, 2, qv hs)) :: ((r, .inl (D.1 24, 2, qv hl)) :: ((n0, .inl (D.1 22, N.length, qv f0)) :: ((n1, .inl (D.1 22, T.length, qv f1)) :: ((l0, .inl (D.1 20, A.length, .inl g0)) :: ((l1, .inl (D.1 20, B.length, .inl g1)) :: va_pl Lp f))))))))))) rfl ?_
  have hSa := hS
  refine k_iconst hC 0 dX5_isSame_0 (nI 0) (by decide) ?_
  refine k_istore_n hC 1 2 [(2, .int (nI 0)), (0, .ref m), (1, .ref h)] dX5_isSame_1 rfl (by decide) rfl ?_
  refine k_iconst hC 2 dX5_isSame_2 (nI 0) (by decide) ?_
  refine k_istore_n hC 3 3 [(3, .int (nI 0)), (2, .int (nI 0)), (0, .ref m), (1, .ref h)] dX5_isSame_3 rfl (by decide) rfl ?_
  have loop4 : ∀ (nn4 : Nat) (kd : Nat) (ga : PG) (sb : PS) (gb : PG), 40 - kd < nn4 → kd ≤ 40 → SR (N, T, A, B, to, pi, fe, pl, go, hi, mi, re, lo) ga → KJ l G D ({ frames := 8, cells := 13000, slots := 77000, locals := 126 } : Room) 9 (0 + 322 * kd) (0 + 1908 * kd) ((h, .inr (3, [.ref (a 0), .ref (b 0)])) :: (wSt D a (N, T, A, B, to, pi, fe, pl, go, hi, mi, re, lo) ga ++ (wSt D b sb gb ++ ((m, .inr (5, [.int (nI pl), .int (nI go), .int hi, .int mi, .int re, .int lo, .ref p, .ref r])) :: ((p, .inl (D.1 23, 2, qv hs)) :: ((r, .inl (D.1 24, 2, qv hl)) :: ((n0, .inl (D.1 22, N.length, qv f0)) :: ((n1, .inl (D.1 22, T.length, qv f1)) :: ((l0, .inl (D.1 20, A.length, .inl g0)) :: ((l1, .inl (D.1 20, B.length, .inl g1)) :: va_pl Lp f)))))))))) [(3, .int (nI kd)), (2, .int (fsm N T fe kd)), (0, .ref m), (1, .ref h)] 4 ([]) := by
    intro nn4
    induction nn4 with
    | zero => intro kd ga sb gb h; exact absurd h (Nat.not_lt_zero _)
    | succ nn4 ih4 =>
      intro kd ga sb gb hn4 hkd hSa
      refine k_iload_n hC 4 dX5_isSame_4 rfl ?_
      refine k_bipush hC 5 dX5_isSame_5 (nI 40) (by decide) ?_
      refine n_icmp_ge hC 7 214 dX5_isSame_7 (by decide) (by omega) (by omega) (fun h7 => ?_) (fun h7 => ?_)
      · skip
        obtain rfl : kd = 40 := by omega
        refine KJ.wide (ce' := 12880) (sl' := 76320) (by omega) (by omega) ?_
        refine k_iconst hC 214 dX5_isSame_214 (nI 0) (by decide) ?_
        refine k_istore_n hC 215 3 [(3, .int (nI 0)), (2, .int (fsm N T fe 40)), (0, .ref m), (1, .ref h)] dX5_isSame_215 rfl (by decide) rfl ?_
        refine k_iload_n hC 216 dX5_isSame_216 rfl ?_
        refine k_iconst hC 217 dX5_isSame_217 (nI 2) (by decide) ?_
        refine n_icmp_ge hC 218 269 dX5_isSame_218 (by decide) (by omega) (by omega) (fun h218 => ?_) (fun h218 => ?_)
        · skip
          exact absurd h218 (by decide)
        · skip
          refine k_iconst hC 221 dX5_isSame_221 (nI 0) (by decide) ?_
          refine k_istore hC 222 4 [(4, .int (nI 0)), (3, .int (nI 0)), (2, .int (fsm N T fe 40)), (0, .ref m), (1, .ref h)] dX5_isSame_222 (by decide) rfl ?_
          have loop224 : ∀ (nn224 : Nat) (k0 : Nat) (ga0 : PG) (sb0 : PS) (gb0 : PG), A.length - k0 < nn224 → k0 ≤ A.length → SR (N, T, A, B, to, pi, fe, pl, go, hi, mi, re, lo) ga0 → KJ l G D ({ frames := 8, cells := 13000, slots := 77000, locals := 126 } : Room) 9 (12880 + 2 * k0) (76320 + 12 * k0) ((h, .inr (3, [.ref (a 0), .ref (b 0)])) :: (wSt D a (N, T, A, B, to, pi, fe, pl, go, hi, mi, re, lo) ga0 ++ (wSt D b sb0 gb0 ++ ((m, .inr (5, [.int (nI pl), .int (nI go), .int hi, .int mi, .int re, .int lo, .ref p, .ref r])) :: ((p, .inl (D.1 23, 2, qv hs)) :: ((r, .inl (D.1 24, 2, qv hl)) :: ((n0, .inl (D.1 22, N.length, qv f0)) :: ((n1, .inl (D.1 22, T.length, qv f1)) :: ((l0, .inl (D.1 20, A.length, .inl g0)) :: ((l1, .inl (D.1 20, B.length, .inl g1)) :: va_pl Lp f)))))))))) [(4, .int (nI k0)), (3, .int (nI 0)), (2, .int (fsm N T fe 40)), (0, .ref m), (1, .ref h)] 224 ([]) := by
            intro nn224
            induction nn224 with
            | zero => intro k0 ga0 sb0 gb0 h; exact absurd h (Nat.not_lt_zero _)
            | succ nn224 ih224 =>
              intro k0 ga0 sb0 gb0 hn224 hk0 hSa
              have hgk := kA.g k0
              refine k_iload hC 224 dX5_isSame_224 rfl ?_
              refine k_aload_n hC 226 dX5_isSame_226 rfl ?_
              refine k_getf hC 227 31 7 dX5_isSame_227 rfl rfl inlX5 (by decide) wq_3_12 rfl ?_
              refine k_iload_n hC 230 dX5_isSame_230 rfl ?_
              refine k_aald hC 231 33 0 4 (v := l0) dX5_isSame_231 rfl rfl rfl (by omega) (by omega) s2' ?_
              refine k_alen hC 232 36 0 (nI A.length) dX5_isSame_232 rfl rfl rfl ?_
              refine n_icmp_ge hC 233 263 dX5_isSame_233 (by decide) (by omega) (by omega) (fun h233 => ?_) (fun h233 => ?_)
              · skip
                refine k_iinc hC 263 1 (nI 1) [(3, .int (nI 1)), (4, .int (nI k0)), (2, .int (fsm N T fe 40)), (0, .ref m), (1, .ref h)] dX5_isSame_263 rfl (by decide) (by decide) rfl ?_
                refine k_goto hC 266 216 dX5_isSame_266 (by decide) ?_
                refine k_iload_n hC 216 dX5_isSame_216 rfl ?_
                refine k_iconst hC 217 dX5_isSame_217 (nI 2) (by decide) ?_
                refine n_icmp_ge hC 218 269 dX5_isSame_218 (by decide) (by omega) (by omega) (fun h218 => ?_) (fun h218 => ?_)
                · skip
                  exact absurd h218 (by decide)
                · skip
                  refine k_iconst hC 221 dX5_isSame_221 (nI 0) (by decide) ?_
                  refine k_istore hC 222 4 [(4, .int (nI 0)), (3, .int (nI 1)), (2, .int (fsm N T fe 40)), (0, .ref m), (1, .ref h)] dX5_isSame_222 (by decide) rfl ?_
                  refine KJ.wide (ce' := 12904 + 0) (sl' := 76464 + 0) (by omega) (by omega) ?_
                  have loop224 : ∀ (nn224 : Nat) (k1 : Nat) (ga1 : PG) (sb1 : PS) (gb1 : PG), B.length - k1 < nn224 → k1 ≤ B.length → SR (N, T, A, B, to, pi, fe, pl, go, hi, mi, re, lo) ga1 → KJ l G D ({ frames := 8, cells := 13000, slots := 77000, locals := 126 } : Room) 9 (12904 + 2 * k1) (76464 + 12 * k1) ((h, .inr (3, [.ref (a 0), .ref (b 0)])) :: (wSt D a (N, T, A, B, to, pi, fe, pl, go, hi, mi, re, lo) ga1 ++ (wSt D b sb1 gb1 ++ ((m, .inr (5, [.int (nI pl), .int (nI go), .int hi, .int mi, .int re, .int lo, .ref p, .ref r])) :: ((p, .inl (D.1 23, 2, qv hs)) :: ((r, .inl (D.1 24, 2, qv hl)) :: ((n0, .inl (D.1 22, N.length, qv f0)) :: ((n1, .inl (D.1 22, T.length, qv f1)) :: ((l0, .inl (D.1 20, A.length, .inl g0)) :: ((l1, .inl (D.1 20, B.length, .inl g1)) :: va_pl Lp f)))))))))) [(4, .int (nI k1)), (3, .int (nI 1)), (2, .int (fsm N T fe 40)), (0, .ref m), (1, .ref h)] 224 ([]) := by
                    intro nn224
                    induction nn224 with
                    | zero => intro k1 ga1 sb1 gb1 h; exact absurd h (Nat.not_lt_zero _)
                    | succ nn224 ih224 =>
                      intro k1 ga1 sb1 gb1 hn224 hk1 hSa
                      have hgk := kB.g k1
                      refine k_iload hC 224 dX5_isSame_224 rfl ?_
                      refine k_aload_n hC 226 dX5_isSame_226 rfl ?_
                      refine k_getf hC 227 31 7 dX5_isSame_227 rfl rfl inlX5 (by decide) wq_3_12 rfl ?_
                      refine k_iload_n hC 230 dX5_isSame_230 rfl ?_
                      refine k_aald hC 231 33 1 4 (v := l1) dX5_isSame_231 rfl rfl rfl (by omega) (by omega) s3 ?_
                      refine k_alen hC 232 37 0 (nI B.length) dX5_isSame_232 rfl rfl rfl ?_
                      refine n_icmp_ge hC 233 263 dX5_isSame_233 (by decide) (by omega) (by omega) (fun h233 => ?_) (fun h233 => ?_)
                      · skip
                        refine k_iinc hC 263 1 (nI 2) [(3, .int (nI 2)), (4, .int (nI k1)), (2, .int (fsm N T fe 40)), (0, .ref m), (1, .ref h)] dX5_isSame_263 rfl (by decide) (by decide) rfl ?_
                        refine k_goto hC 266 216 dX5_isSame_266 (by decide) ?_
                        refine k_iload_n hC 216 dX5_isSame_216 rfl ?_
                        refine k_iconst hC 217 dX5_isSame_217 (nI 2) (by decide) ?_
                        refine n_icmp_ge hC 218 269 dX5_isSame_218 (by decide) (by omega) (by omega) (fun h218 => ?_) (fun h218 => ?_)
                        · skip
                          refine KJ.wide (ce' := 12928) (sl' := 76608) (by omega) (by omega) ?_
                          refine k_bipush hC 269 dX5_isSame_269 (nI 11) (by decide) ?_
                          refine k_newarrI hC 271 11 dX5_isSame_271 (by decide) (by decide) ⟨(Nat.le_of_ble_eq_true rfl), (Nat.le_of_ble_eq_true rfl)⟩ (fun q271 => ?_)
                          refine KJ.eqw (ws' := ((h, .inr (3, [.ref (a 0), .ref (b 0)])) :: (wSt D a (N, T, A, B, to, pi, fe, pl, go, hi, mi, re, lo) ga1 ++ (wSt D b sb1 gb1 ++ ((m, .inr (5, [.int (nI pl), .int (nI go), .int hi, .int mi, .int re, .int lo, .ref p, .ref r])) :: ((p, .inl (D.1 23, 2, qv hs)) :: ((r, .inl (D.1 24, 2, qv hl)) :: ((n0, .inl (D.1 22, N.length, qv f0)) :: ((n1, .inl (D.1 22, T.length, qv f1)) :: ((l0, .inl (D.1 20, A.length, .inl g0)) :: ((l1, .inl (D.1 20, B.length, .inl g1)) :: (va_pl Lp f ++ ((q271, .inl (D.1 20, 11, .inl (fun _ => 0))) :: []))))))))))))) rfl ?_
                          refine KJ.mv ((h, .inr (3, [.ref (a 0), .ref (b 0)])) :: (wSt D a (N, T, A, B, to, pi, fe, pl, go, hi, mi, re, lo) ga1 ++ (wSt D b sb1 gb1 ++ ((m, .inr (5, [.int (nI pl), .int (nI go), .int hi, .int mi, .int re, .int lo, .ref p, .ref r])) :: ((p, .inl (D.1 23, 2, qv hs)) :: ((r, .inl (D.1 24, 2, qv hl)) :: ((n0, .inl (D.1 22, N.length, qv f0)) :: ((n1, .inl (D.1 22, T.length, qv f1)) :: ((l0, .inl (D.1 20, A.length, .inl g0)) :: ((l1, .inl (D.1 20, B.length, .inl g1)) :: [])))))))))) (va_pl Lp f) (q271, .inl (D.1 20, 11, .inl (fun _ => 0))) (by simp only [List.append_assoc, List.cons_append, List.nil_append]) (by simp only [List.append_assoc, List.cons_append, List.nil_append]) (ws' := ((h, .inr (3, [.ref (a 0), .ref (b 0)])) :: (wSt D a (N, T, A, B, to, pi, fe, pl, go, hi, mi, re, lo) ga1 ++ (wSt D b sb1 gb1 ++ ((m, .inr (5, [.int (nI pl), .int (nI go), .int hi, .int mi, .int re, .int lo, .ref p, .ref r])) :: ((p, .inl (D.1 23, 2, qv hs)) :: ((r, .inl (D.1 24, 2, qv hl)) :: ((n0, .inl (D.1 22, N.length, qv f0)) :: ((n1, .inl (D.1 22, T.length, qv f1)) :: ((l0, .inl (D.1 20, A.length, .inl g0)) :: ((l1, .inl (D.1 20, B.length, .inl g1)) :: ((q271, .inl (D.1 20, 11, .inl (fun _ => 0))) :: va_pl Lp f)))))))))))) ?_
                          refine KJ.fw ((h, .inr (3, [.ref (a 0), .ref (b 0)])) :: (wSt D a (N, T, A, B, to, pi, fe, pl, go, hi, mi, re, lo) ga1 ++ wSt D b sb1 gb1)) ((m, .inr (5, [.int (nI pl), .int (nI go), .int hi, .int mi, .int re, .int lo, .ref p, .ref r])) :: ((p, .inl (D.1 23, 2, qv hs)) :: ((r, .inl (D.1 24, 2, qv hl)) :: ((n0, .inl (D.1 22, N.length, qv f0)) :: ((n1, .inl (D.1 22, T.length, qv f1)) :: ((l0, .inl (D.1 20, A.length, .inl g0)) :: ((l1, .inl (D.1 20, B.length, .inl g1)) :: []))))))) (va_pl Lp f) (q271, .inl (D.1 20, 11, .inl (fun _ => 0))) (by simp only [List.append_assoc, List.cons_append, List.nil_append]) (by simp only [List.append_assoc, List.cons_append, List.nil_append]) (ws' := ((h, .inr (3, [.ref (a 0), .ref (b 0)])) :: (wSt D a (N, T, A, B, to, pi, fe, pl, go, hi, mi, re, lo) ga1 ++ (wSt D b sb1 gb1 ++ ((q271, .inl (D.1 20, 11, .inl (fun _ => 0))) :: ((m, .inr (5, [.int (nI pl), .int (nI go), .int hi, .int mi, .int re, .int lo, .ref p, .ref r])) :: ((p, .inl (D.1 23, 2, qv hs)) :: ((r, .inl (D.1 24, 2, qv hl)) :: ((n0, .inl (D.1 22, N.length, qv f0)) :: ((n1, .inl (D.1 22, T.length, qv f1)) :: ((l0, .inl (D.1 20, A.length, .inl g0)) :: ((l1, .inl (D.1 20, B.length, .inl g1)) :: va_pl Lp f)))))))))))) ?_
                          refine k_dup hC 273 dX5_isSame_273 rfl ?_
                          refine k_iconst hC 274 dX5_isSame_274 (nI 0) (by decide) ?_
                          refine k_aload_n hC 275 dX5_isSame_275 rfl ?_
                          refine k_getf hC 276 32 0 dX5_isSame_276 rfl rfl inlX5 (by decide) wq_3_7 rfl ?_
                          refine n_iast hC 279 31 ((h, .inr (3, [.ref (a 0), .ref (b 0)])) :: (wSt D a (N, T, A, B, to, pi, fe, pl, go, hi, mi, re, lo) ga1 ++ (wSt D b sb1 gb1 ++ ((q271, .inl (D.1 20, 11, .inl (upd (fun _ => 0) 0 (nI pl)))) :: ((m, .inr (5, [.int (nI pl), .int (nI go), .int hi, .int mi, .int re, .int lo, .ref p, .ref r])) :: ((p, .inl (D.1 23, 2, qv hs)) :: ((r, .inl (D.1 24, 2, qv hl)) :: ((n0, .inl (D.1 22, N.length, qv f0)) :: ((n1, .inl (D.1 22, T.length, qv f1)) :: ((l0, .inl (D.1 20, A.length, .inl g0)) :: ((l1, .inl (D.1 20, B.length, .inl g1)) :: va_pl Lp f))))))))))) dX5_isSame_279 rfl (by omega) (by decide) rfl ?_
                          refine k_dup hC 280 dX5_isSame_280 rfl ?_
                          refine k_iconst hC 281 dX5_isSame_281 (nI 1) (by decide) ?_
                          refine k_aload_n hC 282 dX5_isSame_282 rfl ?_
                          refine k_getf hC 283 32 6 dX5_isSame_283 rfl rfl inlX5 (by decide) wq_3_10 rfl ?_
                          refine k_iconst hC 286 dX5_isSame_286 (nI 0) (by decide) ?_
                          refine k_aald hC 287 33 0 3 (v := n0) dX5_isSame_287 rfl rfl rfl (by omega) (by omega) s0 ?_
                          refine k_alen hC 288 35 2 (nI N.length) dX5_isSame_288 rfl rfl rfl ?_
                          refine n_iast hC 289 31 ((h, .inr (3, [.ref (a 0), .ref (b 0)])) :: (wSt D a (N, T, A, B, to, pi, fe, pl, go, hi, mi, re, lo) ga1 ++ (wSt D b sb1 gb1 ++ ((q271, .inl (D.1 20, 11, .inl (upd (upd (fun _ => 0) 0 (nI pl)) 1 (nI N.length)))) :: ((m, .inr (5, [.int (nI pl), .int (nI go), .int hi, .int mi, .int re, .int lo, .ref p, .ref r])) :: ((p, .inl (D.1 23, 2, qv hs)) :: ((r, .inl (D.1 24, 2, qv hl)) :: ((n0, .inl (D.1 22, N.length, qv f0)) :: ((n1, .inl (D.1 22, T.length, qv f1)) :: ((l0, .inl (D.1 20, A.length, .inl g0)) :: ((l1, .inl (D.1 20, B.length, .inl g1)) :: va_pl Lp f))))))))))) dX5_isSame_289 rfl (by omega) (by decide) rfl ?_
                          refine k_dup hC 290 dX5_isSame_290 rfl ?_
                          refine k_iconst hC 291 dX5_isSame_291 (nI 2) (by decide) ?_
                          refine k_aload_n hC 292 dX5_isSame_292 rfl ?_
                          refine k_getf hC 293 32 6 dX5_isSame_293 rfl rfl inlX5 (by decide) wq_3_10 rfl ?_
                          refine k_iconst hC 296 dX5_isSame_296 (nI 1) (by decide) ?_
                          refine k_aald hC 297 33 1 3 (v := n1) dX5_isSame_297 rfl rfl rfl (by omega) (by omega) s1 ?_
                          refine k_alen hC 298 36 2 (nI T.length) dX5_isSame_298 rfl rfl rfl ?_
                          refine n_iast hC 299 31 ((h, .inr (3, [.ref (a 0), .ref (b 0)])) :: (wSt D a (N, T, A, B, to, pi, fe, pl, go, hi, mi, re, lo) ga1 ++ (wSt D b sb1 gb1 ++ ((q271, .inl (D.1 20, 11, .inl (upd (upd (upd (fun _ => 0) 0 (nI pl)) 1 (nI N.length)) 2 (nI T.length)))) :: ((m, .inr (5, [.int (nI pl), .int (nI go), .int hi, .int mi, .int re, .int lo, .ref p, .ref r])) :: ((p, .inl (D.1 23, 2, qv hs)) :: ((r, .inl (D.1 24, 2, qv hl)) :: ((n0, .inl (D.1 22, N.length, qv f0)) :: ((n1, .inl (D.1 22, T.length, qv f1)) :: ((l0, .inl (D.1 20, A.length, .inl g0)) :: ((l1, .inl (D.1 20, B.length, .inl g1)) :: va_pl Lp f))))))))))) dX5_isSame_299 rfl (by omega) (by decide) rfl ?_
                          refine k_dup hC 300 dX5_isSame_300 rfl ?_
                          refine k_iconst hC 301 dX5_isSame_301 (nI 3) (by decide) ?_
                          refine k_aload_n hC 302 dX5_isSame_302 rfl ?_
                          refine k_getf hC 303 32 7 dX5_isSame_303 rfl rfl inlX5 (by decide) wq_3_12 rfl ?_
                          refine k_iconst hC 306 dX5_isSame_306 (nI 0) (by decide) ?_
                          refine k_aald hC 307 34 0 4 (v := l0) dX5_isSame_307 rfl rfl rfl (by omega) (by omega) s2' ?_
                          refine k_alen hC 308 37 0 (nI A.length) dX5_isSame_308 rfl rfl rfl ?_
                          refine n_iast hC 309 31 ((h, .inr (3, [.ref (a 0), .ref (b 0)])) :: (wSt D a (N, T, A, B, to, pi, fe, pl, go, hi, mi, re, lo) ga1 ++ (wSt D b sb1 gb1 ++ ((q271, .inl (D.1 20, 11, .inl (upd (upd (upd (upd (fun _ => 0) 0 (nI pl)) 1 (nI N.length)) 2 (nI T.length)) 3 (nI A.length)))) :: ((m, .inr (5, [.int (nI pl), .int (nI go), .int hi, .int mi, .int re, .int lo, .ref p, .ref r])) :: ((p, .inl (D.1 23, 2, qv hs)) :: ((r, .inl (D.1 24, 2, qv hl)) :: ((n0, .inl (D.1 22, N.length, qv f0)) :: ((n1, .inl (D.1 22, T.length, qv f1)) :: ((l0, .inl (D.1 20, A.length, .inl g0)) :: ((l1, .inl (D.1 20, B.length, .inl g1)) :: va_pl Lp f))))))))))) dX5_isSame_309 rfl (by omega) (by decide) rfl ?_
                          refine k_dup hC 310 dX5_isSame_310 rfl ?_
                          refine k_iconst hC 311 dX5_isSame_311 (nI 4) (by decide) ?_
                          refine k_aload_n hC 312 dX5_isSame_312 rfl ?_
                          refine k_getf hC 313 32 7 dX5_isSame_313 rfl rfl inlX5 (by decide) wq_3_12 rfl ?_
                          refine k_iconst hC 316 dX5_isSame_316 (nI 1) (by decide) ?_
                          refine k_aald hC 317 34 1 4 (v := l1) dX5_isSame_317 rfl rfl rfl (by omega) (by omega) s3 ?_
                          refine k_alen hC 318 38 0 (nI B.length) dX5_isSame_318 rfl rfl rfl ?_
                          refine n_iast hC 319 31 ((h, .inr (3, [.ref (a 0), .ref (b 0)])) :: (wSt D a (N, T, A, B, to, pi, fe, pl, go, hi, mi, re, lo) ga1 ++ (wSt D b sb1 gb1 ++ ((q271, .inl (D.1 20, 11, .inl (upd (upd (upd (upd (upd (fun _ => 0) 0 (nI pl)) 1 (nI N.length)) 2 (nI T.length)) 3 (nI A.length)) 4 (nI B.length)))) :: ((m, .inr (5, [.int (nI pl), .int (nI go), .int hi, .int mi, .int re, .int lo, .ref p, .ref r])) :: ((p, .inl (D.1 23, 2, qv hs)) :: ((r, .inl (D.1 24, 2, qv hl)) :: ((n0, .inl (D.1 22, N.length, qv f0)) :: ((n1, .inl (D.1 22, T.length, qv f1)) :: ((l0, .inl (D.1 20, A.length, .inl g0)) :: ((l1, .inl (D.1 20, B.length, .inl g1)) :: va_pl Lp f))))))))))) dX5_isSame_319 rfl (by omega) (by decide) rfl ?_
                          refine k_dup hC 320 dX5_isSame_320 rfl ?_
                          refine k_iconst hC 321 dX5_isSame_321 (nI 5) (by decide) ?_
                          refine k_aload_n hC 322 dX5_isSame_322 rfl ?_
                          refine k_getf hC 323 32 1 dX5_isSame_323 rfl rfl inlX5 (by decide) wq_7_8 rfl ?_
                          refine n_iast hC 326 31 ((h, .inr (3, [.ref (a 0), .ref (b 0)])) :: (wSt D a (N, T, A, B, to, pi, fe, pl, go, hi, mi, re, lo) ga1 ++ (wSt D b sb1 gb1 ++ ((q271, .inl (D.1 20, 11, .inl (upd (upd (upd (upd (upd (upd (fun _ => 0) 0 (nI pl)) 1 (nI N.length)) 2 (nI T.length)) 3 (nI A.length)) 4 (nI B.length)) 5 (nI go)))) :: ((m, .inr (5, [.int (nI pl), .int (nI go), .int hi, .int mi, .int re, .int lo, .ref p, .ref r])) :: ((p, .inl (D.1 23, 2, qv hs)) :: ((r, .inl (D.1 24, 2, qv hl)) :: ((n0, .inl (D.1 22, N.length, qv f0)) :: ((n1, .inl (D.1 22, T.length, qv f1)) :: ((l0, .inl (D.1 20, A.length, .inl g0)) :: ((l1, .inl (D.1 20, B.length, .inl g1)) :: va_pl Lp f))))))))))) dX5_isSame_326 rfl (by omega) (by decide) rfl ?_
                          refine k_dup hC 327 dX5_isSame_327 rfl ?_
                          refine k_bipush hC 328 dX5_isSame_328 (nI 6) (by decide) ?_
                          refine k_aload_n hC 330 dX5_isSame_330 rfl ?_
                          refine k_getf hC 331 32 2 dX5_isSame_331 rfl rfl inlX5 (by decide) wq_12_18 rfl ?_
                          refine n_iast hC 334 31 ((h, .inr (3, [.ref (a 0), .ref (b 0)])) :: (wSt D a (N, T, A, B, to, pi, fe, pl, go, hi, mi, re, lo) ga1 ++ (wSt D b sb1 gb1 ++ ((q271, .inl (D.1 20, 11, .inl (upd (upd (upd (upd (upd (upd (upd (fun _ => 0) 0 (nI pl)) 1 (nI N.length)) 2 (nI T.length)) 3 (nI A.length)) 4 (nI B.length)) 5 (nI go)) 6 hi))) :: ((m, .inr (5, [.int (nI pl), .int (nI go), .int hi, .int mi, .int re, .int lo, .ref p, .ref r])) :: ((p, .inl (D.1 23, 2, qv hs)) :: ((r, .inl (D.1 24, 2, qv hl)) :: ((n0, .inl (D.1 22, N.length, qv f0)) :: ((n1, .inl (D.1 22, T.length, qv f1)) :: ((l0, .inl (D.1 20, A.length, .inl g0)) :: ((l1, .inl (D.1 20, B.length, .inl g1)) :: va_pl Lp f))))))))))) dX5_isSame_334 rfl (by omega) (by decide) rfl ?_
                          refine k_dup hC 335 dX5_isSame_335 rfl ?_
                          refine k_bipush hC 336 dX5_isSame_336 (nI 7) (by decide) ?_
                          refine k_aload_n hC 338 dX5_isSame_338 rfl ?_
                          refine k_getf hC 339 32 3 dX5_isSame_339 rfl rfl inlX5 (by decide) wq_12_19 rfl ?_
                          refine n_iast hC 342 31 ((h, .inr (3, [.ref (a 0), .ref (b 0)])) :: (wSt D a (N, T, A, B, to, pi, fe, pl, go, hi, mi, re, lo) ga1 ++ (wSt D b sb1 gb1 ++ ((q271, .inl (D.1 20, 11, .inl (upd (upd (upd (upd (upd (upd (upd (upd (fun _ => 0) 0 (nI pl)) 1 (nI N.length)) 2 (nI T.length)) 3 (nI A.length)) 4 (nI B.length)) 5 (nI go)) 6 hi) 7 mi))) :: ((m, .inr (5, [.int (nI pl), .int (nI go), .int hi, .int mi, .int re, .int lo, .ref p, .ref r])) :: ((p, .inl (D.1 23, 2, qv hs)) :: ((r, .inl (D.1 24, 2, qv hl)) :: ((n0, .inl (D.1 22, N.length, qv f0)) :: ((n1, .inl (D.1 22, T.length, qv f1)) :: ((l0, .inl (D.1 20, A.length, .inl g0)) :: ((l1, .inl (D.1 20, B.length, .inl g1)) :: va_pl Lp f))))))))))) dX5_isSame_342 rfl (by omega) (by decide) rfl ?_
                          refine k_dup hC 343 dX5_isSame_343 rfl ?_
                          refine k_bipush hC 344 dX5_isSame_344 (nI 8) (by decide) ?_
                          refine k_aload_n hC 346 dX5_isSame_346 rfl ?_
                          refine k_getf hC 347 32 4 dX5_isSame_347 rfl rfl inlX5 (by decide) wq_12_20 rfl ?_
                          refine n_iast hC 350 31 ((h, .inr (3, [.ref (a 0), .ref (b 0)])) :: (wSt D a (N, T, A, B, to, pi, fe, pl, go, hi, mi, re, lo) ga1 ++ (wSt D b sb1 gb1 ++ ((q271, .inl (D.1 20, 11, .inl (upd (upd (upd (upd (upd (upd (upd (upd (upd (fun _ => 0) 0 (nI pl)) 1 (nI N.length)) 2 (nI T.length)) 3 (nI A.length)) 4 (nI B.length)) 5 (nI go)) 6 hi) 7 mi) 8 re))) :: ((m, .inr (5, [.int (nI pl), .int (nI go), .int hi, .int mi, .int re, .int lo, .ref p, .ref r])) :: ((p, .inl (D.1 23, 2, qv hs)) :: ((r, .inl (D.1 24, 2, qv hl)) :: ((n0, .inl (D.1 22, N.length, qv f0)) :: ((n1, .inl (D.1 22, T.length, qv f1)) :: ((l0, .inl (D.1 20, A.length, .inl g0)) :: ((l1, .inl (D.1 20, B.length, .inl g1)) :: va_pl Lp f))))))))))) dX5_isSame_350 rfl (by omega) (by decide) rfl ?_
                          refine k_dup hC 351 dX5_isSame_351 rfl ?_
                          refine k_bipush hC 352 dX5_isSame_352 (nI 9) (by decide) ?_
                          refine k_aload_n hC 354 dX5_isSame_354 rfl ?_
                          refine k_getf hC 355 32 5 dX5_isSame_355 rfl rfl inlX5 (by decide) wq_7_17 rfl ?_
                          refine n_iast hC 358 31 ((h, .inr (3, [.ref (a 0), .ref (b 0)])) :: (wSt D a (N, T, A, B, to, pi, fe, pl, go, hi, mi, re, lo) ga1 ++ (wSt D b sb1 gb1 ++ ((q271, .inl (D.1 20, 11, .inl (upd (upd (upd (upd (upd (upd (upd (upd (upd (upd (fun _ => 0) 0 (nI pl)) 1 (nI N.length)) 2 (nI T.length)) 3 (nI A.length)) 4 (nI B.length)) 5 (nI go)) 6 hi) 7 mi) 8 re) 9 lo))) :: ((m, .inr (5, [.int (nI pl), .int (nI go), .int hi, .int mi, .int re, .int lo, .ref p, .ref r])) :: ((p, .inl (D.1 23, 2, qv hs)) :: ((r, .inl (D.1 24, 2, qv hl)) :: ((n0, .inl (D.1 22, N.length, qv f0)) :: ((n1, .inl (D.1 22, T.length, qv f1)) :: ((l0, .inl (D.1 20, A.length, .inl g0)) :: ((l1, .inl (D.1 20, B.length, .inl g1)) :: va_pl Lp f))))))))))) dX5_isSame_358 rfl (by omega) (by decide) rfl ?_
                          refine k_dup hC 359 dX5_isSame_359 rfl ?_
                          refine k_bipush hC 360 dX5_isSame_360 (nI 10) (by decide) ?_
                          refine k_aload_n hC 362 dX5_isSame_362 rfl ?_
                          refine f_callVe hC 363 32 ((h, .inr (3, [.ref (a 0), .ref (b 0)])) :: (wSt D a (N, T, A, B, to, pi, fe, pl, go, hi, mi, re, lo) ga1 ++ (wSt D b sb1 gb1 ++ ((q271, .inl (D.1 20, 11, .inl (upd (upd (upd (upd (upd (upd (upd (upd (upd (upd (fun _ => 0) 0 (nI pl)) 1 (nI N.length)) 2 (nI T.length)) 3 (nI A.length)) 4 (nI B.length)) 5 (nI go)) 6 hi) 7 mi) 8 re) 9 lo))) :: [])))) (fun u => ((h, .inr (3, [.ref (a 0), .ref (b 0)])) :: (wSt D a (N, T, A, B, to, pi, fe, pl, go, hi, mi, re, lo) ga1 ++ (wSt D b sb1 gb1 ++ ((q271, .inl (D.1 20, 11, .inl (upd (upd (upd (upd (upd (upd (upd (upd (upd (upd (fun _ => 0) 0 (nI pl)) 1 (nI N.length)) 2 (nI T.length)) 3 (nI A.length)) 4 (nI B.length)) 5 (nI go)) 6 hi) 7 mi) 8 re) 9 lo))) :: ((m, .inr (5, [.int (nI pl), .int (nI go), .int hi, .int mi, .int re, .int lo, .ref p, .ref r])) :: ((p, .inl (D.1 23, 2, qv hs)) :: ((r, .inl (D.1 24, 2, qv hl)) :: ((n0, .inl (D.1 22, N.length, qv f0)) :: ((n1, .inl (D.1 22, T.length, qv f1)) :: ((l0, .inl (D.1 20, A.length, .inl g0)) :: ((l1, .inl (D.1 20, B.length, .inl g1)) :: va_pl Lp f)))))))))))) (f_sim_pinned l D m p r (N, T, A, B, to, pi, fe, pl, go, hi, mi, re, lo) (n0, n1, l0, l1, hs, hl, f0, f1, g0, g1, Lp, f, adr) hW hJ) cw_RX5_87 dX5_isSame_363 ⟨Nat.le_of_ble_eq_true rfl, Nat.le_of_ble_eq_true rfl, Nat.le_of_ble_eq_true rfl, Nat.le_of_ble_eq_true rfl⟩ rfl (Nat.le_of_ble_eq_true rfl) rfl rfl rfl (by simp only [List.append_assoc, List.cons_append, List.nil_append, List.append_nil]; rfl) (fun _ => Nat.le_refl _) (fun _ => by simp only [List.append_assoc, List.cons_append, List.nil_append, List.append_nil]; rfl) _ rfl (fun v u hp => ?_)
                          obtain rfl := hp
                          refine KJ.eqs (st' := .int (nI (pc pi N + pc pi T)) :: .int (nI 10) :: .ref q271 :: .ref q271 :: []) rfl ?_
                          refine n_iast hC 366 31 ((h, .inr (3, [.ref (a 0), .ref (b 0)])) :: (wSt D a (N, T, A, B, to, pi, fe, pl, go, hi, mi, re, lo) ga1 ++ (wSt D b sb1 gb1 ++ ((q271, .inl (D.1 20, 11, .inl (upd (upd (upd (upd (upd (upd (upd (upd (upd (upd (upd (fun _ => 0) 0 (nI pl)) 1 (nI N.length)) 2 (nI T.length)) 3 (nI A.length)) 4 (nI B.length)) 5 (nI go)) 6 hi) 7 mi) 8 re) 9 lo) 10 (nI (pc pi N + pc pi T))))) :: ((m, .inr (5, [.int (nI pl), .int (nI go), .int hi, .int mi, .int re, .int lo, .ref p, .ref r])) :: ((p, .inl (D.1 23, 2, qv hs)) :: ((r, .inl (D.1 24, 2, qv hl)) :: ((n0, .inl (D.1 22, N.length, qv f0)) :: ((n1, .inl (D.1 22, T.length, qv f1)) :: ((l0, .inl (D.1 20, A.length, .inl g0)) :: ((l1, .inl (D.1 20, B.length, .inl g1)) :: va_pl Lp f))))))))))) dX5_isSame_366 rfl (by omega) (by decide) rfl ?_
                          refine k_astore_n hC 367 3 [(3, .ref q271), (4, .int (nI k1)), (2, .int (fsm N T fe 40)), (0, .ref m), (1, .ref h)] dX5_isSame_367 rfl (by decide) rfl ?_
                          refine k_iconst hC 368 dX5_isSame_368 (nI 0) (by decide) ?_
                          refine k_istore hC 369 4 [(4, .int (nI 0)), (3, .ref q271), (2, .int (fsm N T fe 40)), (0, .ref m), (1, .ref h)] dX5_isSame_369 (by decide) rfl ?_
                          refine k_iload hC 371 dX5_isSame_371 rfl ?_
                          refine k_bipush hC 373 dX5_isSame_373 (nI 11) (by decide) ?_
                          refine n_icmp_ge hC 375 399 dX5_isSame_375 (by decide) (by omega) (by omega) (fun h375 => ?_) (fun h375 => ?_)
                          · skip
                            exact absurd h375 (by decide)
                          · skip
                            refine k_aload_n hC 378 dX5_isSame_378 rfl ?_
                            refine k_iload hC 379 dX5_isSame_379 rfl ?_
                            refine g_callV hC hX 381 0 ([]) ((q271, .inl (D.1 20, 11, .inl (upd (upd (upd (upd (upd (upd (upd (upd (upd (upd (upd (fun _ => 0) 0 (nI pl)) 1 (nI N.length)) 2 (nI T.length)) 3 (nI A.length)) 4 (nI B.length)) 5 (nI go)) 6 hi) 7 mi) 8 re) 9 lo) 10 (nI (pc pi N + pc pi T))))) :: ((m, .inr (5, [.int (nI pl), .int (nI go), .int hi, .int mi, .int re, .int lo, .ref p, .ref r])) :: ((p, .inl (D.1 23, 2, qv hs)) :: ((r, .inl (D.1 24, 2, qv hl)) :: ((n0, .inl (D.1 22, N.length, qv f0)) :: ((n1, .inl (D.1 22, T.length, qv f1)) :: ((l0, .inl (D.1 20, A.length, .inl g0)) :: ((l1, .inl (D.1 20, B.length, .inl g1)) :: va_pl Lp f)))))))) (fun uq => ((h, .inr (3, [.ref (a 0), .ref (b 0)])) :: (wSt D a uq.1.1 uq.1.2 ++ (wSt D b uq.2.1 uq.2.2 ++ ((q271, .inl (D.1 20, 11, .inl (upd (upd (upd (upd (upd (upd (upd (upd (upd (upd (upd (fun _ => 0) 0 (nI pl)) 1 (nI N.length)) 2 (nI T.length)) 3 (nI A.length)) 4 (nI B.length)) 5 (nI go)) 6 hi) 7 mi) 8 re) 9 lo) 10 (nI (pc pi N + pc pi T))))) :: ((m, .inr (5, [.int (nI pl), .int (nI go), .int hi, .int mi, .int re, .int lo, .ref p, .ref r])) :: ((p, .inl (D.1 23, 2, qv hs)) :: ((r, .inl (D.1 24, 2, qv hl)) :: ((n0, .inl (D.1 22, N.length, qv f0)) :: ((n1, .inl (D.1 22, T.length, qv f1)) :: ((l0, .inl (D.1 20, A.length, .inl g0)) :: ((l1, .inl (D.1 20, B.length, .inl g1)) :: va_pl Lp f)))))))))))) (c_X3_count l hfl D h a b (N, T, A, B, to, pi, fe, pl, go, hi, mi, re, lo) sb1 ga1 gb1 (nI 0) hSa hW) cw_RX5_115 dX5_isSame_381 ⟨Nat.le_of_ble_eq_true rfl, Nat.le_of_ble_eq_true rfl, Nat.le_of_ble_eq_true rfl, Nat.le_of_ble_eq_true rfl⟩ rfl (Nat.le_of_ble_eq_true rfl) rfl rfl rfl (by simp only [List.append_assoc, List.cons_append, List.nil_append, List.append_nil]) (fun _ => rfl) (fun _ => by simp only [List.append_assoc, List.cons_append, List.nil_append, List.append_nil]) _ rfl (fun v uq hp => ?_) (fun E hx => absurd hx (no_x (countK0 (by decide))))
                            obtain ⟨-, rfl, euq, hSq⟩ := hp
                            refine KJ.eqs (st' := .int (ct (N, T, A, B, to, pi, fe, pl, go, hi, mi, re, lo) (kn (nI 0))) :: []) rfl ?_
                            refine KJ.topi (y := (nI pl)) (by rw [kn_ek (by decide)]; rfl) ?_
                            obtain ⟨⟨saq, gaq⟩, sbq, gbq⟩ := uq
                            dsimp only at euq hSq
                            subst euq
                            refine KJ.eqw (ws' := ((h, .inr (3, [.ref (a 0), .ref (b 0)])) :: (wSt D a (N, T, A, B, to, pi, fe, pl, go, hi, mi, re, lo) gaq ++ (wSt D b sbq gbq ++ ((q271, .inl (D.1 20, 11, .inl (upd (upd (upd (upd (upd (upd (upd (upd (upd (upd (upd (fun _ => 0) 0 (nI pl)) 1 (nI N.length)) 2 (nI T.length)) 3 (nI A.length)) 4 (nI B.length)) 5 (nI go)) 6 hi) 7 mi) 8 re) 9 lo) 10 (nI (pc pi N + pc pi T))))) :: ((m, .inr (5, [.int (nI pl), .int (nI go), .int hi, .int mi, .int re, .int lo, .ref p, .ref r])) :: ((p, .inl (D.1 23, 2, qv hs)) :: ((r, .inl (D.1 24, 2, qv hl)) :: ((n0, .inl (D.1 22, N.length, qv f0)) :: ((n1, .inl (D.1 22, T.length, qv f1)) :: ((l0, .inl (D.1 20, A.length, .inl g0)) :: ((l1, .inl (D.1 20, B.length, .inl g1)) :: va_pl Lp f)))))))))))) rfl ?_
                            have hSa := hSq
                            refine k_aload_n hC 384 dX5_isSame_384 rfl ?_
                            refine k_iload hC 385 dX5_isSame_385 rfl ?_
                            refine n_iald hC 387 31 (nI pl) dX5_isSame_387 rfl (by decide) (by decide) rfl ?_
                            refine n_icmp_eq hC 388 393 dX5_isSame_388 (by decide) (by omega) (by omega) (fun h388 => ?_) (fun h388 => ?_)
                            · skip
                              refine k_iinc hC 393 0 (nI 1) [(4, .int (nI 1)), (3, .ref q271), (2, .int (fsm N T fe 40)), (0, .ref m), (1, .ref h)] dX5_isSame_393 rfl (by decide) (by decide) rfl ?_
                              refine k_goto hC 396 371 dX5_isSame_396 (by decide) ?_
                              refine k_iload hC 371 dX5_isSame_371 rfl ?_
                              refine k_bipush hC 373 dX5_isSame_373 (nI 11) (by decide) ?_
                              refine n_icmp_ge hC 375 399 dX5_isSame_375 (by decide) (by omega) (by omega) (fun h375 => ?_) (fun h375 => ?_)
                              · skip
                                exact absurd h375 (by decide)
                              · skip
                                refine k_aload_n hC 378 dX5_isSame_378 rfl ?_
                                refine k_iload hC 379 dX5_isSame_379 rfl ?_
                                refine g_callV hC hX 381 0 ([]) ((q271, .inl (D.1 20, 11, .inl (upd (upd (upd (upd (upd (upd (upd (upd (upd (upd (upd (fun _ => 0) 0 (nI pl)) 1 (nI N.length)) 2 (nI T.length)) 3 (nI A.length)) 4 (nI B.length)) 5 (nI go)) 6 hi) 7 mi) 8 re) 9 lo) 10 (nI (pc pi N + pc pi T))))) :: ((m, .inr (5, [.int (nI pl), .int (nI go), .int hi, .int mi, .int re, .int lo, .ref p, .ref r])) :: ((p, .inl (D.1 23, 2, qv hs)) :: ((r, .inl (D.1 24, 2, qv hl)) :: ((n0, .inl (D.1 22, N.length, qv f0)) :: ((n1, .inl (D.1 22, T.length, qv f1)) :: ((l0, .inl (D.1 20, A.length, .inl g0)) :: ((l1, .inl (D.1 20, B.length, .inl g1)) :: va_pl Lp f)))))))) (fun uq => ((h, .inr (3, [.ref (a 0), .ref (b 0)])) :: (wSt D a uq.1.1 uq.1.2 ++ (wSt D b uq.2.1 uq.2.2 ++ ((q271, .inl (D.1 20, 11, .inl (upd (upd (upd (upd (upd (upd (upd (upd (upd (upd (upd (fun _ => 0) 0 (nI pl)) 1 (nI N.length)) 2 (nI T.length)) 3 (nI A.length)) 4 (nI B.length)) 5 (nI go)) 6 hi) 7 mi) 8 re) 9 lo) 10 (nI (pc pi N + pc pi T))))) :: ((m, .inr (5, [.int (nI pl), .int (nI go), .int hi, .int mi, .int re, .int lo, .ref p, .ref r])) :: ((p, .inl (D.1 23, 2, qv hs)) :: ((r, .inl (D.1 24, 2, qv hl)) :: ((n0, .inl (D.1 22, N.length, qv f0)) :: ((n1, .inl (D.1 22, T.length, qv f1)) :: ((l0, .inl (D.1 20, A.length, .inl g0)) :: ((l1, .inl (D.1 20, B.length, .inl g1)) :: va_pl Lp f)))))))))))) (c_X3_count l hfl D h a b (N, T, A, B, to, pi, fe, pl, go, hi, mi, re, lo) sbq gaq gbq (nI 1) hSa hW) cw_RX5_115 dX5_isSame_381 ⟨Nat.le_of_ble_eq_true rfl, Nat.le_of_ble_eq_true rfl, Nat.le_of_ble_eq_true rfl, Nat.le_of_ble_eq_true rfl⟩ rfl (Nat.le_of_ble_eq_true rfl) rfl rfl rfl (by simp only [List.append_assoc, List.cons_append, List.nil_append, List.append_nil]) (fun _ => rfl) (fun _ => by simp only [List.append_assoc, List.cons_append, List.nil_append, List.append_nil]) _ rfl (fun v uq hp => ?_) (fun E hx => absurd hx (no_x (countK0 (by decide))))
                                obtain ⟨-, rfl, euq, hSq⟩ := hp
                                refine KJ.eqs (st' := .int (ct (N, T, A, B, to, pi, fe, pl, go, hi, mi, re, lo) (kn (nI 1))) :: []) rfl ?_
                                refine KJ.topi (y := (nI N.length)) (by rw [kn_ek (by decide)]; rfl) ?_
                                obtain ⟨⟨saq, gaq⟩, sbq, gbq⟩ := uq
                                dsimp only at euq hSq
                                subst euq
                                refine KJ.eqw (ws' := ((h, .inr (3, [.ref (a 0), .ref (b 0)])) :: (wSt D a (N, T, A, B, to, pi, fe, pl, go, hi, mi, re, lo) gaq ++ (wSt D b sbq gbq ++ ((q271, .inl (D.1 20, 11, .inl (upd (upd (upd (upd (upd (upd (upd (upd (upd (upd (upd (fun _ => 0) 0 (nI pl)) 1 (nI N.length)) 2 (nI T.length)) 3 (nI A.length)) 4 (nI B.length)) 5 (nI go)) 6 hi) 7 mi) 8 re) 9 lo) 10 (nI (pc pi N + pc pi T))))) :: ((m, .inr (5, [.int (nI pl), .int (nI go), .int hi, .int mi, .int re, .int lo, .ref p, .ref r])) :: ((p, .inl (D.1 23, 2, qv hs)) :: ((r, .inl (D.1 24, 2, qv hl)) :: ((n0, .inl (D.1 22, N.length, qv f0)) :: ((n1, .inl (D.1 22, T.length, qv f1)) :: ((l0, .inl (D.1 20, A.length, .inl g0)) :: ((l1, .inl (D.1 20, B.length, .inl g1)) :: va_pl Lp f)))))))))))) rfl ?_
                                have hSa := hSq
                                refine k_aload_n hC 384 dX5_isSame_384 rfl ?_
                                refine k_iload hC 385 dX5_isSame_385 rfl ?_
                                refine n_iald hC 387 31 (nI N.length) dX5_isSame_387 rfl (by decide) (by decide) rfl ?_
                                refine n_icmp_eq hC 388 393 dX5_isSame_388 (by decide) (by omega) (by omega) (fun h388 => ?_) (fun h388 => ?_)
                                · skip
                                  refine k_iinc hC 393 0 (nI 2) [(4, .int (nI 2)), (3, .ref q271), (2, .int (fsm N T fe 40)), (0, .ref m), (1, .ref h)] dX5_isSame_393 rfl (by decide) (by decide) rfl ?_
                                  refine k_goto hC 396 371 dX5_isSame_396 (by decide) ?_
                                  refine k_iload hC 371 dX5_isSame_371 rfl ?_
                                  refine k_bipush hC 373 dX5_isSame_373 (nI 11) (by decide) ?_
                                  refine n_icmp_ge hC 375 399 dX5_isSame_375 (by decide) (by omega) (by omega) (fun h375 => ?_) (fun h375 => ?_)
                                  · skip
                                    exact absurd h375 (by decide)
                                  · skip
                                    refine k_aload_n hC 378 dX5_isSame_378 rfl ?_
                                    refine k_iload hC 379 dX5_isSame_379 rfl ?_
                                    refine g_callV hC hX 381 0 ([]) ((q271, .inl (D.1 20, 11, .inl (upd (upd (upd (upd (upd (upd (upd (upd (upd (upd (upd (fun _ => 0) 0 (nI pl)) 1 (nI N.length)) 2 (nI T.length)) 3 (nI A.length)) 4 (nI B.length)) 5 (nI go)) 6 hi) 7 mi) 8 re) 9 lo) 10 (nI (pc pi N + pc pi T))))) :: ((m, .inr (5, [.int (nI pl), .int (nI go), .int hi, .int mi, .int re, .int lo, .ref p, .ref r])) :: ((p, .inl (D.1 23, 2, qv hs)) :: ((r, .inl (D.1 24, 2, qv hl)) :: ((n0, .inl (D.1 22, N.length, qv f0)) :: ((n1, .inl (D.1 22, T.length, qv f1)) :: ((l0, .inl (D.1 20, A.length, .inl g0)) :: ((l1, .inl (D.1 20, B.length, .inl g1)) :: va_pl Lp f)))))))) (fun uq => ((h, .inr (3, [.ref (a 0), .ref (b 0)])) :: (wSt D a uq.1.1 uq.1.2 ++ (wSt D b uq.2.1 uq.2.2 ++ ((q271, .inl (D.1 20, 11, .inl (upd (upd (upd (upd (upd (upd (upd (upd (upd (upd (upd (fun _ => 0) 0 (nI pl)) 1 (nI N.length)) 2 (nI T.length)) 3 (nI A.length)) 4 (nI B.length)) 5 (nI go)) 6 hi) 7 mi) 8 re) 9 lo) 10 (nI (pc pi N + pc pi T))))) :: ((m, .inr (5, [.int (nI pl), .int (nI go), .int hi, .int mi, .int re, .int lo, .ref p, .ref r])) :: ((p, .inl (D.1 23, 2, qv hs)) :: ((r, .inl (D.1 24, 2, qv hl)) :: ((n0, .inl (D.1 22, N.length, qv f0)) :: ((n1, .inl (D.1 22, T.length, qv f1)) :: ((l0, .inl (D.1 20, A.length, .inl g0)) :: ((l1, .inl (D.1 20, B.length, .inl g1)) :: va_pl Lp f)))))))))))) (c_X3_count l hfl D h a b (N, T, A, B, to, pi, fe, pl, go, hi, mi, re, lo) sbq gaq gbq (nI 2) hSa hW) cw_RX5_115 dX5_isSame_381 ⟨Nat.le_of_ble_eq_true rfl, Nat.le_of_ble_eq_true rfl, Nat.le_of_ble_eq_true rfl, Nat.le_of_ble_eq_true rfl⟩ rfl (Nat.le_of_ble_eq_true rfl) rfl rfl rfl (by simp only [List.append_assoc, List.cons_append, List.nil_append, List.append_nil]) (fun _ => rfl) (fun _ => by simp only [List.append_assoc, List.cons_append, List.nil_append, List.append_nil]) _ rfl (fun v uq hp => ?_) (fun E hx => absurd hx (no_x (countK0 (by decide))))
                                    obtain ⟨-, rfl, euq, hSq⟩ := hp
                                    refine KJ.eqs (st' := .int (ct (N, T, A, B, to, pi, fe, pl, go, hi, mi, re, lo) (kn (nI 2))) :: []) rfl ?_
                                    refine KJ.topi (y := (nI T.length)) (by rw [kn_ek (by decide)]; rfl) ?_
                                    obtain ⟨⟨saq, gaq⟩, sbq, gbq⟩ := uq
                                    dsimp only at euq hSq
                                    subst euq
                                    refine KJ.eqw (ws' := ((h, .inr (3, [.ref (a 0), .ref (b 0)])) :: (wSt D a (N, T, A, B, to, pi, fe, pl, go, hi, mi, re, lo) gaq ++ (wSt D b sbq gbq ++ ((q271, .inl (D.1 20, 11, .inl (upd (upd (upd (upd (upd (upd (upd (upd (upd (upd (upd (fun _ => 0) 0 (nI pl)) 1 (nI N.length)) 2 (nI T.length)) 3 (nI A.length)) 4 (nI B.length)) 5 (nI go)) 6 hi) 7 mi) 8 re) 9 lo) 10 (nI (pc pi N + pc pi T))))) :: ((m, .inr (5, [.int (nI pl), .int (nI go), .int hi, .int mi, .int re, .int lo, .ref p, .ref r])) :: ((p, .inl (D.1 23, 2, qv hs)) :: ((r, .inl (D.1 24, 2, qv hl)) :: ((n0, .inl (D.1 22, N.length, qv f0)) :: ((n1, .inl (D.1 22, T.length, qv f1)) :: ((l0, .inl (D.1 20, A.length, .inl g0)) :: ((l1, .inl (D.1 20, B.length, .inl g1)) :: va_pl Lp f)))))))))))) rfl ?_
                                    have hSa := hSq
                                    refine k_aload_n hC 384 dX5_isSame_384 rfl ?_
                                    refine k_iload hC 385 dX5_isSame_385 rfl ?_
                                    refine n_iald hC 387 31 (nI T.length) dX5_isSame_387 rfl (by decide) (by decide) rfl ?_
                                    refine n_icmp_eq hC 388 393 dX5_isSame_388 (by decide) (by omega) (by omega) (fun h388 => ?_) (fun h388 => ?_)
                                    · skip
                                      refine k_iinc hC 393 0 (nI 3) [(4, .int (nI 3)), (3, .ref q271), (2, .int (fsm N T fe 40)), (0, .ref m), (1, .ref h)] dX5_isSame_393 rfl (by decide) (by decide) rfl ?_
                                      refine k_goto hC 396 371 dX5_isSame_396 (by decide) ?_
                                      refine k_iload hC 371 dX5_isSame_371 rfl ?_
                                      refine k_bipush hC 373 dX5_isSame_373 (nI 11) (by decide) ?_
                                      refine n_icmp_ge hC 375 399 dX5_isSame_375 (by decide) (by omega) (by omega) (fun h375 => ?_) (fun h375 => ?_)
                                      · skip
                                        exact absurd h375 (by decide)
                                      · skip
                                        refine k_aload_n hC 378 dX5_isSame_378 rfl ?_
                                        refine k_iload hC 379 dX5_isSame_379 rfl ?_
                                        refine g_callV hC hX 381 0 ([]) ((q271, .inl (D.1 20, 11, .inl (upd (upd (upd (upd (upd (upd (upd (upd (upd (upd (upd (fun _ => 0) 0 (nI pl)) 1 (nI N.length)) 2 (nI T.length)) 3 (nI A.length)) 4 (nI B.length)) 5 (nI go)) 6 hi) 7 mi) 8 re) 9 lo) 10 (nI (pc pi N + pc pi T))))) :: ((m, .inr (5, [.int (nI pl), .int (nI go), .int hi, .int mi, .int re, .int lo, .ref p, .ref r])) :: ((p, .inl (D.1 23, 2, qv hs)) :: ((r, .inl (D.1 24, 2, qv hl)) :: ((n0, .inl (D.1 22, N.length, qv f0)) :: ((n1, .inl (D.1 22, T.length, qv f1)) :: ((l0, .inl (D.1 20, A.length, .inl g0)) :: ((l1, .inl (D.1 20, B.length, .inl g1)) :: va_pl Lp f)))))))) (fun uq => ((h, .inr (3, [.ref (a 0), .ref (b 0)])) :: (wSt D a uq.1.1 uq.1.2 ++ (wSt D b uq.2.1 uq.2.2 ++ ((q271, .inl (D.1 20, 11, .inl (upd (upd (upd (upd (upd (upd (upd (upd (upd (upd (upd (fun _ => 0) 0 (nI pl)) 1 (nI N.length)) 2 (nI T.length)) 3 (nI A.length)) 4 (nI B.length)) 5 (nI go)) 6 hi) 7 mi) 8 re) 9 lo) 10 (nI (pc pi N + pc pi T))))) :: ((m, .inr (5, [.int (nI pl), .int (nI go), .int hi, .int mi, .int re, .int lo, .ref p, .ref r])) :: ((p, .inl (D.1 23, 2, qv hs)) :: ((r, .inl (D.1 24, 2, qv hl)) :: ((n0, .inl (D.1 22, N.length, qv f0)) :: ((n1, .inl (D.1 22, T.length, qv f1)) :: ((l0, .inl (D.1 20, A.length, .inl g0)) :: ((l1, .inl (D.1 20, B.length, .inl g1)) :: va_pl Lp f)))))))))))) (c_X3_count l hfl D h a b (N, T, A, B, to, pi, fe, pl, go, hi, mi, re, lo) sbq gaq gbq (nI 3) hSa hW) cw_RX5_115 dX5_isSame_381 ⟨Nat.le_of_ble_eq_true rfl, Nat.le_of_ble_eq_true rfl, Nat.le_of_ble_eq_true rfl, Nat.le_of_ble_eq_true rfl⟩ rfl (Nat.le_of_ble_eq_true rfl) rfl rfl rfl (by simp only [List.append_assoc, List.cons_append, List.nil_append, List.append_nil]) (fun _ => rfl) (fun _ => by simp only [List.append_assoc, List.cons_append, List.nil_append, List.append_nil]) _ rfl (fun v uq hp => ?_) (fun E hx => absurd hx (no_x (countK0 (by decide))))
                                        obtain ⟨-, rfl, euq, hSq⟩ := hp
                                        refine KJ.eqs (st' := .int (ct (N, T, A, B, to, pi, fe, pl, go, hi, mi, re, lo) (kn (nI 3))) :: []) rfl ?_
                                        refine KJ.topi (y := (nI A.length)) (by rw [kn_ek (by decide)]; rfl) ?_
                                        obtain ⟨⟨saq, gaq⟩, sbq, gbq⟩ := uq
                                        dsimp only at euq hSq
                                        subst euq
                                        refine KJ.eqw (ws' := ((h, .inr (3, [.ref (a 0), .ref (b 0)])) :: (wSt D a (N, T, A, B, to, pi, fe, pl, go, hi, mi, re, lo) gaq ++ (wSt D b sbq gbq ++ ((q271, .inl (D.1 20, 11, .inl (upd (upd (upd (upd (upd (upd (upd (upd (upd (upd (upd (fun _ => 0) 0 (nI pl)) 1 (nI N.length)) 2 (nI T.length)) 3 (nI A.length)) 4 (nI B.length)) 5 (nI go)) 6 hi) 7 mi) 8 re) 9 lo) 10 (nI (pc pi N + pc pi T))))) :: ((m, .inr (5, [.int (nI pl), .int (nI go), .int hi, .int mi, .int re, .int lo, .ref p, .ref r])) :: ((p, .inl (D.1 23, 2, qv hs)) :: ((r, .inl (D.1 24, 2, qv hl)) :: ((n0, .inl (D.1 22, N.length, qv f0)) :: ((n1, .inl (D.1 22, T.length, qv f1)) :: ((l0, .inl (D.1 20, A.length, .inl g0)) :: ((l1, .inl (D.1 20, B.length, .inl g1)) :: va_pl Lp f)))))))))))) rfl ?_
                                        have hSa := hSq
                                        refine k_aload_n hC 384 dX5_isSame_384 rfl ?_
                                        refine k_iload hC 385 dX5_isSame_385 rfl ?_
                                        refine n_iald hC 387 31 (nI A.length) dX5_isSame_387 rfl (by decide) (by decide) rfl ?_
                                        refine n_icmp_eq hC 388 393 dX5_isSame_388 (by decide) (by omega) (by omega) (fun h388 => ?_) (fun h388 => ?_)
                                        · skip
                                          refine k_iinc hC 393 0 (nI 4) [(4, .int (nI 4)), (3, .ref q271), (2, .int (fsm N T fe 40)), (0, .ref m), (1, .ref h)] dX5_isSame_393 rfl (by decide) (by decide) rfl ?_
                                          refine k_goto hC 396 371 dX5_isSame_396 (by decide) ?_
                                          refine k_iload hC 371 dX5_isSame_371 rfl ?_
                                          refine k_bipush hC 373 dX5_isSame_373 (nI 11) (by decide) ?_
                                          refine n_icmp_ge hC 375 399 dX5_isSame_375 (by decide) (by omega) (by omega) (fun h375 => ?_) (fun h375 => ?_)
                                          · skip
                                            exact absurd h375 (by decide)
                                          · skip
                                            refine k_aload_n hC 378 dX5_isSame_378 rfl ?_
                                            refine k_iload hC 379 dX5_isSame_379 rfl ?_
                                            refine g_callV hC hX 381 0 ([]) ((q271, .inl (D.1 20, 11, .inl (upd (upd (upd (upd (upd (upd (upd (upd (upd (upd (upd (fun _ => 0) 0 (nI pl)) 1 (nI N.length)) 2 (nI T.length)) 3 (nI A.length)) 4 (nI B.length)) 5 (nI go)) 6 hi) 7 mi) 8 re) 9 lo) 10 (nI (pc pi N + pc pi T))))) :: ((m, .inr (5, [.int (nI pl), .int (nI go), .int hi, .int mi, .int re, .int lo, .ref p, .ref r])) :: ((p, .inl (D.1 23, 2, qv hs)) :: ((r, .inl (D.1 24, 2, qv hl)) :: ((n0, .inl (D.1 22, N.length, qv f0)) :: ((n1, .inl (D.1 22, T.length, qv f1)) :: ((l0, .inl (D.1 20, A.length, .inl g0)) :: ((l1, .inl (D.1 20, B.length, .inl g1)) :: va_pl Lp f)))))))) (fun uq => ((h, .inr (3, [.ref (a 0), .ref (b 0)])) :: (wSt D a uq.1.1 uq.1.2 ++ (wSt D b uq.2.1 uq.2.2 ++ ((q271, .inl (D.1 20, 11, .inl (upd (upd (upd (upd (upd (upd (upd (upd (upd (upd (upd (fun _ => 0) 0 (nI pl)) 1 (nI N.length)) 2 (nI T.length)) 3 (nI A.length)) 4 (nI B.length)) 5 (nI go)) 6 hi) 7 mi) 8 re) 9 lo) 10 (nI (pc pi N + pc pi T))))) :: ((m, .inr (5, [.int (nI pl), .int (nI go), .int hi, .int mi, .int re, .int lo, .ref p, .ref r])) :: ((p, .inl (D.1 23, 2, qv hs)) :: ((r, .inl (D.1 24, 2, qv hl)) :: ((n0, .inl (D.1 22, N.length, qv f0)) :: ((n1, .inl (D.1 22, T.length, qv f1)) :: ((l0, .inl (D.1 20, A.length, .inl g0)) :: ((l1, .inl (D.1 20, B.length, .inl g1)) :: va_pl Lp f)))))))))))) (c_X3_count l hfl D h a b (N, T, A, B, to, pi, fe, pl, go, hi, mi, re, lo) sbq gaq gbq (nI 4) hSa hW) cw_RX5_115 dX5_isSame_381 ⟨Nat.le_of_ble_eq_true rfl, Nat.le_of_ble_eq_true rfl, Nat.le_of_ble_eq_true rfl, Nat.le_of_ble_eq_true rfl⟩ rfl (Nat.le_of_ble_eq_true rfl) rfl rfl rfl (by simp only [List.append_assoc, List.cons_append, List.nil_append, List.append_nil]) (fun _ => rfl) (fun _ => by simp only [List.append_assoc, List.cons_append, List.nil_append, List.append_nil]) _ rfl (fun v uq hp => ?_) (fun E hx => absurd hx (no_x (countK0 (by decide))))
                                            obtain ⟨-, rfl, euq, hSq⟩ := hp
                                            refine KJ.eqs (st' := .int (ct (N, T, A, B, to, pi, fe, pl, go, hi, mi, re, lo) (kn (nI 4))) :: []) rfl ?_
                                            refine KJ.topi (y := (nI B.length)) (by rw [kn_ek (by decide)]; rfl) ?_
                                            obtain ⟨⟨saq, gaq⟩, sbq, gbq⟩ := uq
                                            dsimp only at euq hSq
                                            subst euq
                                            refine KJ.eqw (ws' := ((h, .inr (3, [.ref (a 0), .ref (b 0)])) :: (wSt D a (N, T, A, B, to, pi, fe, pl, go, hi, mi, re, lo) gaq ++ (wSt D b sbq gbq ++ ((q271, .inl (D.1 20, 11, .inl (upd (upd (upd (upd (upd (upd (upd (upd (upd (upd (upd (fun _ => 0) 0 (nI pl)) 1 (nI N.length)) 2 (nI T.length)) 3 (nI A.length)) 4 (nI B.length)) 5 (nI go)) 6 hi) 7 mi) 8 re) 9 lo) 10 (nI (pc pi N + pc pi T))))) :: ((m, .inr (5, [.int (nI pl), .int (nI go), .int hi, .int mi, .int re, .int lo, .ref p, .ref r])) :: ((p, .inl (D.1 23, 2, qv hs)) :: ((r, .inl (D.1 24, 2, qv hl)) :: ((n0, .inl (D.1 22, N.length, qv f0)) :: ((n1, .inl (D.1 22, T.length, qv f1)) :: ((l0, .inl (D.1 20, A.length, .inl g0)) :: ((l1, .inl (D.1 20, B.length, .inl g1)) :: va_pl Lp f)))))))))))) rfl ?_
                                            have hSa := hSq
                                            refine k_aload_n hC 384 dX5_isSame_384 rfl ?_
                                            refine k_iload hC 385 dX5_isSame_385 rfl ?_
                                            refine n_iald hC 387 31 (nI B.length) dX5_isSame_387 rfl (by decide) (by decide) rfl ?_
                                            refine n_icmp_eq hC 388 393 dX5_isSame_388 (by decide) (by omega) (by omega) (fun h388 => ?_) (fun h388 => ?_)
                                            · skip
                                              refine k_iinc hC 393 0 (nI 5) [(4, .int (nI 5)), (3, .ref q271), (2, .int (fsm N T fe 40)), (0, .ref m), (1, .ref h)] dX5_isSame_393 rfl (by decide) (by decide) rfl ?_
                                              refine k_goto hC 396 371 dX5_isSame_396 (by decide) ?_
                                              refine k_iload hC 371 dX5_isSame_371 rfl ?_
                                              refine k_bipush hC 373 dX5_isSame_373 (nI 11) (by decide) ?_
                                              refine n_icmp_ge hC 375 399 dX5_isSame_375 (by decide) (by omega) (by omega) (fun h375 => ?_) (fun h375 => ?_)
                                              · skip
                                                exact absurd h375 (by decide)
                                              · skip
                                                refine k_aload_n hC 378 dX5_isSame_378 rfl ?_
                                                refine k_iload hC 379 dX5_isSame_379 rfl ?_
                                                refine g_callV hC hX 381 0 ([]) ((q271, .inl (D.1 20, 11, .inl (upd (upd (upd (upd (upd (upd (upd (upd (upd (upd (upd (fun _ => 0) 0 (nI pl)) 1 (nI N.length)) 2 (nI T.length)) 3 (nI A.length)) 4 (nI B.length)) 5 (nI go)) 6 hi) 7 mi) 8 re) 9 lo) 10 (nI (pc pi N + pc pi T))))) :: ((m, .inr (5, [.int (nI pl), .int (nI go), .int hi, .int mi, .int re, .int lo, .ref p, .ref r])) :: ((p, .inl (D.1 23, 2, qv hs)) :: ((r, .inl (D.1 24, 2, qv hl)) :: ((n0, .inl (D.1 22, N.length, qv f0)) :: ((n1, .inl (D.1 22, T.length, qv f1)) :: ((l0, .inl (D.1 20, A.length, .inl g0)) :: ((l1, .inl (D.1 20, B.length, .inl g1)) :: va_pl Lp f)))))))) (fun uq => ((h, .inr (3, [.ref (a 0), .ref (b 0)])) :: (wSt D a uq.1.1 uq.1.2 ++ (wSt D b uq.2.1 uq.2.2 ++ ((q271, .inl (D.1 20, 11, .inl (upd (upd (upd (upd (upd (upd (upd (upd (upd (upd (upd (fun _ => 0) 0 (nI pl)) 1 (nI N.length)) 2 (nI T.length)) 3 (nI A.length)) 4 (nI B.length)) 5 (nI go)) 6 hi) 7 mi) 8 re) 9 lo) 10 (nI (pc pi N + pc pi T))))) :: ((m, .inr (5, [.int (nI pl), .int (nI go), .int hi, .int mi, .int re, .int lo, .ref p, .ref r])) :: ((p, .inl (D.1 23, 2, qv hs)) :: ((r, .inl (D.1 24, 2, qv hl)) :: ((n0, .inl (D.1 22, N.length, qv f0)) :: ((n1, .inl (D.1 22, T.length, qv f1)) :: ((l0, .inl (D.1 20, A.length, .inl g0)) :: ((l1, .inl (D.1 20, B.length, .inl g1)) :: va_pl Lp f)))))))))))) (c_X3_count l hfl D h a b (N, T, A, B, to, pi, fe, pl, go, hi, mi, re, lo) sbq gaq gbq (nI 5) hSa hW) cw_RX5_115 dX5_isSame_381 ⟨Nat.le_of_ble_eq_true rfl, Nat.le_of_ble_eq_true rfl, Nat.le_of_ble_eq_true rfl, Nat.le_of_ble_eq_true rfl⟩ rfl (Nat.le_of_ble_eq_true rfl) rfl rfl rfl (by simp only [List.append_assoc, List.cons_append, List.nil_append, List.append_nil]) (fun _ => rfl) (fun _ => by simp only [List.append_assoc, List.cons_append, List.nil_append, List.append_nil]) _ rfl (fun v uq hp => ?_) (fun E hx => absurd hx (no_x (countK0 (by decide))))
                                                obtain ⟨-, rfl, euq, hSq⟩ := hp
                                                refine KJ.eqs (st' := .int (ct (N, T, A, B, to, pi, fe, pl, go, hi, mi, re, lo) (kn (nI 5))) :: []) rfl ?_
                                                refine KJ.topi (y := (nI go)) (by rw [kn_ek (by decide)]; rfl) ?_
                                                obtain ⟨⟨saq, gaq⟩, sbq, gbq⟩ := uq
                                                dsimp only at euq hSq
                                                subst euq
                                                refine KJ.eqw (ws' := ((h, .inr (3, [.ref (a 0), .ref (b 0)])) :: (wSt D a (N, T, A, B, to, pi, fe, pl, go, hi, mi, re, lo) gaq ++ (wSt D b sbq gbq ++ ((q271, .inl (D.1 20, 11, .inl (upd (upd (upd (upd (upd (upd (upd (upd (upd (upd (upd (fun _ => 0) 0 (nI pl)) 1 (nI N.length)) 2 (nI T.length)) 3 (nI A.length)) 4 (nI B.length)) 5 (nI go)) 6 hi) 7 mi) 8 re) 9 lo) 10 (nI (pc pi N + pc pi T))))) :: ((m, .inr (5, [.int (nI pl), .int (nI go), .int hi, .int mi, .int re, .int lo, .ref p, .ref r])) :: ((p, .inl (D.1 23, 2, qv hs)) :: ((r, .inl (D.1 24, 2, qv hl)) :: ((n0, .inl (D.1 22, N.length, qv f0)) :: ((n1, .inl (D.1 22, T.length, qv f1)) :: ((l0, .inl (D.1 20, A.length, .inl g0)) :: ((l1, .inl (D.1 20, B.length, .inl g1)) :: va_pl Lp f)))))))))))) rfl ?_
                                                have hSa := hSq
                                                refine k_aload_n hC 384 dX5_isSame_384 rfl ?_
                                                refine k_iload hC 385 dX5_isSame_385 rfl ?_
                                                refine n_iald hC 387 31 (nI go) dX5_isSame_387 rfl (by decide) (by decide) rfl ?_
                                                refine n_icmp_eq hC 388 393 dX5_isSame_388 (by decide) (by omega) (by omega) (fun h388 => ?_) (fun h388 => ?_)
                                                · skip
                                                  refine k_iinc hC 393 0 (nI 6) [(4, .int (nI 6)), (3, .ref q271), (2, .int (fsm N T fe 40)), (0, .ref m), (1, .ref h)] dX5_isSame_393 rfl (by decide) (by decide) rfl ?_
                                                  refine k_goto hC 396 371 dX5_isSame_396 (by decide) ?_
                                                  refine k_iload hC 371 dX5_isSame_371 rfl ?_
                                                  refine k_bipush hC 373 dX5_isSame_373 (nI 11) (by decide) ?_
                                                  refine n_icmp_ge hC 375 399 dX5_isSame_375 (by decide) (by omega) (by omega) (fun h375 => ?_) (fun h375 => ?_)
                                                  · skip
                                                    exact absurd h375 (by decide)
                                                  · skip
                                                    refine k_aload_n hC 378 dX5_isSame_378 rfl ?_
                                                    refine k_iload hC 379 dX5_isSame_379 rfl ?_
                                                    refine g_callV hC hX 381 0 ([]) ((q271, .inl (D.1 20, 11, .inl (upd (upd (upd (upd (upd (upd (upd (upd (upd (upd (upd (fun _ => 0) 0 (nI pl)) 1 (nI N.length)) 2 (nI T.length)) 3 (nI A.length)) 4 (nI B.length)) 5 (nI go)) 6 hi) 7 mi) 8 re) 9 lo) 10 (nI (pc pi N + pc pi T))))) :: ((m, .inr (5, [.int (nI pl), .int (nI go), .int hi, .int mi, .int re, .int lo, .ref p, .ref r])) :: ((p, .inl (D.1 23, 2, qv hs)) :: ((r, .inl (D.1 24, 2, qv hl)) :: ((n0, .inl (D.1 22, N.length, qv f0)) :: ((n1, .inl (D.1 22, T.length, qv f1)) :: ((l0, .inl (D.1 20, A.length, .inl g0)) :: ((l1, .inl (D.1 20, B.length, .inl g1)) :: va_pl Lp f)))))))) (fun uq => ((h, .inr (3, [.ref (a 0), .ref (b 0)])) :: (wSt D a uq.1.1 uq.1.2 ++ (wSt D b uq.2.1 uq.2.2 ++ ((q271, .inl (D.1 20, 11, .inl (upd (upd (upd (upd (upd (upd (upd (upd (upd (upd (upd (fun _ => 0) 0 (nI pl)) 1 (nI N.length)) 2 (nI T.length)) 3 (nI A.length)) 4 (nI B.length)) 5 (nI go)) 6 hi) 7 mi) 8 re) 9 lo) 10 (nI (pc pi N + pc pi T))))) :: ((m, .inr (5, [.int (nI pl), .int (nI go), .int hi, .int mi, .int re, .int lo, .ref p, .ref r])) :: ((p, .inl (D.1 23, 2, qv hs)) :: ((r, .inl (D.1 24, 2, qv hl)) :: ((n0, .inl (D.1 22, N.length, qv f0)) :: ((n1, .inl (D.1 22, T.length, qv f1)) :: ((l0, .inl (D.1 20, A.length, .inl g0)) :: ((l1, .inl (D.1 20, B.length, .inl g1)) :: va_pl Lp f)))))))))))) (c_X3_count l hfl D h a b (N, T, A, B, to, pi, fe, pl, go, hi, mi, re, lo) sbq gaq gbq (nI 6) hSa hW) cw_RX5_115 dX5_isSame_381 ⟨Nat.le_of_ble_eq_true rfl, Nat.le_of_ble_eq_true rfl, Nat.le_of_ble_eq_true rfl, Nat.le_of_ble_eq_true rfl⟩ rfl (Nat.le_of_ble_eq_true rfl) rfl rfl rfl (by simp only [List.append_assoc, List.cons_append, List.nil_append, List.append_nil]) (fun _ => rfl) (fun _ => by simp only [List.append_assoc, List.cons_append, List.nil_append, List.append_nil]) _ rfl (fun v uq hp => ?_) (fun E hx => absurd hx (no_x (countK0 (by decide))))
                                                    obtain ⟨-, rfl, euq, hSq⟩ := hp
                                                    refine KJ.eqs (st' := .int (ct (N, T, A, B, to, pi, fe, pl, go, hi, mi, re, lo) (kn (nI 6))) :: []) rfl ?_
                                                    refine KJ.topi (y := hi) (by rw [kn_ek (by decide)]; rfl) ?_
                                                    obtain ⟨⟨saq, gaq⟩, sbq, gbq⟩ := uq
                                                    dsimp only at euq hSq
                                                    subst euq
                                                    refine KJ.eqw (ws' := ((h, .inr (3, [.ref (a 0), .ref (b 0)])) :: (wSt D a (N, T, A, B, to, pi, fe, pl, go, hi, mi, re, lo) gaq ++ (wSt D b sbq gbq ++ ((q271, .inl (D.1 20, 11, .inl (upd (upd (upd (upd (upd (upd (upd (upd (upd (upd (upd (fun _ => 0) 0 (nI pl)) 1 (nI N.length)) 2 (nI T.length)) 3 (nI A.length)) 4 (nI B.length)) 5 (nI go)) 6 hi) 7 mi) 8 re) 9 lo) 10 (nI (pc pi N + pc pi T))))) :: ((m, .inr (5, [.int (nI pl), .int (nI go), .int hi, .int mi, .int re, .int lo, .ref p, .ref r])) :: ((p, .inl (D.1 23, 2, qv hs)) :: ((r, .inl (D.1 24, 2, qv hl)) :: ((n0, .inl (D.1 22, N.length, qv f0)) :: ((n1, .inl (D.1 22, T.length, qv f1)) :: ((l0, .inl (D.1 20, A.length, .inl g0)) :: ((l1, .inl (D.1 20, B.length, .inl g1)) :: va_pl Lp f)))))))))))) rfl ?_
                                                    have hSa := hSq
                                                    refine k_aload_n hC 384 dX5_isSame_384 rfl ?_
                                                    refine k_iload hC 385 dX5_isSame_385 rfl ?_
                                                    refine n_iald hC 387 31 hi dX5_isSame_387 rfl (by decide) (by decide) rfl ?_
                                                    refine k_icmp_eq hC 388 393 dX5_isSame_388 (by decide) (fun h388 => ?_) (fun h388 => ?_)
                                                    · skip
                                                      refine k_iinc hC 393 0 (nI 7) [(4, .int (nI 7)), (3, .ref q271), (2, .int (fsm N T fe 40)), (0, .ref m), (1, .ref h)] dX5_isSame_393 rfl (by decide) (by decide) rfl ?_
                                                      refine k_goto hC 396 371 dX5_isSame_396 (by decide) ?_
                                                      refine k_iload hC 371 dX5_isSame_371 rfl ?_
                                                      refine k_bipush hC 373 dX5_isSame_373 (nI 11) (by decide) ?_
                                                      refine n_icmp_ge hC 375 399 dX5_isSame_375 (by decide) (by omega) (by omega) (fun h375 => ?_) (fun h375 => ?_)
                                                      · skip
                                                        exact absurd h375 (by decide)
                                                      · skip
                                                        refine k_aload_n hC 378 dX5_isSame_378 rfl ?_
                                                        refine k_iload hC 379 dX5_isSame_379 rfl ?_
                                                        refine g_callV hC hX 381 0 ([]) ((q271, .inl (D.1 20, 11, .inl (upd (upd (upd (upd (upd (upd (upd (upd (upd (upd (upd (fun _ => 0) 0 (nI pl)) 1 (nI N.length)) 2 (nI T.length)) 3 (nI A.length)) 4 (nI B.length)) 5 (nI go)) 6 hi) 7 mi) 8 re) 9 lo) 10 (nI (pc pi N + pc pi T))))) :: ((m, .inr (5, [.int (nI pl), .int (nI go), .int hi, .int mi, .int re, .int lo, .ref p, .ref r])) :: ((p, .inl (D.1 23, 2, qv hs)) :: ((r, .inl (D.1 24, 2, qv hl)) :: ((n0, .inl (D.1 22, N.length, qv f0)) :: ((n1, .inl (D.1 22, T.length, qv f1)) :: ((l0, .inl (D.1 20, A.length, .inl g0)) :: ((l1, .inl (D.1 20, B.length, .inl g1)) :: va_pl Lp f)))))))) (fun uq => ((h, .inr (3, [.ref (a 0), .ref (b 0)])) :: (wSt D a uq.1.1 uq.1.2 ++ (wSt D b uq.2.1 uq.2.2 ++ ((q271, .inl (D.1 20, 11, .inl (upd (upd (upd (upd (upd (upd (upd (upd (upd (upd (upd (fun _ => 0) 0 (nI pl)) 1 (nI N.length)) 2 (nI T.length)) 3 (nI A.length)) 4 (nI B.length)) 5 (nI go)) 6 hi) 7 mi) 8 re) 9 lo) 10 (nI (pc pi N + pc pi T))))) :: ((m, .inr (5, [.int (nI pl), .int (nI go), .int hi, .int mi, .int re, .int lo, .ref p, .ref r])) :: ((p, .inl (D.1 23, 2, qv hs)) :: ((r, .inl (D.1 24, 2, qv hl)) :: ((n0, .inl (D.1 22, N.length, qv f0)) :: ((n1, .inl (D.1 22, T.length, qv f1)) :: ((l0, .inl (D.1 20, A.length, .inl g0)) :: ((l1, .inl (D.1 20, B.length, .inl g1)) :: va_pl Lp f)))))))))))) (c_X3_count l hfl D h a b (N, T, A, B, to, pi, fe, pl, go, hi, mi, re, lo) sbq gaq gbq (nI 7) hSa hW) cw_RX5_115 dX5_isSame_381 ⟨Nat.le_of_ble_eq_true rfl, Nat.le_of_ble_eq_true rfl, Nat.le_of_ble_eq_true rfl, Nat.le_of_ble_eq_true rfl⟩ rfl (Nat.le_of_ble_eq_true rfl) rfl rfl rfl (by simp only [List.append_assoc, List.cons_append, List.nil_append, List.append_nil]) (fun _ => rfl) (fun _ => by simp only [List.append_assoc, List.cons_append, List.nil_append, List.append_nil]) _ rfl (fun v uq hp => ?_) (fun E hx => absurd hx (no_x (countK0 (by decide))))
                                                        obtain ⟨-, rfl, euq, hSq⟩ := hp
                                                        refine KJ.eqs (st' := .int (ct (N, T, A, B, to, pi, fe, pl, go, hi, mi, re, lo) (kn (nI 7))) :: []) rfl ?_
                                                        refine KJ.topi (y := mi) (by rw [kn_ek (by decide)]; rfl) ?_
                                                        obtain ⟨⟨saq, gaq⟩, sbq, gbq⟩ := uq
                                                        dsimp only at euq hSq
                                                        subst euq
                                                        refine KJ.eqw (ws' := ((h, .inr (3, [.ref (a 0), .ref (b 0)])) :: (wSt D a (N, T, A, B, to, pi, fe, pl, go, hi, mi, re, lo) gaq ++ (wSt D b sbq gbq ++ ((q271, .inl (D.1 20, 11, .inl (upd (upd (upd (upd (upd (upd (upd (upd (upd (upd (upd (fun _ => 0) 0 (nI pl)) 1 (nI N.length)) 2 (nI T.length)) 3 (nI A.length)) 4 (nI B.length)) 5 (nI go)) 6 hi) 7 mi) 8 re) 9 lo) 10 (nI (pc pi N + pc pi T))))) :: ((m, .inr (5, [.int (nI pl), .int (nI go), .int hi, .int mi, .int re, .int lo, .ref p, .ref r])) :: ((p, .inl (D.1 23, 2, qv hs)) :: ((r, .inl (D.1 24, 2, qv hl)) :: ((n0, .inl (D.1 22, N.length, qv f0)) :: ((n1, .inl (D.1 22, T.length, qv f1)) :: ((l0, .inl (D.1 20, A.length, .inl g0)) :: ((l1, .inl (D.1 20, B.length, .inl g1)) :: va_pl Lp f)))))))))))) rfl ?_
                                                        have hSa := hSq
                                                        refine k_aload_n hC 384 dX5_isSame_384 rfl ?_
                                                        refine k_iload hC 385 dX5_isSame_385 rfl ?_
                                                        refine n_iald hC 387 31 mi dX5_isSame_387 rfl (by decide) (by decide) rfl ?_
                                                        refine k_icmp_eq hC 388 393 dX5_isSame_388 (by decide) (fun h388 => ?_) (fun h388 => ?_)
                                                        · skip
                                                          refine k_iinc hC 393 0 (nI 8) [(4, .int (nI 8)), (3, .ref q271), (2, .int (fsm N T fe 40)), (0, .ref m), (1, .ref h)] dX5_isSame_393 rfl (by decide) (by decide) rfl ?_
                                                          refine k_goto hC 396 371 dX5_isSame_396 (by decide) ?_
                                                          refine k_iload hC 371 dX5_isSame_371 rfl ?_
                                                          refine k_bipush hC 373 dX5_isSame_373 (nI 11) (by decide) ?_
                                                          refine n_icmp_ge hC 375 399 dX5_isSame_375 (by decide) (by omega) (by omega) (fun h375 => ?_) (fun h375 => ?_)
                                                          · skip
                                                            exact absurd h375 (by decide)
                                                          · skip
                                                            refine k_aload_n hC 378 dX5_isSame_378 rfl ?_
                                                            refine k_iload hC 379 dX5_isSame_379 rfl ?_
                                                            refine g_callV hC hX 381 0 ([]) ((q271, .inl (D.1 20, 11, .inl (upd (upd (upd (upd (upd (upd (upd (upd (upd (upd (upd (fun _ => 0) 0 (nI pl)) 1 (nI N.length)) 2 (nI T.length)) 3 (nI A.length)) 4 (nI B.length)) 5 (nI go)) 6 hi) 7 mi) 8 re) 9 lo) 10 (nI (pc pi N + pc pi T))))) :: ((m, .inr (5, [.int (nI pl), .int (nI go), .int hi, .int mi, .int re, .int lo, .ref p, .ref r])) :: ((p, .inl (D.1 23, 2, qv hs)) :: ((r, .inl (D.1 24, 2, qv hl)) :: ((n0, .inl (D.1 22, N.length, qv f0)) :: ((n1, .inl (D.1 22, T.length, qv f1)) :: ((l0, .inl (D.1 20, A.length, .inl g0)) :: ((l1, .inl (D.1 20, B.length, .inl g1)) :: va_pl Lp f)))))))) (fun uq => ((h, .inr (3, [.ref (a 0), .ref (b 0)])) :: (wSt D a uq.1.1 uq.1.2 ++ (wSt D b uq.2.1 uq.2.2 ++ ((q271, .inl (D.1 20, 11, .inl (upd (upd (upd (upd (upd (upd (upd (upd (upd (upd (upd (fun _ => 0) 0 (nI pl)) 1 (nI N.length)) 2 (nI T.length)) 3 (nI A.length)) 4 (nI B.length)) 5 (nI go)) 6 hi) 7 mi) 8 re) 9 lo) 10 (nI (pc pi N + pc pi T))))) :: ((m, .inr (5, [.int (nI pl), .int (nI go), .int hi, .int mi, .int re, .int lo, .ref p, .ref r])) :: ((p, .inl (D.1 23, 2, qv hs)) :: ((r, .inl (D.1 24, 2, qv hl)) :: ((n0, .inl (D.1 22, N.length, qv f0)) :: ((n1, .inl (D.1 22, T.length, qv f1)) :: ((l0, .inl (D.1 20, A.length, .inl g0)) :: ((l1, .inl (D.1 20, B.length, .inl g1)) :: va_pl Lp f)))))))))))) (c_X3_count l hfl D h a b (N, T, A, B, to, pi, fe, pl, go, hi, mi, re, lo) sbq gaq gbq (nI 8) hSa hW) cw_RX5_115 dX5_isSame_381 ⟨Nat.le_of_ble_eq_true rfl, Nat.le_of_ble_eq_true rfl, Nat.le_of_ble_eq_true rfl, Nat.le_of_ble_eq_true rfl⟩ rfl (Nat.le_of_ble_eq_true rfl) rfl rfl rfl (by simp only [List.append_assoc, List.cons_append, List.nil_append, List.append_nil]) (fun _ => rfl) (fun _ => by simp only [List.append_assoc, List.cons_append, List.nil_append, List.append_nil]) _ rfl (fun v uq hp => ?_) (fun E hx => absurd hx (no_x (countK0 (by decide))))
                                                            obtain ⟨-, rfl, euq, hSq⟩ := hp
                                                            refine KJ.eqs (st' := .int (ct (N, T, A, B, to, pi, fe, pl, go, hi, mi, re, lo) (kn (nI 8))) :: []) rfl ?_
                                                            refine KJ.topi (y := re) (by rw [kn_ek (by decide)]; rfl) ?_
                                                            obtain ⟨⟨saq, gaq⟩, sbq, gbq⟩ := uq
                                                            dsimp only at euq hSq
                                                            subst euq
                                                            refine KJ.eqw (ws' := ((h, .inr (3, [.ref (a 0), .ref (b 0)])) :: (wSt D a (N, T, A, B, to, pi, fe, pl, go, hi, mi, re, lo) gaq ++ (wSt D b sbq gbq ++ ((q271, .inl (D.1 20, 11, .inl (upd (upd (upd (upd (upd (upd (upd (upd (upd (upd (upd (fun _ => 0) 0 (nI pl)) 1 (nI N.length)) 2 (nI T.length)) 3 (nI A.length)) 4 (nI B.length)) 5 (nI go)) 6 hi) 7 mi) 8 re) 9 lo) 10 (nI (pc pi N + pc pi T))))) :: ((m, .inr (5, [.int (nI pl), .int (nI go), .int hi, .int mi, .int re, .int lo, .ref p, .ref r])) :: ((p, .inl (D.1 23, 2, qv hs)) :: ((r, .inl (D.1 24, 2, qv hl)) :: ((n0, .inl (D.1 22, N.length, qv f0)) :: ((n1, .inl (D.1 22, T.length, qv f1)) :: ((l0, .inl (D.1 20, A.length, .inl g0)) :: ((l1, .inl (D.1 20, B.length, .inl g1)) :: va_pl Lp f)))))))))))) rfl ?_
                                                            have hSa := hSq
                                                            refine k_aload_n hC 384 dX5_isSame_384 rfl ?_
                                                            refine k_iload hC 385 dX5_isSame_385 rfl ?_
                                                            refine n_iald hC 387 31 re dX5_isSame_387 rfl (by decide) (by decide) rfl ?_
                                                            refine k_icmp_eq hC 388 393 dX5_isSame_388 (by decide) (fun h388 => ?_) (fun h388 => ?_)
                                                            · skip
                                                              refine k_iinc hC 393 0 (nI 9) [(4, .int (nI 9)), (3, .ref q271), (2, .int (fsm N T fe 40)), (0, .ref m), (1, .ref h)] dX5_isSame_393 rfl (by decide) (by decide) rfl ?_
                                                              refine k_goto hC 396 371 dX5_isSame_396 (by decide) ?_
                                                              refine k_iload hC 371 dX5_isSame_371 rfl ?_
                                                              refine k_bipush hC 373 dX5_isSame_373 (nI 11) (by decide) ?_
                                                              refine n_icmp_ge hC 375 399 dX5_isSame_375 (by decide) (by omega) (by omega) (fun h375 => ?_) (fun h375 => ?_)
                                                              · skip
                                                                exact absurd h375 (by decide)
                                                              · skip
                                                                refine k_aload_n hC 378 dX5_isSame_378 rfl ?_
                                                                refine k_iload hC 379 dX5_isSame_379 rfl ?_
                                                                refine g_callV hC hX 381 0 ([]) ((q271, .inl (D.1 20, 11, .inl (upd (upd (upd (upd (upd (upd (upd (upd (upd (upd (upd (fun _ => 0) 0 (nI pl)) 1 (nI N.length)) 2 (nI T.length)) 3 (nI A.length)) 4 (nI B.length)) 5 (nI go)) 6 hi) 7 mi) 8 re) 9 lo) 10 (nI (pc pi N + pc pi T))))) :: ((m, .inr (5, [.int (nI pl), .int (nI go), .int hi, .int mi, .int re, .int lo, .ref p, .ref r])) :: ((p, .inl (D.1 23, 2, qv hs)) :: ((r, .inl (D.1 24, 2, qv hl)) :: ((n0, .inl (D.1 22, N.length, qv f0)) :: ((n1, .inl (D.1 22, T.length, qv f1)) :: ((l0, .inl (D.1 20, A.length, .inl g0)) :: ((l1, .inl (D.1 20, B.length, .inl g1)) :: va_pl Lp f)))))))) (fun uq => ((h, .inr (3, [.ref (a 0), .ref (b 0)])) :: (wSt D a uq.1.1 uq.1.2 ++ (wSt D b uq.2.1 uq.2.2 ++ ((q271, .inl (D.1 20, 11, .inl (upd (upd (upd (upd (upd (upd (upd (upd (upd (upd (upd (fun _ => 0) 0 (nI pl)) 1 (nI N.length)) 2 (nI T.length)) 3 (nI A.length)) 4 (nI B.length)) 5 (nI go)) 6 hi) 7 mi) 8 re) 9 lo) 10 (nI (pc pi N + pc pi T))))) :: ((m, .inr (5, [.int (nI pl), .int (nI go), .int hi, .int mi, .int re, .int lo, .ref p, .ref r])) :: ((p, .inl (D.1 23, 2, qv hs)) :: ((r, .inl (D.1 24, 2, qv hl)) :: ((n0, .inl (D.1 22, N.length, qv f0)) :: ((n1, .inl (D.1 22, T.length, qv f1)) :: ((l0, .inl (D.1 20, A.length, .inl g0)) :: ((l1, .inl (D.1 20, B.length, .inl g1)) :: va_pl Lp f)))))))))))) (c_X3_count l hfl D h a b (N, T, A, B, to, pi, fe, pl, go, hi, mi, re, lo) sbq gaq gbq (nI 9) hSa hW) cw_RX5_115 dX5_isSame_381 ⟨Nat.le_of_ble_eq_true rfl, Nat.le_of_ble_eq_true rfl, Nat.le_of_ble_eq_true rfl, Nat.le_of_ble_eq_true rfl⟩ rfl (Nat.le_of_ble_eq_true rfl) rfl rfl rfl (by simp only [List.append_assoc, List.cons_append, List.nil_append, List.append_nil]) (fun _ => rfl) (fun _ => by simp only [List.append_assoc, List.cons_append, List.nil_append, List.append_nil]) _ rfl (fun v uq hp => ?_) (fun E hx => absurd hx (no_x (countK0 (by decide))))
                                                                obtain ⟨-, rfl, euq, hSq⟩ := hp
                                                                refine KJ.eqs (st' := .int (ct (N, T, A, B, to, pi, fe, pl, go, hi, mi, re, lo) (kn (nI 9))) :: []) rfl ?_
                                                                refine KJ.topi (y := lo) (by rw [kn_ek (by decide)]; rfl) ?_
                                                                obtain ⟨⟨saq, gaq⟩, sbq, gbq⟩ := uq
                                                                dsimp only at euq hSq
                                                                subst euq
                                                                refine KJ.eqw (ws' := ((h, .inr (3, [.ref (a 0), .ref (b 0)])) :: (wSt D a (N, T, A, B, to, pi, fe, pl, go, hi, mi, re, lo) gaq ++ (wSt D b sbq gbq ++ ((q271, .inl (D.1 20, 11, .inl (upd (upd (upd (upd (upd (upd (upd (upd (upd (upd (upd (fun _ => 0) 0 (nI pl)) 1 (nI N.length)) 2 (nI T.length)) 3 (nI A.length)) 4 (nI B.length)) 5 (nI go)) 6 hi) 7 mi) 8 re) 9 lo) 10 (nI (pc pi N + pc pi T))))) :: ((m, .inr (5, [.int (nI pl), .int (nI go), .int hi, .int mi, .int re, .int lo, .ref p, .ref r])) :: ((p, .inl (D.1 23, 2, qv hs)) :: ((r, .inl (D.1 24, 2, qv hl)) :: ((n0, .inl (D.1 22, N.length, qv f0)) :: ((n1, .inl (D.1 22, T.length, qv f1)) :: ((l0, .inl (D.1 20, A.length, .inl g0)) :: ((l1, .inl (D.1 20, B.length, .inl g1)) :: va_pl Lp f)))))))))))) rfl ?_
                                                                have hSa := hSq
                                                                refine k_aload_n hC 384 dX5_isSame_384 rfl ?_
                                                                refine k_iload hC 385 dX5_isSame_385 rfl ?_
                                                                refine n_iald hC 387 31 lo dX5_isSame_387 rfl (by decide) (by decide) rfl ?_
                                                                refine k_icmp_eq hC 388 393 dX5_isSame_388 (by decide) (fun h388 => ?_) (fun h388 => ?_)
                                                                · skip
                                                                  refine k_iinc hC 393 0 (nI 10) [(4, .int (nI 10)), (3, .ref q271), (2, .int (fsm N T fe 40)), (0, .ref m), (1, .ref h)] dX5_isSame_393 rfl (by decide) (by decide) rfl ?_
                                                                  refine k_goto hC 396 371 dX5_isSame_396 (by decide) ?_
                                                                  refine k_iload hC 371 dX5_isSame_371 rfl ?_
                                                                  refine k_bipush hC 373 dX5_isSame_373 (nI 11) (by decide) ?_
                                                                  refine n_icmp_ge hC 375 399 dX5_isSame_375 (by decide) (by omega) (by omega) (fun h375 => ?_) (fun h375 => ?_)
                                                                  · skip
                                                                    exact absurd h375 (by decide)
                                                                  · skip
                                                                    refine k_aload_n hC 378 dX5_isSame_378 rfl ?_
                                                                    refine k_iload hC 379 dX5_isSame_379 rfl ?_
                                                                    refine g_callV hC hX 381 0 ([]) ((q271, .inl (D.1 20, 11, .inl (upd (upd (upd (upd (upd (upd (upd (upd (upd (upd (upd (fun _ => 0) 0 (nI pl)) 1 (nI N.length)) 2 (nI T.length)) 3 (nI A.length)) 4 (nI B.length)) 5 (nI go)) 6 hi) 7 mi) 8 re) 9 lo) 10 (nI (pc pi N + pc pi T))))) :: ((m, .inr (5, [.int (nI pl), .int (nI go), .int hi, .int mi, .int re, .int lo, .ref p, .ref r])) :: ((p, .inl (D.1 23, 2, qv hs)) :: ((r, .inl (D.1 24, 2, qv hl)) :: ((n0, .inl (D.1 22, N.length, qv f0)) :: ((n1, .inl (D.1 22, T.length, qv f1)) :: ((l0, .inl (D.1 20, A.length, .inl g0)) :: ((l1, .inl (D.1 20, B.length, .inl g1)) :: va_pl Lp f)))))))) (fun uq => ((h, .inr (3, [.ref (a 0), .ref (b 0)])) :: (wSt D a uq.1.1 uq.1.2 ++ (wSt D b uq.2.1 uq.2.2 ++ ((q271, .inl (D.1 20, 11, .inl (upd (upd (upd (upd (upd (upd (upd (upd (upd (upd (upd (fun _ => 0) 0 (nI pl)) 1 (nI N.length)) 2 (nI T.length)) 3 (nI A.length)) 4 (nI B.length)) 5 (nI go)) 6 hi) 7 mi) 8 re) 9 lo) 10 (nI (pc pi N + pc pi T))))) :: ((m, .inr (5, [.int (nI pl), .int (nI go), .int hi, .int mi, .int re, .int lo, .ref p, .ref r])) :: ((p, .inl (D.1 23, 2, qv hs)) :: ((r, .inl (D.1 24, 2, qv hl)) :: ((n0, .inl (D.1 22, N.length, qv f0)) :: ((n1, .inl (D.1 22, T.length, qv f1)) :: ((l0, .inl (D.1 20, A.length, .inl g0)) :: ((l1, .inl (D.1 20, B.length, .inl g1)) :: va_pl Lp f)))))))))))) (c_X3_count l hfl D h a b (N, T, A, B, to, pi, fe, pl, go, hi, mi, re, lo) sbq gaq gbq (nI 10) hSa hW) cw_RX5_115 dX5_isSame_381 ⟨Nat.le_of_ble_eq_true rfl, Nat.le_of_ble_eq_true rfl, Nat.le_of_ble_eq_true rfl, Nat.le_of_ble_eq_true rfl⟩ rfl (Nat.le_of_ble_eq_true rfl) rfl rfl rfl (by simp only [List.append_assoc, List.cons_append, List.nil_append, List.append_nil]) (fun _ => rfl) (fun _ => by simp only [List.append_assoc, List.cons_append, List.nil_append, List.append_nil]) _ rfl (fun v uq hp => ?_) (fun E hx => absurd hx (no_x (countK0 (by decide))))
                                                                    obtain ⟨-, rfl, euq, hSq⟩ := hp
                                                                    refine KJ.eqs (st' := .int (ct (N, T, A, B, to, pi, fe, pl, go, hi, mi, re, lo) (kn (nI 10))) :: []) rfl ?_
                                                                    refine KJ.topi (y := (nI (pc pi N + pc pi T))) (by rw [kn_ek (by decide)]; rfl) ?_
                                                                    obtain ⟨⟨saq, gaq⟩, sbq, gbq⟩ := uq
                                                                    dsimp only at euq hSq
                                                                    subst euq
                                                                    refine KJ.eqw (ws' := ((h, .inr (3, [.ref (a 0), .ref (b 0)])) :: (wSt D a (N, T, A, B, to, pi, fe, pl, go, hi, mi, re, lo) gaq ++ (wSt D b sbq gbq ++ ((q271, .inl (D.1 20, 11, .inl (upd (upd (upd (upd (upd (upd (upd (upd (upd (upd (upd (fun _ => 0) 0 (nI pl)) 1 (nI N.length)) 2 (nI T.length)) 3 (nI A.length)) 4 (nI B.length)) 5 (nI go)) 6 hi) 7 mi) 8 re) 9 lo) 10 (nI (pc pi N + pc pi T))))) :: ((m, .inr (5, [.int (nI pl), .int (nI go), .int hi, .int mi, .int re, .int lo, .ref p, .ref r])) :: ((p, .inl (D.1 23, 2, qv hs)) :: ((r, .inl (D.1 24, 2, qv hl)) :: ((n0, .inl (D.1 22, N.length, qv f0)) :: ((n1, .inl (D.1 22, T.length, qv f1)) :: ((l0, .inl (D.1 20, A.length, .inl g0)) :: ((l1, .inl (D.1 20, B.length, .inl g1)) :: va_pl Lp f)))))))))))) rfl ?_
                                                                    have hSa := hSq
                                                                    refine k_aload_n hC 384 dX5_isSame_384 rfl ?_
                                                                    refine k_iload hC 385 dX5_isSame_385 rfl ?_
                                                                    refine n_iald hC 387 31 (nI (pc pi N + pc pi T)) dX5_isSame_387 rfl (by decide) (by decide) rfl ?_
                                                                    refine n_icmp_eq hC 388 393 dX5_isSame_388 (by decide) (by omega) (by omega) (fun h388 => ?_) (fun h388 => ?_)
                                                                    · skip
                                                                      refine k_iinc hC 393 0 (nI 11) [(4, .int (nI 11)), (3, .ref q271), (2, .int (fsm N T fe 40)), (0, .ref m), (1, .ref h)] dX5_isSame_393 rfl (by decide) (by decide) rfl ?_
                                                                      refine k_goto hC 396 371 dX5_isSame_396 (by decide) ?_
                                                                      refine k_iload hC 371 dX5_isSame_371 rfl ?_
                                                                      refine k_bipush hC 373 dX5_isSame_373 (nI 11) (by decide) ?_
                                                                      refine n_icmp_ge hC 375 399 dX5_isSame_375 (by decide) (by omega) (by omega) (fun h375 => ?_) (fun h375 => ?_)
                                                                      · skip
                                                                        refine KJ.dr ((h, .inr (3, [.ref (a 0), .ref (b 0)])) :: (wSt D a (N, T, A, B, to, pi, fe, pl, go, hi, mi, re, lo) gaq ++ wSt D b sbq gbq)) ((m, .inr (5, [.int (nI pl), .int (nI go), .int hi, .int mi, .int re, .int lo, .ref p, .ref r])) :: ((p, .inl (D.1 23, 2, qv hs)) :: ((r, .inl (D.1 24, 2, qv hl)) :: ((n0, .inl (D.1 22, N.length, qv f0)) :: ((n1, .inl (D.1 22, T.length, qv f1)) :: ((l0, .inl (D.1 20, A.length, .inl g0)) :: ((l1, .inl (D.1 20, B.length, .inl g1)) :: va_pl Lp f))))))) (q271, .inl (D.1 20, 11, .inl (upd (upd (upd (upd (upd (upd (upd (upd (upd (upd (upd (fun _ => 0) 0 (nI pl)) 1 (nI N.length)) 2 (nI T.length)) 3 (nI A.length)) 4 (nI B.length)) 5 (nI go)) 6 hi) 7 mi) 8 re) 9 lo) 10 (nI (pc pi N + pc pi T))))) (by simp only [List.append_assoc, List.cons_append, List.nil_append]) (by simp only [List.append_assoc, List.cons_append, List.nil_append]) (ws' := ((h, .inr (3, [.ref (a 0), .ref (b 0)])) :: (wSt D a (N, T, A, B, to, pi, fe, pl, go, hi, mi, re, lo) gaq ++ (wSt D b sbq gbq ++ ((m, .inr (5, [.int (nI pl), .int (nI go), .int hi, .int mi, .int re, .int lo, .ref p, .ref r])) :: ((p, .inl (D.1 23, 2, qv hs)) :: ((r, .inl (D.1 24, 2, qv hl)) :: ((n0, .inl (D.1 22, N.length, qv f0)) :: ((n1, .inl (D.1 22, T.length, qv f1)) :: ((l0, .inl (D.1 20, A.length, .inl g0)) :: ((l1, .inl (D.1 20, B.length, .inl g1)) :: va_pl Lp f))))))))))) ?_
                                                                        refine k_aload_n hC 399 dX5_isSame_399 rfl ?_
                                                                        refine f_callV hC 400 0 ([]) ((m, .inr (5, [.int (nI pl), .int (nI go), .int hi, .int mi, .int re, .int lo, .ref p, .ref r])) :: ((p, .inl (D.1 23, 2, qv hs)) :: ((r, .inl (D.1 24, 2, qv hl)) :: ((n0, .inl (D.1 22, N.length, qv f0)) :: ((n1, .inl (D.1 22, T.length, qv f1)) :: ((l0, .inl (D.1 20, A.length, .inl g0)) :: ((l1, .inl (D.1 20, B.length, .inl g1)) :: va_pl Lp f))))))) (fun u => ((h, .inr (3, [.ref (a 0), .ref (b 0)])) :: (wSt D a (N, T, A, B, to, pi, fe, pl, go, hi, mi, re, lo) gaq ++ (wSt D b sbq gbq ++ ((m, .inr (5, [.int (nI pl), .int (nI go), .int hi, .int mi, .int re, .int lo, .ref p, .ref r])) :: ((p, .inl (D.1 23, 2, qv hs)) :: ((r, .inl (D.1 24, 2, qv hl)) :: ((n0, .inl (D.1 22, N.length, qv f0)) :: ((n1, .inl (D.1 22, T.length, qv f1)) :: ((l0, .inl (D.1 20, A.length, .inl g0)) :: ((l1, .inl (D.1 20, B.length, .inl g1)) :: va_pl Lp f))))))))))) (c_X3_mean l D h a b (N, T, A, B, to, pi, fe, pl, go, hi, mi, re, lo) sbq gaq gbq hSa hW mean_hN) cw_RX5_118 dX5_isSame_400 ⟨Nat.le_of_ble_eq_true rfl, Nat.le_of_ble_eq_true rfl, Nat.le_of_ble_eq_true rfl, Nat.le_of_ble_eq_true rfl⟩ rfl (Nat.le_of_ble_eq_true rfl) rfl rfl rfl (by simp only [List.append_assoc, List.cons_append, List.nil_append, List.append_nil]) (fun _ => rfl) (fun _ => by simp only [List.append_assoc, List.cons_append, List.nil_append, List.append_nil]) _ rfl (fun v u hp => ?_)
                                                                        obtain rfl := hp
                                                                        refine KJ.eqs (st' := .double (meanV (N, T, A, B, to, pi, fe, pl, go, hi, mi, re, lo)) :: []) rfl ?_
                                                                        refine k_aload_n hC 403 dX5_isSame_403 rfl ?_
                                                                        refine f_callVe hC 404 31 ((h, .inr (3, [.ref (a 0), .ref (b 0)])) :: (wSt D a (N, T, A, B, to, pi, fe, pl, go, hi, mi, re, lo) gaq ++ wSt D b sbq gbq)) (fun u => ((h, .inr (3, [.ref (a 0), .ref (b 0)])) :: (wSt D a (N, T, A, B, to, pi, fe, pl, go, hi, mi, re, lo) gaq ++ (wSt D b sbq gbq ++ ((m, .inr (5, [.int (nI pl), .int (nI go), .int hi, .int mi, .int re, .int lo, .ref p, .ref r])) :: ((p, .inl (D.1 23, 2, qv hs)) :: ((r, .inl (D.1 24, 2, qv hl)) :: ((n0, .inl (D.1 22, N.length, qv f0)) :: ((n1, .inl (D.1 22, T.length, qv f1)) :: ((l0, .inl (D.1 20, A.length, .inl g0)) :: ((l1, .inl (D.1 20, B.length, .inl g1)) :: va_pl Lp f))))))))))) (f_sim_all l D m p r (N, T, A, B, to, pi, fe, pl, go, hi, mi, re, lo) (n0, n1, l0, l1, hs, hl, f0, f1, g0, g1, Lp, f, adr) hW hJ) cw_RX5_83 dX5_isSame_404 ⟨Nat.le_of_ble_eq_true rfl, Nat.le_of_ble_eq_true rfl, Nat.le_of_ble_eq_true rfl, Nat.le_of_ble_eq_true rfl⟩ rfl (Nat.le_of_ble_eq_true rfl) rfl rfl rfl (by simp only [List.append_assoc, List.cons_append, List.nil_append, List.append_nil]; rfl) (fun _ => Nat.le_refl _) (fun _ => by simp only [List.append_assoc, List.cons_append, List.nil_append, List.append_nil]; rfl) _ rfl (fun v u hp => ?_)
                                                                        obtain rfl := hp
                                                                        refine KJ.eqs (st' := .int (nI (N.length + T.length)) :: .double (meanV (N, T, A, B, to, pi, fe, pl, go, hi, mi, re, lo)) :: []) rfl ?_
                                                                        refine n_if_ne hC 407 414 dX5_isSame_407 (by decide) (by omega) (fun h407 => ?_) (fun h407 => ?_)
                                                                        · skip
                                                                          refine k_iload_n hC 414 dX5_isSame_414 rfl ?_
                                                                          refine k_i2d hC 415 dX5_isSame_415 ?_
                                                                          refine k_aload_n hC 416 dX5_isSame_416 rfl ?_
                                                                          refine f_callVe hC 417 31 ((h, .inr (3, [.ref (a 0), .ref (b 0)])) :: (wSt D a (N, T, A, B, to, pi, fe, pl, go, hi, mi, re, lo) gaq ++ wSt D b sbq gbq)) (fun u => ((h, .inr (3, [.ref (a 0), .ref (b 0)])) :: (wSt D a (N, T, A, B, to, pi, fe, pl, go, hi, mi, re, lo) gaq ++ (wSt D b sbq gbq ++ ((m, .inr (5, [.int (nI pl), .int (nI go), .int hi, .int mi, .int re, .int lo, .ref p, .ref r])) :: ((p, .inl (D.1 23, 2, qv hs)) :: ((r, .inl (D.1 24, 2, qv hl)) :: ((n0, .inl (D.1 22, N.length, qv f0)) :: ((n1, .inl (D.1 22, T.length, qv f1)) :: ((l0, .inl (D.1 20, A.length, .inl g0)) :: ((l1, .inl (D.1 20, B.length, .inl g1)) :: va_pl Lp f))))))))))) (f_sim_all l D m p r (N, T, A, B, to, pi, fe, pl, go, hi, mi, re, lo) (n0, n1, l0, l1, hs, hl, f0, f1, g0, g1, Lp, f, adr) hW hJ) cw_RX5_83 dX5_isSame_417 ⟨Nat.le_of_ble_eq_true rfl, Nat.le_of_ble_eq_true rfl, Nat.le_of_ble_eq_true rfl, Nat.le_of_ble_eq_true rfl⟩ rfl (Nat.le_of_ble_eq_true rfl) rfl rfl rfl (by simp only [List.append_assoc, List.cons_append, List.nil_append, List.append_nil]; rfl) (fun _ => Nat.le_refl _) (fun _ => by simp only [List.append_assoc, List.cons_append, List.nil_append, List.append_nil]; rfl) _ rfl (fun v u hp => ?_)
                                                                          obtain rfl := hp
                                                                          refine KJ.eqs (st' := .int (nI (N.length + T.length)) :: .double (FP.i2d (fsm N T fe 40)) :: .double (meanV (N, T, A, B, to, pi, fe, pl, go, hi, mi, re, lo)) :: []) rfl ?_
                                                                          refine k_i2d hC 420 dX5_isSame_420 ?_
                                                                          refine k_ddiv hC 421 dX5_isSame_421 (mean_hN _ _ (by omega) (by omega)) ?_
                                                                          have em : meanV (N, T, A, B, to, pi, fe, pl, go, hi, mi, re, lo) = FP.ddiv (FP.i2d (fsm N T fe 40)) (FP.i2d (nI (N.length + T.length))) := if_neg (show ¬ N.length + T.length < 1 by omega)
                                                                          have en : FP.Core.dIsNaN (FP.ddiv (FP.i2d (fsm N T fe 40)) (FP.i2d (nI (N.length + T.length)))) = false := mean_nan _ _ (by omega) (by omega)
                                                                          refine KJ.eqs (st' := .double (FP.ddiv (FP.i2d (fsm N T fe 40)) (FP.i2d (nI (N.length + T.length)))) :: .double (FP.ddiv (FP.i2d (fsm N T fe 40)) (FP.i2d (nI (N.length + T.length)))) :: []) (by rw [em]) ?_
                                                                          refine k_dcmp hC 422 dX5_isSame_422 ?_
                                                                          refine KJ.topi (y := nI 0) ((dc_self en _).trans nI_0.symm) ?_
                                                                          refine n_if_ne hC 423 430 dX5_isSame_423 (by decide) (by omega) (fun h423 => ?_) (fun h423 => ?_)
                                                                          · skip
                                                                            exact absurd h423 (by decide)
                                                                          · skip
                                                                            refine k_iconst hC 426 dX5_isSame_426 (nI 1) (by decide) ?_
                                                                            refine k_goto hC 427 431 dX5_isSame_427 (by decide) ?_
                                                                            exact k_iret hC hE 431 (gaq, sbq, gbq) dX5_isSame_431 rfl (⟨rfl, hSa⟩) rfl ⟨Nat.le_of_ble_eq_true rfl, Nat.le_of_ble_eq_true rfl⟩
                                                                        · skip
                                                                          refine k_dconst0 hC 410 dX5_isSame_410 ?_
                                                                          refine k_goto hC 411 422 dX5_isSame_411 (by decide) ?_
                                                                          have em : meanV (N, T, A, B, to, pi, fe, pl, go, hi, mi, re, lo) = FP.dconst0 := if_pos (show N.length + T.length < 1 by omega)
                                                                          have en : FP.Core.dIsNaN FP.dconst0 = false := by decide +kernel
                                                                          refine KJ.eqs (st' := .double FP.dconst0 :: .double FP.dconst0 :: []) (by rw [em]) ?_
                                                                          refine k_dcmp hC 422 dX5_isSame_422 ?_
                                                                          refine KJ.topi (y := nI 0) ((dc_self en _).trans nI_0.symm) ?_
                                                                          refine n_if_ne hC 423 430 dX5_isSame_423 (by decide) (by omega) (fun h423 => ?_) (fun h423 => ?_)
                                                                          · skip
                                                                            exact absurd h423 (by decide)
                                                                          · skip
                                                                            refine k_iconst hC 426 dX5_isSame_426 (nI 1) (by decide) ?_
                                                                            refine k_goto hC 427 431 dX5_isSame_427 (by decide) ?_
                                                                            exact k_iret hC hE 431 (gaq, sbq, gbq) dX5_isSame_431 rfl (⟨rfl, hSa⟩) rfl ⟨Nat.le_of_ble_eq_true rfl, Nat.le_of_ble_eq_true rfl⟩
                                                                      · skip
                                                                        exact absurd h375 (by decide)
                                                                    · skip
                                                                      exact absurd rfl h388
                                                                · skip
                                                                  exact absurd rfl h388
                                                            · skip
                                                              exact absurd rfl h388
                                                        · skip
                                                          exact absurd rfl h388
                                                    · skip
                                                      exact absurd rfl h388
                                                · skip
                                                  exact absurd rfl h388
                                            · skip
                                              exact absurd rfl h388
                                        · skip
                                          exact absurd rfl h388
                                    · skip
                                      exact absurd rfl h388
                                · skip
                                  exact absurd rfl h388
                            · skip
                              exact absurd rfl h388
                        · skip
                          exact absurd h218 (by decide)
                      · skip
                        refine k_aload_n hC 236 dX5_isSame_236 rfl ?_
                        refine k_iload_n hC 237 dX5_isSame_237 rfl ?_
                        refine k_iload hC 238 dX5_isSame_238 rfl ?_
                        refine g_callV hC hX 240 0 ([]) ((m, .inr (5, [.int (nI pl), .int (nI go), .int hi, .int mi, .int re, .int lo, .ref p, .ref r])) :: ((p, .inl (D.1 23, 2, qv hs)) :: ((r, .inl (D.1 24, 2, qv hl)) :: ((n0, .inl (D.1 22, N.length, qv f0)) :: ((n1, .inl (D.1 22, T.length, qv f1)) :: ((l0, .inl (D.1 20, A.length, .inl g0)) :: ((l1, .inl (D.1 20, B.length, .inl g1)) :: va_pl Lp f))))))) (fun uq => ((h, .inr (3, [.ref (a 0), .ref (b 0)])) :: (wSt D a uq.1.1 uq.1.2 ++ (wSt D b uq.2.1 uq.2.2 ++ ((m, .inr (5, [.int (nI pl), .int (nI go), .int hi, .int mi, .int re, .int lo, .ref p, .ref r])) :: ((p, .inl (D.1 23, 2, qv hs)) :: ((r, .inl (D.1 24, 2, qv hl)) :: ((n0, .inl (D.1 22, N.length, qv f0)) :: ((n1, .inl (D.1 22, T.length, qv f1)) :: ((l0, .inl (D.1 20, A.length, .inl g0)) :: ((l1, .inl (D.1 20, B.length, .inl g1)) :: va_pl Lp f))))))))))) (c_X3_ghost l hfl D h a b (N, T, A, B, to, pi, fe, pl, go, hi, mi, re, lo) sb1 ga1 gb1 (nI 1) (nI k1) hSa hW) cw_RX5_112 dX5_isSame_240 ⟨Nat.le_of_ble_eq_true rfl, Nat.le_of_ble_eq_true rfl, (show 12904 + 2 * k1 + 2 ≤ 13000 by omega), (show 76464 + 12 * k1 + 12 ≤ 77000 by omega)⟩ rfl (Nat.le_of_ble_eq_true rfl) rfl rfl rfl (by simp only [List.append_assoc, List.cons_append, List.nil_append, List.append_nil]) (fun _ => rfl) (fun _ => by simp only [List.append_assoc, List.cons_append, List.nil_append, List.append_nil]) _ rfl (fun v uq hp => ?_) (fun E hx => absurd hx (no_x (rowK1 h233 (show B.length ≤ 12 by omega))))
                        obtain ⟨-, rfl, euq, hSq⟩ := hp
                        refine KJ.eqs (st' := .int (rowV A B (nI 1) (nI k1)) :: []) rfl ?_
                        refine KJ.topi (y := (nI (B.getD k1 0))) (rowV1 (by omega)) ?_
                        obtain ⟨⟨saq, gaq⟩, sbq, gbq⟩ := uq
                        dsimp only at euq hSq
                        subst euq
                        refine KJ.eqw (ws' := ((h, .inr (3, [.ref (a 0), .ref (b 0)])) :: (wSt D a (N, T, A, B, to, pi, fe, pl, go, hi, mi, re, lo) gaq ++ (wSt D b sbq gbq ++ ((m, .inr (5, [.int (nI pl), .int (nI go), .int hi, .int mi, .int re, .int lo, .ref p, .ref r])) :: ((p, .inl (D.1 23, 2, qv hs)) :: ((r, .inl (D.1 24, 2, qv hl)) :: ((n0, .inl (D.1 22, N.length, qv f0)) :: ((n1, .inl (D.1 22, T.length, qv f1)) :: ((l0, .inl (D.1 20, A.length, .inl g0)) :: ((l1, .inl (D.1 20, B.length, .inl g1)) :: va_pl Lp f))))))))))) rfl ?_
                        have hSa := hSq
                        refine k_aload_n hC 243 dX5_isSame_243 rfl ?_
                        refine k_getf hC 244 31 7 dX5_isSame_244 rfl rfl inlX5 (by decide) wq_3_12 rfl ?_
                        refine k_iload_n hC 247 dX5_isSame_247 rfl ?_
                        refine k_aald hC 248 33 1 4 (v := l1) dX5_isSame_248 rfl rfl rfl (by omega) (by omega) s3 ?_
                        refine k_iload hC 249 dX5_isSame_249 rfl ?_
                        refine n_iald hC 251 37 (nI (B.getD k1 0)) dX5_isSame_251 rfl (by omega) (by omega) (a1 k1 h233) ?_
                        refine n_icmp_eq hC 252 257 dX5_isSame_252 (by decide) (by omega) (by omega) (fun h252 => ?_) (fun h252 => ?_)
                        · skip
                          refine k_iinc hC 257 0 (nI (k1 + 1)) [(4, .int (nI (k1 + 1))), (3, .int (nI 1)), (2, .int (fsm N T fe 40)), (0, .ref m), (1, .ref h)] dX5_isSame_257 rfl (nI_1 _) (by decide) rfl ?_
                          refine k_goto hC 260 224 dX5_isSame_260 (by decide) ?_
                          exact KJ.wide (by omega) (by omega) (ih224 (k1 + 1) gaq sbq gbq (by omega) (by omega) hSa)
                        · skip
                          exact absurd rfl h252
                  exact KJ.wide (by omega) (by omega) (loop224 (B.length + 1) 0 ga0 sb0 gb0 (by omega) (by omega) hSa)
              · skip
                refine k_aload_n hC 236 dX5_isSame_236 rfl ?_
                refine k_iload_n hC 237 dX5_isSame_237 rfl ?_
                refine k_iload hC 238 dX5_isSame_238 rfl ?_
                refine g_callV hC hX 240 0 ([]) ((m, .inr (5, [.int (nI pl), .int (nI go), .int hi, .int mi, .int re, .int lo, .ref p, .ref r])) :: ((p, .inl (D.1 23, 2, qv hs)) :: ((r, .inl (D.1 24, 2, qv hl)) :: ((n0, .inl (D.1 22, N.length, qv f0)) :: ((n1, .inl (D.1 22, T.length, qv f1)) :: ((l0, .inl (D.1 20, A.length, .inl g0)) :: ((l1, .inl (D.1 20, B.length, .inl g1)) :: va_pl Lp f))))))) (fun uq => ((h, .inr (3, [.ref (a 0), .ref (b 0)])) :: (wSt D a uq.1.1 uq.1.2 ++ (wSt D b uq.2.1 uq.2.2 ++ ((m, .inr (5, [.int (nI pl), .int (nI go), .int hi, .int mi, .int re, .int lo, .ref p, .ref r])) :: ((p, .inl (D.1 23, 2, qv hs)) :: ((r, .inl (D.1 24, 2, qv hl)) :: ((n0, .inl (D.1 22, N.length, qv f0)) :: ((n1, .inl (D.1 22, T.length, qv f1)) :: ((l0, .inl (D.1 20, A.length, .inl g0)) :: ((l1, .inl (D.1 20, B.length, .inl g1)) :: va_pl Lp f))))))))))) (c_X3_ghost l hfl D h a b (N, T, A, B, to, pi, fe, pl, go, hi, mi, re, lo) sb0 ga0 gb0 (nI 0) (nI k0) hSa hW) cw_RX5_112 dX5_isSame_240 ⟨Nat.le_of_ble_eq_true rfl, Nat.le_of_ble_eq_true rfl, (show 12880 + 2 * k0 + 2 ≤ 13000 by omega), (show 76320 + 12 * k0 + 12 ≤ 77000 by omega)⟩ rfl (Nat.le_of_ble_eq_true rfl) rfl rfl rfl (by simp only [List.append_assoc, List.cons_append, List.nil_append, List.append_nil]) (fun _ => rfl) (fun _ => by simp only [List.append_assoc, List.cons_append, List.nil_append, List.append_nil]) _ rfl (fun v uq hp => ?_) (fun E hx => absurd hx (no_x (rowK0 h233 (show A.length ≤ 12 by omega))))
                obtain ⟨-, rfl, euq, hSq⟩ := hp
                refine KJ.eqs (st' := .int (rowV A B (nI 0) (nI k0)) :: []) rfl ?_
                refine KJ.topi (y := (nI (A.getD k0 0))) (rowV0 (by omega)) ?_
                obtain ⟨⟨saq, gaq⟩, sbq, gbq⟩ := uq
                dsimp only at euq hSq
                subst euq
                refine KJ.eqw (ws' := ((h, .inr (3, [.ref (a 0), .ref (b 0)])) :: (wSt D a (N, T, A, B, to, pi, fe, pl, go, hi, mi, re, lo) gaq ++ (wSt D b sbq gbq ++ ((m, .inr (5, [.int (nI pl), .int (nI go), .int hi, .int mi, .int re, .int lo, .ref p, .ref r])) :: ((p, .inl (D.1 23, 2, qv hs)) :: ((r, .inl (D.1 24, 2, qv hl)) :: ((n0, .inl (D.1 22, N.length, qv f0)) :: ((n1, .inl (D.1 22, T.length, qv f1)) :: ((l0, .inl (D.1 20, A.length, .inl g0)) :: ((l1, .inl (D.1 20, B.length, .inl g1)) :: va_pl Lp f))))))))))) rfl ?_
                have hSa := hSq
                refine k_aload_n hC 243 dX5_isSame_243 rfl ?_
                refine k_getf hC 244 31 7 dX5_isSame_244 rfl rfl inlX5 (by decide) wq_3_12 rfl ?_
                refine k_iload_n hC 247 dX5_isSame_247 rfl ?_
                refine k_aald hC 248 33 0 4 (v := l0) dX5_isSame_248 rfl rfl rfl (by omega) (by omega) s2' ?_
                refine k_iload hC 249 dX5_isSame_249 rfl ?_
                refine n_iald hC 251 36 (nI (A.getD k0 0)) dX5_isSame_251 rfl (by omega) (by omega) (a0 k0 h233) ?_
                refine n_icmp_eq hC 252 257 dX5_isSame_252 (by decide) (by omega) (by omega) (fun h252 => ?_) (fun h252 => ?_)
                · skip
                  refine k_iinc hC 257 0 (nI (k0 + 1)) [(4, .int (nI (k0 + 1))), (3, .int (nI 0)), (2, .int (fsm N T fe 40)), (0, .ref m), (1, .ref h)] dX5_isSame_257 rfl (nI_1 _) (by decide) rfl ?_
                  refine k_goto hC 260 224 dX5_isSame_260 (by decide) ?_
                  exact KJ.wide (by omega) (by omega) (ih224 (k0 + 1) gaq sbq gbq (by omega) (by omega) hSa)
                · skip
                  exact absurd rfl h252
          exact KJ.wide (by omega) (by omega) (loop224 (A.length + 1) 0 ga sb gb (by omega) (by omega) hSa)
      · skip
        have hkd4 : kd < 40 := h7
        have e0 : fsm N T fe kd = (if kd ∈ N.take 0 ∨ kd ∈ T.take 0 then fsm N T fe kd + fe kd else fsm N T fe kd) := by
          rw [if_neg (fun z => z.elim (fun y => by simp at y) (fun y => by simp at y))]
        refine KJ.eql (lv' := [(3, .int (nI kd)), (2, .int (if kd ∈ N.take 0 ∨ kd ∈ T.take 0 then fsm N T fe kd + fe kd else fsm N T fe kd)), (0, .ref m), (1, .ref h)]) (by rw [← e0]) ?_
        refine k_iconst hC 10 dX5_isSame_10 (nI 0) (by decide) ?_
        refine k_istore hC 11 4 [(4, .int (nI 0)), (3, .int (nI kd)), (2, .int (if kd ∈ N.take 0 ∨ kd ∈ T.take 0 then fsm N T fe kd + fe kd else fsm N T fe kd)), (0, .ref m), (1, .ref h)] dX5_isSame_11 (by decide) rfl ?_
        refine k_iload hC 13 dX5_isSame_13 rfl ?_
        refine k_iconst hC 15 dX5_isSame_15 (nI 2) (by decide) ?_
        refine n_icmp_ge hC 16 172 dX5_isSame_16 (by decide) (by omega) (by omega) (fun h16 => ?_) (fun h16 => ?_)
        · skip
          exact absurd h16 (by decide)
        · skip
          refine k_iconst hC 19 dX5_isSame_19 (nI 0) (by decide) ?_
          refine k_istore hC 20 5 [(5, .int (nI 0)), (4, .int (nI 0)), (3, .int (nI kd)), (2, .int (if kd ∈ N.take 0 ∨ kd ∈ T.take 0 then fsm N T fe kd + fe kd else fsm N T fe kd)), (0, .ref m), (1, .ref h)] dX5_isSame_20 (by decide) rfl ?_
          have loop22 : ∀ (nn22 : Nat) (k0 : Nat) (ga0 : PG) (sb0 : PS) (gb0 : PG), N.length - k0 < nn22 → k0 ≤ N.length → SR (N, T, A, B, to, pi, fe, pl, go, hi, mi, re, lo) ga0 → KJ l G D ({ frames := 8, cells := 13000, slots := 77000, locals := 126 } : Room) 9 (0 + 322 * kd + 13 * k0) (0 + 1908 * kd + 77 * k0) ((h, .inr (3, [.ref (a 0), .ref (b 0)])) :: (wSt D a (N, T, A, B, to, pi, fe, pl, go, hi, mi, re, lo) ga0 ++ (wSt D b sb0 gb0 ++ ((m, .inr (5, [.int (nI pl), .int (nI go), .int hi, .int mi, .int re, .int lo, .ref p, .ref r])) :: ((p, .inl (D.1 23, 2, qv hs)) :: ((r, .inl (D.1 24, 2, qv hl)) :: ((n0, .inl (D.1 22, N.length, qv f0)) :: ((n1, .inl (D.1 22, T.length, qv f1)) :: ((l0, .inl (D.1 20, A.length, .inl g0)) :: ((l1, .inl (D.1 20, B.length, .inl g1)) :: va_pl Lp f)))))))))) [(5, .int (nI k0)), (4, .int (nI 0)), (3, .int (nI kd)), (2, .int (if kd ∈ N.take k0 ∨ kd ∈ T.take 0 then fsm N T fe kd + fe kd else fsm N T fe kd)), (0, .ref m), (1, .ref h)] 22 ([]) := by
            intro nn22
            induction nn22 with
            | zero => intro k0 ga0 sb0 gb0 h; exact absurd h (Nat.not_lt_zero _)
            | succ nn22 ih22 =>
              intro k0 ga0 sb0 gb0 hn22 hk0 hSa
              have hgk := kN.g k0
              refine k_iload hC 22 dX5_isSame_22 rfl ?_
              refine k_aload_n hC 24 dX5_isSame_24 rfl ?_
              refine k_getf hC 25 31 6 dX5_isSame_25 rfl rfl inlX5 (by decide) wq_3_10 rfl ?_
              refine k_iload hC 28 dX5_isSame_28 rfl ?_
              refine k_aald hC 30 32 0 3 (v := n0) dX5_isSame_30 rfl rfl rfl (by omega) (by omega) s0 ?_
              refine k_alen hC 31 34 2 (nI N.length) dX5_isSame_31 rfl rfl rfl ?_
              refine n_icmp_ge hC 32 166 dX5_isSame_32 (by decide) (by omega) (by omega) (fun h32 => ?_) (fun h32 => ?_)
              · skip
                refine k_iinc hC 166 1 (nI 1) [(4, .int (nI 1)), (5, .int (nI k0)), (3, .int (nI kd)), (2, .int (if kd ∈ N.take k0 ∨ kd ∈ T.take 0 then fsm N T fe kd + fe kd else fsm N T fe kd)), (0, .ref m), (1, .ref h)] dX5_isSame_166 rfl (by decide) (by decide) rfl ?_
                refine k_goto hC 169 13 dX5_isSame_169 (by decide) ?_
                refine k_iload hC 13 dX5_isSame_13 rfl ?_
                refine k_iconst hC 15 dX5_isSame_15 (nI 2) (by decide) ?_
                refine n_icmp_ge hC 16 172 dX5_isSame_16 (by decide) (by omega) (by omega) (fun h16 => ?_) (fun h16 => ?_)
                · skip
                  exact absurd h16 (by decide)
                · skip
                  refine k_iconst hC 19 dX5_isSame_19 (nI 0) (by decide) ?_
                  refine k_istore hC 20 5 [(5, .int (nI 0)), (4, .int (nI 1)), (3, .int (nI kd)), (2, .int (if kd ∈ N.take k0 ∨ kd ∈ T.take 0 then fsm N T fe kd + fe kd else fsm N T fe kd)), (0, .ref m), (1, .ref h)] dX5_isSame_20 (by decide) rfl ?_
                  refine KJ.eql (lv' := [(5, .int (nI 0)), (4, .int (nI 1)), (3, .int (nI kd)), (2, .int (if kd ∈ N.take N.length ∨ kd ∈ T.take 0 then fsm N T fe kd + fe kd else fsm N T fe kd)), (0, .ref m), (1, .ref h)]) (by rw [show k0 = N.length by omega]) ?_
                  have loop22 : ∀ (nn22 : Nat) (k1 : Nat) (ga1 : PG) (sb1 : PS) (gb1 : PG), T.length - k1 < nn22 → k1 ≤ T.length → SR (N, T, A, B, to, pi, fe, pl, go, hi, mi, re, lo) ga1 → KJ l G D ({ frames := 8, cells := 13000, slots := 77000, locals := 126 } : Room) 9 (0 + 322 * kd + 156 + 13 * k1) (0 + 1908 * kd + 924 + 77 * k1) ((h, .inr (3, [.ref (a 0), .ref (b 0)])) :: (wSt D a (N, T, A, B, to, pi, fe, pl, go, hi, mi, re, lo) ga1 ++ (wSt D b sb1 gb1 ++ ((m, .inr (5, [.int (nI pl), .int (nI go), .int hi, .int mi, .int re, .int lo, .ref p, .ref r])) :: ((p, .inl (D.1 23, 2, qv hs)) :: ((r, .inl (D.1 24, 2, qv hl)) :: ((n0, .inl (D.1 22, N.length, qv f0)) :: ((n1, .inl (D.1 22, T.length, qv f1)) :: ((l0, .inl (D.1 20, A.length, .inl g0)) :: ((l1, .inl (D.1 20, B.length, .inl g1)) :: va_pl Lp f)))))))))) [(5, .int (nI k1)), (4, .int (nI 1)), (3, .int (nI kd)), (2, .int (if kd ∈ N.take N.length ∨ kd ∈ T.take k1 then fsm N T fe kd + fe kd else fsm N T fe kd)), (0, .ref m), (1, .ref h)] 22 ([]) := by
                    intro nn22
                    induction nn22 with
                    | zero => intro k1 ga1 sb1 gb1 h; exact absurd h (Nat.not_lt_zero _)
                    | succ nn22 ih22 =>
                      intro k1 ga1 sb1 gb1 hn22 hk1 hSa
                      have hgk := kT.g k1
                      refine k_iload hC 22 dX5_isSame_22 rfl ?_
                      refine k_aload_n hC 24 dX5_isSame_24 rfl ?_
                      refine k_getf hC 25 31 6 dX5_isSame_25 rfl rfl inlX5 (by decide) wq_3_10 rfl ?_
                      refine k_iload hC 28 dX5_isSame_28 rfl ?_
                      refine k_aald hC 30 32 1 3 (v := n1) dX5_isSame_30 rfl rfl rfl (by omega) (by omega) s1 ?_
                      refine k_alen hC 31 35 2 (nI T.length) dX5_isSame_31 rfl rfl rfl ?_
                      refine n_icmp_ge hC 32 166 dX5_isSame_32 (by decide) (by omega) (by omega) (fun h32 => ?_) (fun h32 => ?_)
                      · skip
                        refine k_iinc hC 166 1 (nI 2) [(4, .int (nI 2)), (5, .int (nI k1)), (3, .int (nI kd)), (2, .int (if kd ∈ N.take N.length ∨ kd ∈ T.take k1 then fsm N T fe kd + fe kd else fsm N T fe kd)), (0, .ref m), (1, .ref h)] dX5_isSame_166 rfl (by decide) (by decide) rfl ?_
                        refine k_goto hC 169 13 dX5_isSame_169 (by decide) ?_
                        refine k_iload hC 13 dX5_isSame_13 rfl ?_
                        refine k_iconst hC 15 dX5_isSame_15 (nI 2) (by decide) ?_
                        refine n_icmp_ge hC 16 172 dX5_isSame_16 (by decide) (by omega) (by omega) (fun h16 => ?_) (fun h16 => ?_)
                        · skip
                          have es : (if kd ∈ N.take N.length ∨ kd ∈ T.take k1 then fsm N T fe kd + fe kd else fsm N T fe kd) = fsm N T fe (kd + 1) := by
                            rw [show k1 = T.length by omega, List.take_length, List.take_length]
                            rfl
                          refine KJ.eql (lv' := [(4, .int (nI 2)), (5, .int (nI k1)), (3, .int (nI kd)), (2, .int (fsm N T fe (kd + 1))), (0, .ref m), (1, .ref h)]) (by rw [es]) ?_
                          by_cases hin : kd ∈ N ∨ kd ∈ T
                          · skip
                            refine k_aload_n hC 172 dX5_isSame_172 rfl ?_
                            refine k_iload_n hC 173 dX5_isSame_173 rfl ?_
                            refine f_callVe hC 174 31 ((h, .inr (3, [.ref (a 0), .ref (b 0)])) :: (wSt D a (N, T, A, B, to, pi, fe, pl, go, hi, mi, re, lo) ga1 ++ wSt D b sb1 gb1)) (fun u => ((h, .inr (3, [.ref (a 0), .ref (b 0)])) :: (wSt D a (N, T, A, B, to, pi, fe, pl, go, hi, mi, re, lo) ga1 ++ (wSt D b sb1 gb1 ++ ((m, .inr (5, [.int (nI pl), .int (nI go), .int hi, .int mi, .int re, .int lo, .ref p, .ref r])) :: ((p, .inl (D.1 23, 2, qv hs)) :: ((r, .inl (D.1 24, 2, qv hl)) :: ((n0, .inl (D.1 22, N.length, qv f0)) :: ((n1, .inl (D.1 22, T.length, qv f1)) :: ((l0, .inl (D.1 20, A.length, .inl g0)) :: ((l1, .inl (D.1 20, B.length, .inl g1)) :: va_pl Lp f))))))))))) (f_find_in l D m p r (N, T, A, B, to, pi, fe, pl, go, hi, mi, re, lo) (n0, n1, l0, l1, hs, hl, f0, f1, g0, g1, Lp, f, adr) kd hW hJ hkd4 hin) cw_RX5_76 dX5_isSame_174 ⟨Nat.le_of_ble_eq_true rfl, Nat.le_of_ble_eq_true rfl, (show 0 + 322 * kd + 156 + 13 * k1 + 0 ≤ 13000 by omega), (show 0 + 1908 * kd + 924 + 77 * k1 + 0 ≤ 77000 by omega)⟩ rfl (Nat.le_of_ble_eq_true rfl) rfl rfl rfl (by simp only [List.append_assoc, List.cons_append, List.nil_append, List.append_nil]; rfl) (fun _ => Nat.le_refl _) (fun _ => by simp only [List.append_assoc, List.cons_append, List.nil_append, List.append_nil]; rfl) _ rfl (fun v u hp => ?_)
                            obtain rfl := hp
                            refine KJ.eqs (st' := .ref (adr kd) :: []) rfl ?_
                            refine k_ifnonnull hC 177 208 dX5_isSame_177 (by decide) ?_
                            refine k_iinc hC 208 2 (nI (kd + 1)) [(3, .int (nI (kd + 1))), (4, .int (nI 2)), (5, .int (nI k1)), (2, .int (fsm N T fe (kd + 1))), (0, .ref m), (1, .ref h)] dX5_isSame_208 rfl (nI_1 _) (by decide) rfl ?_
                            refine k_goto hC 211 4 dX5_isSame_211 (by decide) ?_
                            refine KJ.lvp [0, 3, 4, 5] rfl ?_
                            exact KJ.wide (by omega) (by omega) (ih4 (kd + 1) ga1 sb1 gb1 (by omega) (by omega) hSa)
                          · skip
                            refine k_aload_n hC 172 dX5_isSame_172 rfl ?_
                            refine k_iload_n hC 173 dX5_isSame_173 rfl ?_
                            refine f_callVe hC 174 31 ((h, .inr (3, [.ref (a 0), .ref (b 0)])) :: (wSt D a (N, T, A, B, to, pi, fe, pl, go, hi, mi, re, lo) ga1 ++ wSt D b sb1 gb1)) (fun u => ((h, .inr (3, [.ref (a 0), .ref (b 0)])) :: (wSt D a (N, T, A, B, to, pi, fe, pl, go, hi, mi, re, lo) ga1 ++ (wSt D b sb1 gb1 ++ ((m, .inr (5, [.int (nI pl), .int (nI go), .int hi, .int mi, .int re, .int lo, .ref p, .ref r])) :: ((p, .inl (D.1 23, 2, qv hs)) :: ((r, .inl (D.1 24, 2, qv hl)) :: ((n0, .inl (D.1 22, N.length, qv f0)) :: ((n1, .inl (D.1 22, T.length, qv f1)) :: ((l0, .inl (D.1 20, A.length, .inl g0)) :: ((l1, .inl (D.1 20, B.length, .inl g1)) :: va_pl Lp f))))))))))) (f_find_no l D m p r (N, T, A, B, to, pi, fe, pl, go, hi, mi, re, lo) (n0, n1, l0, l1, hs, hl, f0, f1, g0, g1, Lp, f, adr) kd hW hJ hkd4 hin) cw_RX5_76 dX5_isSame_174 ⟨Nat.le_of_ble_eq_true rfl, Nat.le_of_ble_eq_true rfl, (show 0 + 322 * kd + 156 + 13 * k1 + 0 ≤ 13000 by omega), (show 0 + 1908 * kd + 924 + 77 * k1 + 0 ≤ 77000 by omega)⟩ rfl (Nat.le_of_ble_eq_true rfl) rfl rfl rfl (by simp only [List.append_assoc, List.cons_append, List.nil_append, List.append_nil]; rfl) (fun _ => Nat.le_refl _) (fun _ => by simp only [List.append_assoc, List.cons_append, List.nil_append, List.append_nil]; rfl) _ rfl (fun v u hp => ?_)
                            obtain rfl := hp
                            refine KJ.eqs (st' := .null :: []) rfl ?_
                            refine k_ifnonnullN hC 177 dX5_isSame_177 ?_
                            refine k_iconst hC 180 dX5_isSame_180 (nI 0) (by decide) ?_
                            refine k_istore hC 181 4 [(4, .int (nI 0)), (5, .int (nI k1)), (3, .int (nI kd)), (2, .int (fsm N T fe (kd + 1))), (0, .ref m), (1, .ref h)] dX5_isSame_181 (by decide) rfl ?_
                            refine k_iload hC 183 dX5_isSame_183 rfl ?_
                            refine k_iconst hC 185 dX5_isSame_185 (nI 5) (by decide) ?_
                            refine n_icmp_ge hC 186 208 dX5_isSame_186 (by decide) (by omega) (by omega) (fun h186 => ?_) (fun h186 => ?_)
                            · skip
                              exact absurd h186 (by decide)
                            · skip
                              refine k_aload_n hC 189 dX5_isSame_189 rfl ?_
                              refine k_iload_n hC 190 dX5_isSame_190 rfl ?_
                              refine k_iload hC 191 dX5_isSame_191 rfl ?_
                              refine g_callV hC hX 193 0 ([]) ((m, .inr (5, [.int (nI pl), .int (nI go), .int hi, .int mi, .int re, .int lo, .ref p, .ref r])) :: ((p, .inl (D.1 23, 2, qv hs)) :: ((r, .inl (D.1 24, 2, qv hl)) :: ((n0, .inl (D.1 22, N.length, qv f0)) :: ((n1, .inl (D.1 22, T.length, qv f1)) :: ((l0, .inl (D.1 20, A.length, .inl g0)) :: ((l1, .inl (D.1 20, B.length, .inl g1)) :: va_pl Lp f))))))) (fun uq => ((h, .inr (3, [.ref (a 0), .ref (b 0)])) :: (wSt D a uq.1.1 uq.1.2 ++ (wSt D b uq.2.1 uq.2.2 ++ ((m, .inr (5, [.int (nI pl), .int (nI go), .int hi, .int mi, .int re, .int lo, .ref p, .ref r])) :: ((p, .inl (D.1 23, 2, qv hs)) :: ((r, .inl (D.1 24, 2, qv hl)) :: ((n0, .inl (D.1 22, N.length, qv f0)) :: ((n1, .inl (D.1 22, T.length, qv f1)) :: ((l0, .inl (D.1 20, A.length, .inl g0)) :: ((l1, .inl (D.1 20, B.length, .inl g1)) :: va_pl Lp f))))))))))) (c_X3_jar l hfl D h a b (N, T, A, B, to, pi, fe, pl, go, hi, mi, re, lo) sb1 ga1 gb1 (nI kd) (nI 0) hSa hW) cw_RX5_103 dX5_isSame_193 ⟨Nat.le_of_ble_eq_true rfl, Nat.le_of_ble_eq_true rfl, (show 0 + 322 * kd + 156 + 13 * k1 + 0 + 2 ≤ 13000 by omega), (show 0 + 1908 * kd + 924 + 77 * k1 + 0 + 12 ≤ 77000 by omega)⟩ rfl (Nat.le_of_ble_eq_true rfl) rfl rfl rfl (by simp only [List.append_assoc, List.cons_append, List.nil_append, List.append_nil]) (fun _ => rfl) (fun _ => by simp only [List.append_assoc, List.cons_append, List.nil_append, List.append_nil]) _ rfl (fun v uq hp => ?_) (fun E hx => absurd hx (no_x (jarK0 hkd4 (by decide))))
                              obtain ⟨-, rfl, euq, hSq⟩ := hp
                              refine KJ.eqs (st' := .int (dtl (N, T, A, B, to, pi, fe, pl, go, hi, mi, re, lo) (kn (nI kd)) (kn (nI 0))) :: []) rfl ?_
                              refine KJ.topi (y := (-1)) (by rw [kn_ek hkd4]; exact if_neg hin) ?_
                              obtain ⟨⟨saq, gaq⟩, sbq, gbq⟩ := uq
                              dsimp only at euq hSq
                              subst euq
                              refine KJ.eqw (ws' := ((h, .inr (3, [.ref (a 0), .ref (b 0)])) :: (wSt D a (N, T, A, B, to, pi, fe, pl, go, hi, mi, re, lo) gaq ++ (wSt D b sbq gbq ++ ((m, .inr (5, [.int (nI pl), .int (nI go), .int hi, .int mi, .int re, .int lo, .ref p, .ref r])) :: ((p, .inl (D.1 23, 2, qv hs)) :: ((r, .inl (D.1 24, 2, qv hl)) :: ((n0, .inl (D.1 22, N.length, qv f0)) :: ((n1, .inl (D.1 22, T.length, qv f1)) :: ((l0, .inl (D.1 20, A.length, .inl g0)) :: ((l1, .inl (D.1 20, B.length, .inl g1)) :: va_pl Lp f))))))))))) rfl ?_
                              have hSa := hSq
                              refine k_iconst hC 196 dX5_isSame_196 (-1) (by decide) ?_
                              refine k_icmp_eq hC 197 202 dX5_isSame_197 (by decide) (fun h197 => ?_) (fun h197 => ?_)
                              · skip
                                refine k_iinc hC 202 0 (nI 1) [(4, .int (nI 1)), (5, .int (nI k1)), (3, .int (nI kd)), (2, .int (fsm N T fe (kd + 1))), (0, .ref m), (1, .ref h)] dX5_isSame_202 rfl (by decide) (by decide) rfl ?_
                                refine k_goto hC 205 183 dX5_isSame_205 (by decide) ?_
                                refine k_iload hC 183 dX5_isSame_183 rfl ?_
                                refine k_iconst hC 185 dX5_isSame_185 (nI 5) (by decide) ?_
                                refine n_icmp_ge hC 186 208 dX5_isSame_186 (by decide) (by omega) (by omega) (fun h186 => ?_) (fun h186 => ?_)
                                · skip
                                  exact absurd h186 (by decide)
                                · skip
                                  refine k_aload_n hC 189 dX5_isSame_189 rfl ?_
                                  refine k_iload_n hC 190 dX5_isSame_190 rfl ?_
                                  refine k_iload hC 191 dX5_isSame_191 rfl ?_
                                  refine g_callV hC hX 193 0 ([]) ((m, .inr (5, [.int (nI pl), .int (nI go), .int hi, .int mi, .int re, .int lo, .ref p, .ref r])) :: ((p, .inl (D.1 23, 2, qv hs)) :: ((r, .inl (D.1 24, 2, qv hl)) :: ((n0, .inl (D.1 22, N.length, qv f0)) :: ((n1, .inl (D.1 22, T.length, qv f1)) :: ((l0, .inl (D.1 20, A.length, .inl g0)) :: ((l1, .inl (D.1 20, B.length, .inl g1)) :: va_pl Lp f))))))) (fun uq => ((h, .inr (3, [.ref (a 0), .ref (b 0)])) :: (wSt D a uq.1.1 uq.1.2 ++ (wSt D b uq.2.1 uq.2.2 ++ ((m, .inr (5, [.int (nI pl), .int (nI go), .int hi, .int mi, .int re, .int lo, .ref p, .ref r])) :: ((p, .inl (D.1 23, 2, qv hs)) :: ((r, .inl (D.1 24, 2, qv hl)) :: ((n0, .inl (D.1 22, N.length, qv f0)) :: ((n1, .inl (D.1 22, T.length, qv f1)) :: ((l0, .inl (D.1 20, A.length, .inl g0)) :: ((l1, .inl (D.1 20, B.length, .inl g1)) :: va_pl Lp f))))))))))) (c_X3_jar l hfl D h a b (N, T, A, B, to, pi, fe, pl, go, hi, mi, re, lo) sbq gaq gbq (nI kd) (nI 1) hSa hW) cw_RX5_103 dX5_isSame_193 ⟨Nat.le_of_ble_eq_true rfl, Nat.le_of_ble_eq_true rfl, (show 0 + 322 * kd + 156 + 13 * k1 + 0 + 2 + 2 ≤ 13000 by omega), (show 0 + 1908 * kd + 924 + 77 * k1 + 0 + 12 + 12 ≤ 77000 by omega)⟩ rfl (Nat.le_of_ble_eq_true rfl) rfl rfl rfl (by simp only [List.append_assoc, List.cons_append, List.nil_append, List.append_nil]) (fun _ => rfl) (fun _ => by simp only [List.append_assoc, List.cons_append, List.nil_append, List.append_nil]) _ rfl (fun v uq hp => ?_) (fun E hx => absurd hx (no_x (jarK0 hkd4 (by decide))))
                                  obtain ⟨-, rfl, euq, hSq⟩ := hp
                                  refine KJ.eqs (st' := .int (dtl (N, T, A, B, to, pi, fe, pl, go, hi, mi, re, lo) (kn (nI kd)) (kn (nI 1))) :: []) rfl ?_
                                  refine KJ.topi (y := (-1)) (by rw [kn_ek hkd4]; exact if_neg hin) ?_
                                  obtain ⟨⟨saq, gaq⟩, sbq, gbq⟩ := uq
                                  dsimp only at euq hSq
                                  subst euq
                                  refine KJ.eqw (ws' := ((h, .inr (3, [.ref (a 0), .ref (b 0)])) :: (wSt D a (N, T, A, B, to, pi, fe, pl, go, hi, mi, re, lo) gaq ++ (wSt D b sbq gbq ++ ((m, .inr (5, [.int (nI pl), .int (nI go), .int hi, .int mi, .int re, .int lo, .ref p, .ref r])) :: ((p, .inl (D.1 23, 2, qv hs)) :: ((r, .inl (D.1 24, 2, qv hl)) :: ((n0, .inl (D.1 22, N.length, qv f0)) :: ((n1, .inl (D.1 22, T.length, qv f1)) :: ((l0, .inl (D.1 20, A.length, .inl g0)) :: ((l1, .inl (D.1 20, B.length, .inl g1)) :: va_pl Lp f))))))))))) rfl ?_
                                  have hSa := hSq
                                  refine k_iconst hC 196 dX5_isSame_196 (-1) (by decide) ?_
                                  refine k_icmp_eq hC 197 202 dX5_isSame_197 (by decide) (fun h197 => ?_) (fun h197 => ?_)
                                  · skip
                                    refine k_iinc hC 202 0 (nI 2) [(4, .int (nI 2)), (5, .int (nI k1)), (3, .int (nI kd)), (2, .int (fsm N T fe (kd + 1))), (0, .ref m), (1, .ref h)] dX5_isSame_202 rfl (by decide) (by decide) rfl ?_
                                    refine k_goto hC 205 183 dX5_isSame_205 (by decide) ?_
                                    refine k_iload hC 183 dX5_isSame_183 rfl ?_
                                    refine k_iconst hC 185 dX5_isSame_185 (nI 5) (by decide) ?_
                                    refine n_icmp_ge hC 186 208 dX5_isSame_186 (by decide) (by omega) (by omega) (fun h186 => ?_) (fun h186 => ?_)
                                    · skip
                                      exact absurd h186 (by decide)
                                    · skip
                                      refine k_aload_n hC 189 dX5_isSame_189 rfl ?_
                                      refine k_iload_n hC 190 dX5_isSame_190 rfl ?_
                                      refine k_iload hC 191 dX5_isSame_191 rfl ?_
                                      refine g_callV hC hX 193 0 ([]) ((m, .inr (5, [.int (nI pl), .int (nI go), .int hi, .int mi, .int re, .int lo, .ref p, .ref r])) :: ((p, .inl (D.1 23, 2, qv hs)) :: ((r, .inl (D.1 24, 2, qv hl)) :: ((n0, .inl (D.1 22, N.length, qv f0)) :: ((n1, .inl (D.1 22, T.length, qv f1)) :: ((l0, .inl (D.1 20, A.length, .inl g0)) :: ((l1, .inl (D.1 20, B.length, .inl g1)) :: va_pl Lp f))))))) (fun uq => ((h, .inr (3, [.ref (a 0), .ref (b 0)])) :: (wSt D a uq.1.1 uq.1.2 ++ (wSt D b uq.2.1 uq.2.2 ++ ((m, .inr (5, [.int (nI pl), .int (nI go), .int hi, .int mi, .int re, .int lo, .ref p, .ref r])) :: ((p, .inl (D.1 23, 2, qv hs)) :: ((r, .inl (D.1 24, 2, qv hl)) :: ((n0, .inl (D.1 22, N.length, qv f0)) :: ((n1, .inl (D.1 22, T.length, qv f1)) :: ((l0, .inl (D.1 20, A.length, .inl g0)) :: ((l1, .inl (D.1 20, B.length, .inl g1)) :: va_pl Lp f))))))))))) (c_X3_jar l hfl D h a b (N, T, A, B, to, pi, fe, pl, go, hi, mi, re, lo) sbq gaq gbq (nI kd) (nI 2) hSa hW) cw_RX5_103 dX5_isSame_193 ⟨Nat.le_of_ble_eq_true rfl, Nat.le_of_ble_eq_true rfl, (show 0 + 322 * kd + 156 + 13 * k1 + 0 + 2 + 2 + 2 ≤ 13000 by omega), (show 0 + 1908 * kd + 924 + 77 * k1 + 0 + 12 + 12 + 12 ≤ 77000 by omega)⟩ rfl (Nat.le_of_ble_eq_true rfl) rfl rfl rfl (by simp only [List.append_assoc, List.cons_append, List.nil_append, List.append_nil]) (fun _ => rfl) (fun _ => by simp only [List.append_assoc, List.cons_append, List.nil_append, List.append_nil]) _ rfl (fun v uq hp => ?_) (fun E hx => absurd hx (no_x (jarK0 hkd4 (by decide))))
                                      obtain ⟨-, rfl, euq, hSq⟩ := hp
                                      refine KJ.eqs (st' := .int (dtl (N, T, A, B, to, pi, fe, pl, go, hi, mi, re, lo) (kn (nI kd)) (kn (nI 2))) :: []) rfl ?_
                                      refine KJ.topi (y := (-1)) (by rw [kn_ek hkd4]; exact if_neg hin) ?_
                                      obtain ⟨⟨saq, gaq⟩, sbq, gbq⟩ := uq
                                      dsimp only at euq hSq
                                      subst euq
                                      refine KJ.eqw (ws' := ((h, .inr (3, [.ref (a 0), .ref (b 0)])) :: (wSt D a (N, T, A, B, to, pi, fe, pl, go, hi, mi, re, lo) gaq ++ (wSt D b sbq gbq ++ ((m, .inr (5, [.int (nI pl), .int (nI go), .int hi, .int mi, .int re, .int lo, .ref p, .ref r])) :: ((p, .inl (D.1 23, 2, qv hs)) :: ((r, .inl (D.1 24, 2, qv hl)) :: ((n0, .inl (D.1 22, N.length, qv f0)) :: ((n1, .inl (D.1 22, T.length, qv f1)) :: ((l0, .inl (D.1 20, A.length, .inl g0)) :: ((l1, .inl (D.1 20, B.length, .inl g1)) :: va_pl Lp f))))))))))) rfl ?_
                                      have hSa := hSq
                                      refine k_iconst hC 196 dX5_isSame_196 (-1) (by decide) ?_
                                      refine k_icmp_eq hC 197 202 dX5_isSame_197 (by decide) (fun h197 => ?_) (fun h197 => ?_)
                                      · skip
                                        refine k_iinc hC 202 0 (nI 3) [(4, .int (nI 3)), (5, .int (nI k1)), (3, .int (nI kd)), (2, .int (fsm N T fe (kd + 1))), (0, .ref m), (1, .ref h)] dX5_isSame_202 rfl (by decide) (by decide) rfl ?_
                                        refine k_goto hC 205 183 dX5_isSame_205 (by decide) ?_
                                        refine k_iload hC 183 dX5_isSame_183 rfl ?_
                                        refine k_iconst hC 185 dX5_isSame_185 (nI 5) (by decide) ?_
                                        refine n_icmp_ge hC 186 208 dX5_isSame_186 (by decide) (by omega) (by omega) (fun h186 => ?_) (fun h186 => ?_)
                                        · skip
                                          exact absurd h186 (by decide)
                                        · skip
                                          refine k_aload_n hC 189 dX5_isSame_189 rfl ?_
                                          refine k_iload_n hC 190 dX5_isSame_190 rfl ?_
                                          refine k_iload hC 191 dX5_isSame_191 rfl ?_
                                          refine g_callV hC hX 193 0 ([]) ((m, .inr (5, [.int (nI pl), .int (nI go), .int hi, .int mi, .int re, .int lo, .ref p, .ref r])) :: ((p, .inl (D.1 23, 2, qv hs)) :: ((r, .inl (D.1 24, 2, qv hl)) :: ((n0, .inl (D.1 22, N.length, qv f0)) :: ((n1, .inl (D.1 22, T.length, qv f1)) :: ((l0, .inl (D.1 20, A.length, .inl g0)) :: ((l1, .inl (D.1 20, B.length, .inl g1)) :: va_pl Lp f))))))) (fun uq => ((h, .inr (3, [.ref (a 0), .ref (b 0)])) :: (wSt D a uq.1.1 uq.1.2 ++ (wSt D b uq.2.1 uq.2.2 ++ ((m, .inr (5, [.int (nI pl), .int (nI go), .int hi, .int mi, .int re, .int lo, .ref p, .ref r])) :: ((p, .inl (D.1 23, 2, qv hs)) :: ((r, .inl (D.1 24, 2, qv hl)) :: ((n0, .inl (D.1 22, N.length, qv f0)) :: ((n1, .inl (D.1 22, T.length, qv f1)) :: ((l0, .inl (D.1 20, A.length, .inl g0)) :: ((l1, .inl (D.1 20, B.length, .inl g1)) :: va_pl Lp f))))))))))) (c_X3_jar l hfl D h a b (N, T, A, B, to, pi, fe, pl, go, hi, mi, re, lo) sbq gaq gbq (nI kd) (nI 3) hSa hW) cw_RX5_103 dX5_isSame_193 ⟨Nat.le_of_ble_eq_true rfl, Nat.le_of_ble_eq_true rfl, (show 0 + 322 * kd + 156 + 13 * k1 + 0 + 2 + 2 + 2 + 2 ≤ 13000 by omega), (show 0 + 1908 * kd + 924 + 77 * k1 + 0 + 12 + 12 + 12 + 12 ≤ 77000 by omega)⟩ rfl (Nat.le_of_ble_eq_true rfl) rfl rfl rfl (by simp only [List.append_assoc, List.cons_append, List.nil_append, List.append_nil]) (fun _ => rfl) (fun _ => by simp only [List.append_assoc, List.cons_append, List.nil_append, List.append_nil]) _ rfl (fun v uq hp => ?_) (fun E hx => absurd hx (no_x (jarK0 hkd4 (by decide))))
                                          obtain ⟨-, rfl, euq, hSq⟩ := hp
                                          refine KJ.eqs (st' := .int (dtl (N, T, A, B, to, pi, fe, pl, go, hi, mi, re, lo) (kn (nI kd)) (kn (nI 3))) :: []) rfl ?_
                                          refine KJ.topi (y := (-1)) (by rw [kn_ek hkd4]; exact if_neg hin) ?_
                                          obtain ⟨⟨saq, gaq⟩, sbq, gbq⟩ := uq
                                          dsimp only at euq hSq
                                          subst euq
                                          refine KJ.eqw (ws' := ((h, .inr (3, [.ref (a 0), .ref (b 0)])) :: (wSt D a (N, T, A, B, to, pi, fe, pl, go, hi, mi, re, lo) gaq ++ (wSt D b sbq gbq ++ ((m, .inr (5, [.int (nI pl), .int (nI go), .int hi, .int mi, .int re, .int lo, .ref p, .ref r])) :: ((p, .inl (D.1 23, 2, qv hs)) :: ((r, .inl (D.1 24, 2, qv hl)) :: ((n0, .inl (D.1 22, N.length, qv f0)) :: ((n1, .inl (D.1 22, T.length, qv f1)) :: ((l0, .inl (D.1 20, A.length, .inl g0)) :: ((l1, .inl (D.1 20, B.length, .inl g1)) :: va_pl Lp f))))))))))) rfl ?_
                                          have hSa := hSq
                                          refine k_iconst hC 196 dX5_isSame_196 (-1) (by decide) ?_
                                          refine k_icmp_eq hC 197 202 dX5_isSame_197 (by decide) (fun h197 => ?_) (fun h197 => ?_)
                                          · skip
                                            refine k_iinc hC 202 0 (nI 4) [(4, .int (nI 4)), (5, .int (nI k1)), (3, .int (nI kd)), (2, .int (fsm N T fe (kd + 1))), (0, .ref m), (1, .ref h)] dX5_isSame_202 rfl (by decide) (by decide) rfl ?_
                                            refine k_goto hC 205 183 dX5_isSame_205 (by decide) ?_
                                            refine k_iload hC 183 dX5_isSame_183 rfl ?_
                                            refine k_iconst hC 185 dX5_isSame_185 (nI 5) (by decide) ?_
                                            refine n_icmp_ge hC 186 208 dX5_isSame_186 (by decide) (by omega) (by omega) (fun h186 => ?_) (fun h186 => ?_)
                                            · skip
                                              exact absurd h186 (by decide)
                                            · skip
                                              refine k_aload_n hC 189 dX5_isSame_189 rfl ?_
                                              refine k_iload_n hC 190 dX5_isSame_190 rfl ?_
                                              refine k_iload hC 191 dX5_isSame_191 rfl ?_
                                              refine g_callV hC hX 193 0 ([]) ((m, .inr (5, [.int (nI pl), .int (nI go), .int hi, .int mi, .int re, .int lo, .ref p, .ref r])) :: ((p, .inl (D.1 23, 2, qv hs)) :: ((r, .inl (D.1 24, 2, qv hl)) :: ((n0, .inl (D.1 22, N.length, qv f0)) :: ((n1, .inl (D.1 22, T.length, qv f1)) :: ((l0, .inl (D.1 20, A.length, .inl g0)) :: ((l1, .inl (D.1 20, B.length, .inl g1)) :: va_pl Lp f))))))) (fun uq => ((h, .inr (3, [.ref (a 0), .ref (b 0)])) :: (wSt D a uq.1.1 uq.1.2 ++ (wSt D b uq.2.1 uq.2.2 ++ ((m, .inr (5, [.int (nI pl), .int (nI go), .int hi, .int mi, .int re, .int lo, .ref p, .ref r])) :: ((p, .inl (D.1 23, 2, qv hs)) :: ((r, .inl (D.1 24, 2, qv hl)) :: ((n0, .inl (D.1 22, N.length, qv f0)) :: ((n1, .inl (D.1 22, T.length, qv f1)) :: ((l0, .inl (D.1 20, A.length, .inl g0)) :: ((l1, .inl (D.1 20, B.length, .inl g1)) :: va_pl Lp f))))))))))) (c_X3_jar l hfl D h a b (N, T, A, B, to, pi, fe, pl, go, hi, mi, re, lo) sbq gaq gbq (nI kd) (nI 4) hSa hW) cw_RX5_103 dX5_isSame_193 ⟨Nat.le_of_ble_eq_true rfl, Nat.le_of_ble_eq_true rfl, (show 0 + 322 * kd + 156 + 13 * k1 + 0 + 2 + 2 + 2 + 2 + 2 ≤ 13000 by omega), (show 0 + 1908 * kd + 924 + 77 * k1 + 0 + 12 + 12 + 12 + 12 + 12 ≤ 77000 by omega)⟩ rfl (Nat.le_of_ble_eq_true rfl) rfl rfl rfl (by simp only [List.append_assoc, List.cons_append, List.nil_append, List.append_nil]) (fun _ => rfl) (fun _ => by simp only [List.append_assoc, List.cons_append, List.nil_append, List.append_nil]) _ rfl (fun v uq hp => ?_) (fun E hx => absurd hx (no_x (jarK0 hkd4 (by decide))))
                                              obtain ⟨-, rfl, euq, hSq⟩ := hp
                                              refine KJ.eqs (st' := .int (dtl (N, T, A, B, to, pi, fe, pl, go, hi, mi, re, lo) (kn (nI kd)) (kn (nI 4))) :: []) rfl ?_
                                              refine KJ.topi (y := (-1)) (by rw [kn_ek hkd4]; exact if_neg hin) ?_
                                              obtain ⟨⟨saq, gaq⟩, sbq, gbq⟩ := uq
                                              dsimp only at euq hSq
                                              subst euq
                                              refine KJ.eqw (ws' := ((h, .inr (3, [.ref (a 0), .ref (b 0)])) :: (wSt D a (N, T, A, B, to, pi, fe, pl, go, hi, mi, re, lo) gaq ++ (wSt D b sbq gbq ++ ((m, .inr (5, [.int (nI pl), .int (nI go), .int hi, .int mi, .int re, .int lo, .ref p, .ref r])) :: ((p, .inl (D.1 23, 2, qv hs)) :: ((r, .inl (D.1 24, 2, qv hl)) :: ((n0, .inl (D.1 22, N.length, qv f0)) :: ((n1, .inl (D.1 22, T.length, qv f1)) :: ((l0, .inl (D.1 20, A.length, .inl g0)) :: ((l1, .inl (D.1 20, B.length, .inl g1)) :: va_pl Lp f))))))))))) rfl ?_
                                              have hSa := hSq
                                              refine k_iconst hC 196 dX5_isSame_196 (-1) (by decide) ?_
                                              refine k_icmp_eq hC 197 202 dX5_isSame_197 (by decide) (fun h197 => ?_) (fun h197 => ?_)
                                              · skip
                                                refine k_iinc hC 202 0 (nI 5) [(4, .int (nI 5)), (5, .int (nI k1)), (3, .int (nI kd)), (2, .int (fsm N T fe (kd + 1))), (0, .ref m), (1, .ref h)] dX5_isSame_202 rfl (by decide) (by decide) rfl ?_
                                                refine k_goto hC 205 183 dX5_isSame_205 (by decide) ?_
                                                refine k_iload hC 183 dX5_isSame_183 rfl ?_
                                                refine k_iconst hC 185 dX5_isSame_185 (nI 5) (by decide) ?_
                                                refine n_icmp_ge hC 186 208 dX5_isSame_186 (by decide) (by omega) (by omega) (fun h186 => ?_) (fun h186 => ?_)
                                                · skip
                                                  refine k_iinc hC 208 2 (nI (kd + 1)) [(3, .int (nI (kd + 1))), (4, .int (nI 5)), (5, .int (nI k1)), (2, .int (fsm N T fe (kd + 1))), (0, .ref m), (1, .ref h)] dX5_isSame_208 rfl (nI_1 _) (by decide) rfl ?_
                                                  refine k_goto hC 211 4 dX5_isSame_211 (by decide) ?_
                                                  refine KJ.lvp [0, 3, 4, 5] rfl ?_
                                                  exact KJ.wide (by omega) (by omega) (ih4 (kd + 1) gaq sbq gbq (by omega) (by omega) hSa)
                                                · skip
                                                  exact absurd h186 (by decide)
                                              · skip
                                                exact absurd rfl h197
                                          · skip
                                            exact absurd rfl h197
                                      · skip
                                        exact absurd rfl h197
                                  · skip
                                    exact absurd rfl h197
                              · skip
                                exact absurd rfl h197
                        · skip
                          exact absurd h16 (by decide)
                      · skip
                        refine k_aload_n hC 35 dX5_isSame_35 rfl ?_
                        refine k_getf hC 36 31 6 dX5_isSame_36 rfl rfl inlX5 (by decide) wq_3_10 rfl ?_
                        refine k_iload hC 39 dX5_isSame_39 rfl ?_
                        refine k_aald hC 41 32 1 3 (v := n1) dX5_isSame_41 rfl rfl rfl (by omega) (by omega) s1 ?_
                        refine k_iload hC 42 dX5_isSame_42 rfl ?_
                        refine k_aald hC 44 35 k1 2 (v := (adr (T.getD k1 0))) dX5_isSame_44 rfl rfl rfl (by omega) (by omega) (j1 k1 h32) ?_
                        refine k_astore hC 45 6 [(6, .ref (adr (T.getD k1 0))), (5, .int (nI k1)), (4, .int (nI 1)), (3, .int (nI kd)), (2, .int (if kd ∈ N.take N.length ∨ kd ∈ T.take k1 then fsm N T fe kd + fe kd else fsm N T fe kd)), (0, .ref m), (1, .ref h)] dX5_isSame_45 (by decide) rfl ?_
                        refine k_aload hC 47 dX5_isSame_47 rfl ?_
                        refine m_getf hC 49 0 dX5_isSame_49 (List.mem_cons_of_mem _ (List.mem_append_right _ (List.mem_append_right _ (List.mem_cons_of_mem _ (List.mem_cons_of_mem _ (List.mem_cons_of_mem _ (List.mem_cons_of_mem _ (List.mem_cons_of_mem _ (List.mem_cons_of_mem _ (List.mem_cons_of_mem _ (pl_mem (jp _ (Or.inr (getD_mem h32))).1 (jp _ (Or.inr (getD_mem h32))).2))))))))))) rfl inlX4 (by decide) wq_4_9 rfl ?_
                        refine k_iload_n hC 52 dX5_isSame_52 rfl ?_
                        refine n_icmp_eq hC 53 59 dX5_isSame_53 (by decide) (by omega) (by omega) (fun h53 => ?_) (fun h53 => ?_)
                        · skip
                          have hmem : kd ∈ T := by
                            have z := getD_mem h32
                            rw [h53] at z
                            exact z
                          have hix : T.idxOf kd = k1 := (ix_found h32 h53 (fun i hi z => nd_getD ndT hi h32 (z.trans h53.symm))).2
                          have hnN : kd ∉ N := fun z => (List.nodup_append.mp nd).2.2 kd z kd hmem rfl
                          have hin : kd ∈ N ∨ kd ∈ T := Or.inr hmem
                          have hnin : ¬ (kd ∈ N.take N.length ∨ kd ∈ T.take k1) := fun z => z.elim (fun y => hnN (List.mem_of_mem_take y)) (nd_nt ndT h32 h53)
                          have hyes : kd ∈ N.take N.length ∨ kd ∈ T.take (k1 + 1) := Or.inr ((mem_ts h32).mpr (Or.inr h53))
                          have t0 : dtl (N, T, A, B, to, pi, fe, pl, go, hi, mi, re, lo) kd 0 = nI 1 := by simp [dtl, hmem, hnN]
                          have t1x : dtl (N, T, A, B, to, pi, fe, pl, go, hi, mi, re, lo) kd 1 = nI k1 := by simp [dtl, hmem, hnN, hix]
                          have t2 : dtl (N, T, A, B, to, pi, fe, pl, go, hi, mi, re, lo) kd 2 = nI (to kd) := by simp [dtl, hin]
                          have t3 : dtl (N, T, A, B, to, pi, fe, pl, go, hi, mi, re, lo) kd 3 = nI (pi kd) := by simp [dtl, hin]
                          have t4 : dtl (N, T, A, B, to, pi, fe, pl, go, hi, mi, re, lo) kd 4 = fe kd := by simp [dtl, hin]
                          have tk1 := t1 kd
                          have tkx := t1 (T.getD k1 0)
                          have pkx := p9 (T.getD k1 0)
                          refine k_iconst hC 59 dX5_isSame_59 (nI 5) (by decide) ?_
                          refine k_newarrI hC 60 5 dX5_isSame_60 (by decide) (by decide) ⟨(show 0 + 322 * kd + 156 + 13 * k1 + 1 ≤ 13000 by omega), (show 0 + 1908 * kd + 924 + 77 * k1 + (5) ≤ 77000 by omega)⟩ (fun q60 => ?_)
                          refine KJ.eqw (ws' := ((h, .inr (3, [.ref (a 0), .ref (b 0)])) :: (wSt D a (N, T, A, B, to, pi, fe, pl, go, hi, mi, re, lo) ga1 ++ (wSt D b sb1 gb1 ++ ((m, .inr (5, [.int (nI pl), .int (nI go), .int hi, .int mi, .int re, .int lo, .ref p, .ref r])) :: ((p, .inl (D.1 23, 2, qv hs)) :: ((r, .inl (D.1 24, 2, qv hl)) :: ((n0, .inl (D.1 22, N.length, qv f0)) :: ((n1, .inl (D.1 22, T.length, qv f1)) :: ((l0, .inl (D.1 20, A.length, .inl g0)) :: ((l1, .inl (D.1 20, B.length, .inl g1)) :: (va_pl Lp f ++ ((q60, .inl (D.1 20, 5, .inl (fun _ => 0))) :: []))))))))))))) rfl ?_
                          refine KJ.mv ((h, .inr (3, [.ref (a 0), .ref (b 0)])) :: (wSt D a (N, T, A, B, to, pi, fe, pl, go, hi, mi, re, lo) ga1 ++ (wSt D b sb1 gb1 ++ ((m, .inr (5, [.int (nI pl), .int (nI go), .int hi, .int mi, .int re, .int lo, .ref p, .ref r])) :: ((p, .inl (D.1 23, 2, qv hs)) :: ((r, .inl (D.1 24, 2, qv hl)) :: ((n0, .inl (D.1 22, N.length, qv f0)) :: ((n1, .inl (D.1 22, T.length, qv f1)) :: ((l0, .inl (D.1 20, A.length, .inl g0)) :: ((l1, .inl (D.1 20, B.length, .inl g1)) :: [])))))))))) (va_pl Lp f) (q60, .inl (D.1 20, 5, .inl (fun _ => 0))) (by simp only [List.append_assoc, List.cons_append, List.nil_append]) (by simp only [List.append_assoc, List.cons_append, List.nil_append]) (ws' := ((h, .inr (3, [.ref (a 0), .ref (b 0)])) :: (wSt D a (N, T, A, B, to, pi, fe, pl, go, hi, mi, re, lo) ga1 ++ (wSt D b sb1 gb1 ++ ((m, .inr (5, [.int (nI pl), .int (nI go), .int hi, .int mi, .int re, .int lo, .ref p, .ref r])) :: ((p, .inl (D.1 23, 2, qv hs)) :: ((r, .inl (D.1 24, 2, qv hl)) :: ((n0, .inl (D.1 22, N.length, qv f0)) :: ((n1, .inl (D.1 22, T.length, qv f1)) :: ((l0, .inl (D.1 20, A.length, .inl g0)) :: ((l1, .inl (D.1 20, B.length, .inl g1)) :: ((q60, .inl (D.1 20, 5, .inl (fun _ => 0))) :: va_pl Lp f)))))))))))) ?_
                          refine k_dup hC 62 dX5_isSame_62 rfl ?_
                          refine k_iconst hC 63 dX5_isSame_63 (nI 0) (by decide) ?_
                          refine k_iload hC 64 dX5_isSame_64 rfl ?_
                          refine n_iast hC 66 38 ((h, .inr (3, [.ref (a 0), .ref (b 0)])) :: (wSt D a (N, T, A, B, to, pi, fe, pl, go, hi, mi, re, lo) ga1 ++ (wSt D b sb1 gb1 ++ ((m, .inr (5, [.int (nI pl), .int (nI go), .int hi, .int mi, .int re, .int lo, .ref p, .ref r])) :: ((p, .inl (D.1 23, 2, qv hs)) :: ((r, .inl (D.1 24, 2, qv hl)) :: ((n0, .inl (D.1 22, N.length, qv f0)) :: ((n1, .inl (D.1 22, T.length, qv f1)) :: ((l0, .inl (D.1 20, A.length, .inl g0)) :: ((l1, .inl (D.1 20, B.length, .inl g1)) :: ((q60, .inl (D.1 20, 5, .inl (upd (fun _ => 0) 0 (nI 1)))) :: va_pl Lp f))))))))))) dX5_isSame_66 rfl (by omega) (by decide) rfl ?_
                          refine k_dup hC 67 dX5_isSame_67 rfl ?_
                          refine k_iconst hC 68 dX5_isSame_68 (nI 1) (by decide) ?_
                          refine k_iload hC 69 dX5_isSame_69 rfl ?_
                          refine n_iast hC 71 38 ((h, .inr (3, [.ref (a 0), .ref (b 0)])) :: (wSt D a (N, T, A, B, to, pi, fe, pl, go, hi, mi, re, lo) ga1 ++ (wSt D b sb1 gb1 ++ ((m, .inr (5, [.int (nI pl), .int (nI go), .int hi, .int mi, .int re, .int lo, .ref p, .ref r])) :: ((p, .inl (D.1 23, 2, qv hs)) :: ((r, .inl (D.1 24, 2, qv hl)) :: ((n0, .inl (D.1 22, N.length, qv f0)) :: ((n1, .inl (D.1 22, T.length, qv f1)) :: ((l0, .inl (D.1 20, A.length, .inl g0)) :: ((l1, .inl (D.1 20, B.length, .inl g1)) :: ((q60, .inl (D.1 20, 5, .inl (upd (upd (fun _ => 0) 0 (nI 1)) 1 (nI k1)))) :: va_pl Lp f))))))))))) dX5_isSame_71 rfl (by omega) (by decide) rfl ?_
                          refine k_dup hC 72 dX5_isSame_72 rfl ?_
                          refine k_iconst hC 73 dX5_isSame_73 (nI 2) (by decide) ?_
                          have cut87 : KJ l G D ({ frames := 8, cells := 13000, slots := 77000, locals := 126 } : Room) 9 (0 + 322 * kd + 156 + 13 * k1 + 1) (0 + 1908 * kd + 924 + 77 * k1 + 5) ((h, .inr (3, [.ref (a 0), .ref (b 0)])) :: (wSt D a (N, T, A, B, to, pi, fe, pl, go, hi, mi, re, lo) ga1 ++ (wSt D b sb1 gb1 ++ ((m, .inr (5, [.int (nI pl), .int (nI go), .int hi, .int mi, .int re, .int lo, .ref p, .ref r])) :: ((p, .inl (D.1 23, 2, qv hs)) :: ((r, .inl (D.1 24, 2, qv hl)) :: ((n0, .inl (D.1 22, N.length, qv f0)) :: ((n1, .inl (D.1 22, T.length, qv f1)) :: ((l0, .inl (D.1 20, A.length, .inl g0)) :: ((l1, .inl (D.1 20, B.length, .inl g1)) :: ((q60, .inl (D.1 20, 5, .inl (upd (upd (fun _ => 0) 0 (nI 1)) 1 (nI k1)))) :: va_pl Lp f))))))))))) [(6, .ref (adr (T.getD k1 0))), (5, .int (nI k1)), (4, .int (nI 1)), (3, .int (nI kd)), (2, .int (if kd ∈ N.take N.length ∨ kd ∈ T.take k1 then fsm N T fe kd + fe kd else fsm N T fe kd)), (0, .ref m), (1, .ref h)] 87 (.int (nI (to (T.getD k1 0))) :: .int (nI 2) :: .ref q60 :: .ref q60 :: []) := by
                            skip
                            refine n_iast hC 87 38 ((h, .inr (3, [.ref (a 0), .ref (b 0)])) :: (wSt D a (N, T, A, B, to, pi, fe, pl, go, hi, mi, re, lo) ga1 ++ (wSt D b sb1 gb1 ++ ((m, .inr (5, [.int (nI pl), .int (nI go), .int hi, .int mi, .int re, .int lo, .ref p, .ref r])) :: ((p, .inl (D.1 23, 2, qv hs)) :: ((r, .inl (D.1 24, 2, qv hl)) :: ((n0, .inl (D.1 22, N.length, qv f0)) :: ((n1, .inl (D.1 22, T.length, qv f1)) :: ((l0, .inl (D.1 20, A.length, .inl g0)) :: ((l1, .inl (D.1 20, B.length, .inl g1)) :: ((q60, .inl (D.1 20, 5, .inl (upd (upd (upd (fun _ => 0) 0 (nI 1)) 1 (nI k1)) 2 (nI (to (T.getD k1 0)))))) :: va_pl Lp f))))))))))) dX5_isSame_87 rfl (by omega) (by decide) rfl ?_
                            refine k_dup hC 88 dX5_isSame_88 rfl ?_
                            refine k_iconst hC 89 dX5_isSame_89 (nI 3) (by decide) ?_
                            refine k_aload hC 90 dX5_isSame_90 rfl ?_
                            refine m_getf hC 92 2 dX5_isSame_92 (List.mem_cons_of_mem _ (List.mem_append_right _ (List.mem_append_right _ (List.mem_cons_of_mem _ (List.mem_cons_of_mem _ (List.mem_cons_of_mem _ (List.mem_cons_of_mem _ (List.mem_cons_of_mem _ (List.mem_cons_of_mem _ (List.mem_cons_of_mem _ (List.mem_cons_of_mem _ (pl_mem (jp _ (Or.inr (getD_mem h32))).1 (jp _ (Or.inr (getD_mem h32))).2)))))))))))) rfl inlX4 (by decide) wq_7_3 rfl ?_
                            refine n_iast hC 95 38 ((h, .inr (3, [.ref (a 0), .ref (b 0)])) :: (wSt D a (N, T, A, B, to, pi, fe, pl, go, hi, mi, re, lo) ga1 ++ (wSt D b sb1 gb1 ++ ((m, .inr (5, [.int (nI pl), .int (nI go), .int hi, .int mi, .int re, .int lo, .ref p, .ref r])) :: ((p, .inl (D.1 23, 2, qv hs)) :: ((r, .inl (D.1 24, 2, qv hl)) :: ((n0, .inl (D.1 22, N.length, qv f0)) :: ((n1, .inl (D.1 22, T.length, qv f1)) :: ((l0, .inl (D.1 20, A.length, .inl g0)) :: ((l1, .inl (D.1 20, B.length, .inl g1)) :: ((q60, .inl (D.1 20, 5, .inl (upd (upd (upd (upd (fun _ => 0) 0 (nI 1)) 1 (nI k1)) 2 (nI (to (T.getD k1 0)))) 3 (nI (pi (T.getD k1 0)))))) :: va_pl Lp f))))))))))) dX5_isSame_95 rfl (by omega) (by decide) rfl ?_
                            refine k_dup hC 96 dX5_isSame_96 rfl ?_
                            refine k_iconst hC 97 dX5_isSame_97 (nI 4) (by decide) ?_
                            refine k_aload hC 98 dX5_isSame_98 rfl ?_
                            refine m_getf hC 100 3 dX5_isSame_100 (List.mem_cons_of_mem _ (List.mem_append_right _ (List.mem_append_right _ (List.mem_cons_of_mem _ (List.mem_cons_of_mem _ (List.mem_cons_of_mem _ (List.mem_cons_of_mem _ (List.mem_cons_of_mem _ (List.mem_cons_of_mem _ (List.mem_cons_of_mem _ (List.mem_cons_of_mem _ (pl_mem (jp _ (Or.inr (getD_mem h32))).1 (jp _ (Or.inr (getD_mem h32))).2)))))))))))) rfl inlX4 (by decide) wq_12_17 rfl ?_
                            refine n_iast hC 103 38 ((h, .inr (3, [.ref (a 0), .ref (b 0)])) :: (wSt D a (N, T, A, B, to, pi, fe, pl, go, hi, mi, re, lo) ga1 ++ (wSt D b sb1 gb1 ++ ((m, .inr (5, [.int (nI pl), .int (nI go), .int hi, .int mi, .int re, .int lo, .ref p, .ref r])) :: ((p, .inl (D.1 23, 2, qv hs)) :: ((r, .inl (D.1 24, 2, qv hl)) :: ((n0, .inl (D.1 22, N.length, qv f0)) :: ((n1, .inl (D.1 22, T.length, qv f1)) :: ((l0, .inl (D.1 20, A.length, .inl g0)) :: ((l1, .inl (D.1 20, B.length, .inl g1)) :: ((q60, .inl (D.1 20, 5, .inl (upd (upd (upd (upd (upd (fun _ => 0) 0 (nI 1)) 1 (nI k1)) 2 (nI (to (T.getD k1 0)))) 3 (nI (pi (T.getD k1 0)))) 4 (fe (T.getD k1 0))))) :: va_pl Lp f))))))))))) dX5_isSame_103 rfl (by omega) (by decide) rfl ?_
                            refine k_astore hC 104 7 [(7, .ref q60), (6, .ref (adr (T.getD k1 0))), (5, .int (nI k1)), (4, .int (nI 1)), (3, .int (nI kd)), (2, .int (if kd ∈ N.take N.length ∨ kd ∈ T.take k1 then fsm N T fe kd + fe kd else fsm N T fe kd)), (0, .ref m), (1, .ref h)] dX5_isSame_104 (by decide) rfl ?_
                            refine k_iconst hC 106 dX5_isSame_106 (nI 0) (by decide) ?_
                            refine k_istore hC 107 8 [(8, .int (nI 0)), (7, .ref q60), (6, .ref (adr (T.getD k1 0))), (5, .int (nI k1)), (4, .int (nI 1)), (3, .int (nI kd)), (2, .int (if kd ∈ N.take N.length ∨ kd ∈ T.take k1 then fsm N T fe kd + fe kd else fsm N T fe kd)), (0, .ref m), (1, .ref h)] dX5_isSame_107 (by decide) rfl ?_
                            refine k_iload hC 109 dX5_isSame_109 rfl ?_
                            refine k_iconst hC 111 dX5_isSame_111 (nI 5) (by decide) ?_
                            refine n_icmp_ge hC 112 138 dX5_isSame_112 (by decide) (by omega) (by omega) (fun h112 => ?_) (fun h112 => ?_)
                            · skip
                              exact absurd h112 (by decide)
                            · skip
                              refine k_aload_n hC 115 dX5_isSame_115 rfl ?_
                              refine k_iload_n hC 116 dX5_isSame_116 rfl ?_
                              refine k_iload hC 117 dX5_isSame_117 rfl ?_
                              refine g_callV hC hX 119 0 ([]) ((m, .inr (5, [.int (nI pl), .int (nI go), .int hi, .int mi, .int re, .int lo, .ref p, .ref r])) :: ((p, .inl (D.1 23, 2, qv hs)) :: ((r, .inl (D.1 24, 2, qv hl)) :: ((n0, .inl (D.1 22, N.length, qv f0)) :: ((n1, .inl (D.1 22, T.length, qv f1)) :: ((l0, .inl (D.1 20, A.length, .inl g0)) :: ((l1, .inl (D.1 20, B.length, .inl g1)) :: ((q60, .inl (D.1 20, 5, .inl (upd (upd (upd (upd (upd (fun _ => 0) 0 (nI 1)) 1 (nI k1)) 2 (nI (to (T.getD k1 0)))) 3 (nI (pi (T.getD k1 0)))) 4 (fe (T.getD k1 0))))) :: va_pl Lp f)))))))) (fun uq => ((h, .inr (3, [.ref (a 0), .ref (b 0)])) :: (wSt D a uq.1.1 uq.1.2 ++ (wSt D b uq.2.1 uq.2.2 ++ ((m, .inr (5, [.int (nI pl), .int (nI go), .int hi, .int mi, .int re, .int lo, .ref p, .ref r])) :: ((p, .inl (D.1 23, 2, qv hs)) :: ((r, .inl (D.1 24, 2, qv hl)) :: ((n0, .inl (D.1 22, N.length, qv f0)) :: ((n1, .inl (D.1 22, T.length, qv f1)) :: ((l0, .inl (D.1 20, A.length, .inl g0)) :: ((l1, .inl (D.1 20, B.length, .inl g1)) :: ((q60, .inl (D.1 20, 5, .inl (upd (upd (upd (upd (upd (fun _ => 0) 0 (nI 1)) 1 (nI k1)) 2 (nI (to (T.getD k1 0)))) 3 (nI (pi (T.getD k1 0)))) 4 (fe (T.getD k1 0))))) :: va_pl Lp f)))))))))))) (c_X3_jar l hfl D h a b (N, T, A, B, to, pi, fe, pl, go, hi, mi, re, lo) sb1 ga1 gb1 (nI kd) (nI 0) hSa hW) cw_RX5_103 dX5_isSame_119 ⟨Nat.le_of_ble_eq_true rfl, Nat.le_of_ble_eq_true rfl, (show 0 + 322 * kd + 156 + 13 * k1 + 1 + 2 ≤ 13000 by omega), (show 0 + 1908 * kd + 924 + 77 * k1 + 5 + 12 ≤ 77000 by omega)⟩ rfl (Nat.le_of_ble_eq_true rfl) rfl rfl rfl (by simp only [List.append_assoc, List.cons_append, List.nil_append, List.append_nil]) (fun _ => rfl) (fun _ => by simp only [List.append_assoc, List.cons_append, List.nil_append, List.append_nil]) _ rfl (fun v uq hp => ?_) (fun E hx => absurd hx (no_x (jarK0 hkd4 (by decide))))
                              obtain ⟨-, rfl, euq, hSq⟩ := hp
                              refine KJ.eqs (st' := .int (dtl (N, T, A, B, to, pi, fe, pl, go, hi, mi, re, lo) (kn (nI kd)) (kn (nI 0))) :: []) rfl ?_
                              refine KJ.topi (y := (nI 1)) (by rw [kn_ek hkd4]; exact t0) ?_
                              obtain ⟨⟨saq, gaq⟩, sbq, gbq⟩ := uq
                              dsimp only at euq hSq
                              subst euq
                              refine KJ.eqw (ws' := ((h, .inr (3, [.ref (a 0), .ref (b 0)])) :: (wSt D a (N, T, A, B, to, pi, fe, pl, go, hi, mi, re, lo) gaq ++ (wSt D b sbq gbq ++ ((m, .inr (5, [.int (nI pl), .int (nI go), .int hi, .int mi, .int re, .int lo, .ref p, .ref r])) :: ((p, .inl (D.1 23, 2, qv hs)) :: ((r, .inl (D.1 24, 2, qv hl)) :: ((n0, .inl (D.1 22, N.length, qv f0)) :: ((n1, .inl (D.1 22, T.length, qv f1)) :: ((l0, .inl (D.1 20, A.length, .inl g0)) :: ((l1, .inl (D.1 20, B.length, .inl g1)) :: ((q60, .inl (D.1 20, 5, .inl (upd (upd (upd (upd (upd (fun _ => 0) 0 (nI 1)) 1 (nI k1)) 2 (nI (to (T.getD k1 0)))) 3 (nI (pi (T.getD k1 0)))) 4 (fe (T.getD k1 0))))) :: va_pl Lp f)))))))))))) rfl ?_
                              have hSa := hSq
                              refine k_aload hC 122 dX5_isSame_122 rfl ?_
                              refine k_iload hC 124 dX5_isSame_124 rfl ?_
                              refine n_iald hC 126 38 (nI 1) dX5_isSame_126 rfl (by decide) (by decide) rfl ?_
                              refine n_icmp_eq hC 127 132 dX5_isSame_127 (by decide) (by omega) (by omega) (fun h127 => ?_) (fun h127 => ?_)
                              · skip
                                refine k_iinc hC 132 0 (nI 1) [(8, .int (nI 1)), (7, .ref q60), (6, .ref (adr (T.getD k1 0))), (5, .int (nI k1)), (4, .int (nI 1)), (3, .int (nI kd)), (2, .int (if kd ∈ N.take N.length ∨ kd ∈ T.take k1 then fsm N T fe kd + fe kd else fsm N T fe kd)), (0, .ref m), (1, .ref h)] dX5_isSame_132 rfl (by decide) (by decide) rfl ?_
                                refine k_goto hC 135 109 dX5_isSame_135 (by decide) ?_
                                refine k_iload hC 109 dX5_isSame_109 rfl ?_
                                refine k_iconst hC 111 dX5_isSame_111 (nI 5) (by decide) ?_
                                refine n_icmp_ge hC 112 138 dX5_isSame_112 (by decide) (by omega) (by omega) (fun h112 => ?_) (fun h112 => ?_)
                                · skip
                                  exact absurd h112 (by decide)
                                · skip
                                  refine k_aload_n hC 115 dX5_isSame_115 rfl ?_
                                  refine k_iload_n hC 116 dX5_isSame_116 rfl ?_
                                  refine k_iload hC 117 dX5_isSame_117 rfl ?_
                                  refine g_callV hC hX 119 0 ([]) ((m, .inr (5, [.int (nI pl), .int (nI go), .int hi, .int mi, .int re, .int lo, .ref p, .ref r])) :: ((p, .inl (D.1 23, 2, qv hs)) :: ((r, .inl (D.1 24, 2, qv hl)) :: ((n0, .inl (D.1 22, N.length, qv f0)) :: ((n1, .inl (D.1 22, T.length, qv f1)) :: ((l0, .inl (D.1 20, A.length, .inl g0)) :: ((l1, .inl (D.1 20, B.length, .inl g1)) :: ((q60, .inl (D.1 20, 5, .inl (upd (upd (upd (upd (upd (fun _ => 0) 0 (nI 1)) 1 (nI k1)) 2 (nI (to (T.getD k1 0)))) 3 (nI (pi (T.getD k1 0)))) 4 (fe (T.getD k1 0))))) :: va_pl Lp f)))))))) (fun uq => ((h, .inr (3, [.ref (a 0), .ref (b 0)])) :: (wSt D a uq.1.1 uq.1.2 ++ (wSt D b uq.2.1 uq.2.2 ++ ((m, .inr (5, [.int (nI pl), .int (nI go), .int hi, .int mi, .int re, .int lo, .ref p, .ref r])) :: ((p, .inl (D.1 23, 2, qv hs)) :: ((r, .inl (D.1 24, 2, qv hl)) :: ((n0, .inl (D.1 22, N.length, qv f0)) :: ((n1, .inl (D.1 22, T.length, qv f1)) :: ((l0, .inl (D.1 20, A.length, .inl g0)) :: ((l1, .inl (D.1 20, B.length, .inl g1)) :: ((q60, .inl (D.1 20, 5, .inl (upd (upd (upd (upd (upd (fun _ => 0) 0 (nI 1)) 1 (nI k1)) 2 (nI (to (T.getD k1 0)))) 3 (nI (pi (T.getD k1 0)))) 4 (fe (T.getD k1 0))))) :: va_pl Lp f)))))))))))) (c_X3_jar l hfl D h a b (N, T, A, B, to, pi, fe, pl, go, hi, mi, re, lo) sbq gaq gbq (nI kd) (nI 1) hSa hW) cw_RX5_103 dX5_isSame_119 ⟨Nat.le_of_ble_eq_true rfl, Nat.le_of_ble_eq_true rfl, (show 0 + 322 * kd + 156 + 13 * k1 + 1 + 2 + 2 ≤ 13000 by omega), (show 0 + 1908 * kd + 924 + 77 * k1 + 5 + 12 + 12 ≤ 77000 by omega)⟩ rfl (Nat.le_of_ble_eq_true rfl) rfl rfl rfl (by simp only [List.append_assoc, List.cons_append, List.nil_append, List.append_nil]) (fun _ => rfl) (fun _ => by simp only [List.append_assoc, List.cons_append, List.nil_append, List.append_nil]) _ rfl (fun v uq hp => ?_) (fun E hx => absurd hx (no_x (jarK0 hkd4 (by decide))))
                                  obtain ⟨-, rfl, euq, hSq⟩ := hp
                                  refine KJ.eqs (st' := .int (dtl (N, T, A, B, to, pi, fe, pl, go, hi, mi, re, lo) (kn (nI kd)) (kn (nI 1))) :: []) rfl ?_
                                  refine KJ.topi (y := (nI k1)) (by rw [kn_ek hkd4]; exact t1x) ?_
                                  obtain ⟨⟨saq, gaq⟩, sbq, gbq⟩ := uq
                                  dsimp only at euq hSq
                                  subst euq
                                  refine KJ.eqw (ws' := ((h, .inr (3, [.ref (a 0), .ref (b 0)])) :: (wSt D a (N, T, A, B, to, pi, fe, pl, go, hi, mi, re, lo) gaq ++ (wSt D b sbq gbq ++ ((m, .inr (5, [.int (nI pl), .int (nI go), .int hi, .int mi, .int re, .int lo, .ref p, .ref r])) :: ((p, .inl (D.1 23, 2, qv hs)) :: ((r, .inl (D.1 24, 2, qv hl)) :: ((n0, .inl (D.1 22, N.length, qv f0)) :: ((n1, .inl (D.1 22, T.length, qv f1)) :: ((l0, .inl (D.1 20, A.length, .inl g0)) :: ((l1, .inl (D.1 20, B.length, .inl g1)) :: ((q60, .inl (D.1 20, 5, .inl (upd (upd (upd (upd (upd (fun _ => 0) 0 (nI 1)) 1 (nI k1)) 2 (nI (to (T.getD k1 0)))) 3 (nI (pi (T.getD k1 0)))) 4 (fe (T.getD k1 0))))) :: va_pl Lp f)))))))))))) rfl ?_
                                  have hSa := hSq
                                  refine k_aload hC 122 dX5_isSame_122 rfl ?_
                                  refine k_iload hC 124 dX5_isSame_124 rfl ?_
                                  refine n_iald hC 126 38 (nI k1) dX5_isSame_126 rfl (by decide) (by decide) rfl ?_
                                  refine n_icmp_eq hC 127 132 dX5_isSame_127 (by decide) (by omega) (by omega) (fun h127 => ?_) (fun h127 => ?_)
                                  · skip
                                    refine k_iinc hC 132 0 (nI 2) [(8, .int (nI 2)), (7, .ref q60), (6, .ref (adr (T.getD k1 0))), (5, .int (nI k1)), (4, .int (nI 1)), (3, .int (nI kd)), (2, .int (if kd ∈ N.take N.length ∨ kd ∈ T.take k1 then fsm N T fe kd + fe kd else fsm N T fe kd)), (0, .ref m), (1, .ref h)] dX5_isSame_132 rfl (by decide) (by decide) rfl ?_
                                    refine k_goto hC 135 109 dX5_isSame_135 (by decide) ?_
                                    refine k_iload hC 109 dX5_isSame_109 rfl ?_
                                    refine k_iconst hC 111 dX5_isSame_111 (nI 5) (by decide) ?_
                                    refine n_icmp_ge hC 112 138 dX5_isSame_112 (by decide) (by omega) (by omega) (fun h112 => ?_) (fun h112 => ?_)
                                    · skip
                                      exact absurd h112 (by decide)
                                    · skip
                                      refine k_aload_n hC 115 dX5_isSame_115 rfl ?_
                                      refine k_iload_n hC 116 dX5_isSame_116 rfl ?_
                                      refine k_iload hC 117 dX5_isSame_117 rfl ?_
                                      refine g_callV hC hX 119 0 ([]) ((m, .inr (5, [.int (nI pl), .int (nI go), .int hi, .int mi, .int re, .int lo, .ref p, .ref r])) :: ((p, .inl (D.1 23, 2, qv hs)) :: ((r, .inl (D.1 24, 2, qv hl)) :: ((n0, .inl (D.1 22, N.length, qv f0)) :: ((n1, .inl (D.1 22, T.length, qv f1)) :: ((l0, .inl (D.1 20, A.length, .inl g0)) :: ((l1, .inl (D.1 20, B.length, .inl g1)) :: ((q60, .inl (D.1 20, 5, .inl (upd (upd (upd (upd (upd (fun _ => 0) 0 (nI 1)) 1 (nI k1)) 2 (nI (to (T.getD k1 0)))) 3 (nI (pi (T.getD k1 0)))) 4 (fe (T.getD k1 0))))) :: va_pl Lp f)))))))) (fun uq => ((h, .inr (3, [.ref (a 0), .ref (b 0)])) :: (wSt D a uq.1.1 uq.1.2 ++ (wSt D b uq.2.1 uq.2.2 ++ ((m, .inr (5, [.int (nI pl), .int (nI go), .int hi, .int mi, .int re, .int lo, .ref p, .ref r])) :: ((p, .inl (D.1 23, 2, qv hs)) :: ((r, .inl (D.1 24, 2, qv hl)) :: ((n0, .inl (D.1 22, N.length, qv f0)) :: ((n1, .inl (D.1 22, T.length, qv f1)) :: ((l0, .inl (D.1 20, A.length, .inl g0)) :: ((l1, .inl (D.1 20, B.length, .inl g1)) :: ((q60, .inl (D.1 20, 5, .inl (upd (upd (upd (upd (upd (fun _ => 0) 0 (nI 1)) 1 (nI k1)) 2 (nI (to (T.getD k1 0)))) 3 (nI (pi (T.getD k1 0)))) 4 (fe (T.getD k1 0))))) :: va_pl Lp f)))))))))))) (c_X3_jar l hfl D h a b (N, T, A, B, to, pi, fe, pl, go, hi, mi, re, lo) sbq gaq gbq (nI kd) (nI 2) hSa hW) cw_RX5_103 dX5_isSame_119 ⟨Nat.le_of_ble_eq_true rfl, Nat.le_of_ble_eq_true rfl, (show 0 + 322 * kd + 156 + 13 * k1 + 1 + 2 + 2 + 2 ≤ 13000 by omega), (show 0 + 1908 * kd + 924 + 77 * k1 + 5 + 12 + 12 + 12 ≤ 77000 by omega)⟩ rfl (Nat.le_of_ble_eq_true rfl) rfl rfl rfl (by simp only [List.append_assoc, List.cons_append, List.nil_append, List.append_nil]) (fun _ => rfl) (fun _ => by simp only [List.append_assoc, List.cons_append, List.nil_append, List.append_nil]) _ rfl (fun v uq hp => ?_) (fun E hx => absurd hx (no_x (jarK0 hkd4 (by decide))))
                                      obtain ⟨-, rfl, euq, hSq⟩ := hp
                                      refine KJ.eqs (st' := .int (dtl (N, T, A, B, to, pi, fe, pl, go, hi, mi, re, lo) (kn (nI kd)) (kn (nI 2))) :: []) rfl ?_
                                      refine KJ.topi (y := (nI (to (T.getD k1 0)))) (by rw [kn_ek hkd4, h53]; exact t2) ?_
                                      obtain ⟨⟨saq, gaq⟩, sbq, gbq⟩ := uq
                                      dsimp only at euq hSq
                                      subst euq
                                      refine KJ.eqw (ws' := ((h, .inr (3, [.ref (a 0), .ref (b 0)])) :: (wSt D a (N, T, A, B, to, pi, fe, pl, go, hi, mi, re, lo) gaq ++ (wSt D b sbq gbq ++ ((m, .inr (5, [.int (nI pl), .int (nI go), .int hi, .int mi, .int re, .int lo, .ref p, .ref r])) :: ((p, .inl (D.1 23, 2, qv hs)) :: ((r, .inl (D.1 24, 2, qv hl)) :: ((n0, .inl (D.1 22, N.length, qv f0)) :: ((n1, .inl (D.1 22, T.length, qv f1)) :: ((l0, .inl (D.1 20, A.length, .inl g0)) :: ((l1, .inl (D.1 20, B.length, .inl g1)) :: ((q60, .inl (D.1 20, 5, .inl (upd (upd (upd (upd (upd (fun _ => 0) 0 (nI 1)) 1 (nI k1)) 2 (nI (to (T.getD k1 0)))) 3 (nI (pi (T.getD k1 0)))) 4 (fe (T.getD k1 0))))) :: va_pl Lp f)))))))))))) rfl ?_
                                      have hSa := hSq
                                      refine k_aload hC 122 dX5_isSame_122 rfl ?_
                                      refine k_iload hC 124 dX5_isSame_124 rfl ?_
                                      refine n_iald hC 126 38 (nI (to (T.getD k1 0))) dX5_isSame_126 rfl (by decide) (by decide) rfl ?_
                                      refine n_icmp_eq hC 127 132 dX5_isSame_127 (by decide) (by omega) (by omega) (fun h127 => ?_) (fun h127 => ?_)
                                      · skip
                                        refine k_iinc hC 132 0 (nI 3) [(8, .int (nI 3)), (7, .ref q60), (6, .ref (adr (T.getD k1 0))), (5, .int (nI k1)), (4, .int (nI 1)), (3, .int (nI kd)), (2, .int (if kd ∈ N.take N.length ∨ kd ∈ T.take k1 then fsm N T fe kd + fe kd else fsm N T fe kd)), (0, .ref m), (1, .ref h)] dX5_isSame_132 rfl (by decide) (by decide) rfl ?_
                                        refine k_goto hC 135 109 dX5_isSame_135 (by decide) ?_
                                        refine k_iload hC 109 dX5_isSame_109 rfl ?_
                                        refine k_iconst hC 111 dX5_isSame_111 (nI 5) (by decide) ?_
                                        refine n_icmp_ge hC 112 138 dX5_isSame_112 (by decide) (by omega) (by omega) (fun h112 => ?_) (fun h112 => ?_)
                                        · skip
                                          exact absurd h112 (by decide)
                                        · skip
                                          refine k_aload_n hC 115 dX5_isSame_115 rfl ?_
                                          refine k_iload_n hC 116 dX5_isSame_116 rfl ?_
                                          refine k_iload hC 117 dX5_isSame_117 rfl ?_
                                          refine g_callV hC hX 119 0 ([]) ((m, .inr (5, [.int (nI pl), .int (nI go), .int hi, .int mi, .int re, .int lo, .ref p, .ref r])) :: ((p, .inl (D.1 23, 2, qv hs)) :: ((r, .inl (D.1 24, 2, qv hl)) :: ((n0, .inl (D.1 22, N.length, qv f0)) :: ((n1, .inl (D.1 22, T.length, qv f1)) :: ((l0, .inl (D.1 20, A.length, .inl g0)) :: ((l1, .inl (D.1 20, B.length, .inl g1)) :: ((q60, .inl (D.1 20, 5, .inl (upd (upd (upd (upd (upd (fun _ => 0) 0 (nI 1)) 1 (nI k1)) 2 (nI (to (T.getD k1 0)))) 3 (nI (pi (T.getD k1 0)))) 4 (fe (T.getD k1 0))))) :: va_pl Lp f)))))))) (fun uq => ((h, .inr (3, [.ref (a 0), .ref (b 0)])) :: (wSt D a uq.1.1 uq.1.2 ++ (wSt D b uq.2.1 uq.2.2 ++ ((m, .inr (5, [.int (nI pl), .int (nI go), .int hi, .int mi, .int re, .int lo, .ref p, .ref r])) :: ((p, .inl (D.1 23, 2, qv hs)) :: ((r, .inl (D.1 24, 2, qv hl)) :: ((n0, .inl (D.1 22, N.length, qv f0)) :: ((n1, .inl (D.1 22, T.length, qv f1)) :: ((l0, .inl (D.1 20, A.length, .inl g0)) :: ((l1, .inl (D.1 20, B.length, .inl g1)) :: ((q60, .inl (D.1 20, 5, .inl (upd (upd (upd (upd (upd (fun _ => 0) 0 (nI 1)) 1 (nI k1)) 2 (nI (to (T.getD k1 0)))) 3 (nI (pi (T.getD k1 0)))) 4 (fe (T.getD k1 0))))) :: va_pl Lp f)))))))))))) (c_X3_jar l hfl D h a b (N, T, A, B, to, pi, fe, pl, go, hi, mi, re, lo) sbq gaq gbq (nI kd) (nI 3) hSa hW) cw_RX5_103 dX5_isSame_119 ⟨Nat.le_of_ble_eq_true rfl, Nat.le_of_ble_eq_true rfl, (show 0 + 322 * kd + 156 + 13 * k1 + 1 + 2 + 2 + 2 + 2 ≤ 13000 by omega), (show 0 + 1908 * kd + 924 + 77 * k1 + 5 + 12 + 12 + 12 + 12 ≤ 77000 by omega)⟩ rfl (Nat.le_of_ble_eq_true rfl) rfl rfl rfl (by simp only [List.append_assoc, List.cons_append, List.nil_append, List.append_nil]) (fun _ => rfl) (fun _ => by simp only [List.append_assoc, List.cons_append, List.nil_append, List.append_nil]) _ rfl (fun v uq hp => ?_) (fun E hx => absurd hx (no_x (jarK0 hkd4 (by decide))))
                                          obtain ⟨-, rfl, euq, hSq⟩ := hp
                                          refine KJ.eqs (st' := .int (dtl (N, T, A, B, to, pi, fe, pl, go, hi, mi, re, lo) (kn (nI kd)) (kn (nI 3))) :: []) rfl ?_
                                          refine KJ.topi (y := (nI (pi (T.getD k1 0)))) (by rw [kn_ek hkd4, h53]; exact t3) ?_
                                          obtain ⟨⟨saq, gaq⟩, sbq, gbq⟩ := uq
                                          dsimp only at euq hSq
                                          subst euq
                                          refine KJ.eqw (ws' := ((h, .inr (3, [.ref (a 0), .ref (b 0)])) :: (wSt D a (N, T, A, B, to, pi, fe, pl, go, hi, mi, re, lo) gaq ++ (wSt D b sbq gbq ++ ((m, .inr (5, [.int (nI pl), .int (nI go), .int hi, .int mi, .int re, .int lo, .ref p, .ref r])) :: ((p, .inl (D.1 23, 2, qv hs)) :: ((r, .inl (D.1 24, 2, qv hl)) :: ((n0, .inl (D.1 22, N.length, qv f0)) :: ((n1, .inl (D.1 22, T.length, qv f1)) :: ((l0, .inl (D.1 20, A.length, .inl g0)) :: ((l1, .inl (D.1 20, B.length, .inl g1)) :: ((q60, .inl (D.1 20, 5, .inl (upd (upd (upd (upd (upd (fun _ => 0) 0 (nI 1)) 1 (nI k1)) 2 (nI (to (T.getD k1 0)))) 3 (nI (pi (T.getD k1 0)))) 4 (fe (T.getD k1 0))))) :: va_pl Lp f)))))))))))) rfl ?_
                                          have hSa := hSq
                                          refine k_aload hC 122 dX5_isSame_122 rfl ?_
                                          refine k_iload hC 124 dX5_isSame_124 rfl ?_
                                          refine n_iald hC 126 38 (nI (pi (T.getD k1 0))) dX5_isSame_126 rfl (by decide) (by decide) rfl ?_
                                          refine n_icmp_eq hC 127 132 dX5_isSame_127 (by decide) (by omega) (by omega) (fun h127 => ?_) (fun h127 => ?_)
                                          · skip
                                            refine k_iinc hC 132 0 (nI 4) [(8, .int (nI 4)), (7, .ref q60), (6, .ref (adr (T.getD k1 0))), (5, .int (nI k1)), (4, .int (nI 1)), (3, .int (nI kd)), (2, .int (if kd ∈ N.take N.length ∨ kd ∈ T.take k1 then fsm N T fe kd + fe kd else fsm N T fe kd)), (0, .ref m), (1, .ref h)] dX5_isSame_132 rfl (by decide) (by decide) rfl ?_
                                            refine k_goto hC 135 109 dX5_isSame_135 (by decide) ?_
                                            refine k_iload hC 109 dX5_isSame_109 rfl ?_
                                            refine k_iconst hC 111 dX5_isSame_111 (nI 5) (by decide) ?_
                                            refine n_icmp_ge hC 112 138 dX5_isSame_112 (by decide) (by omega) (by omega) (fun h112 => ?_) (fun h112 => ?_)
                                            · skip
                                              exact absurd h112 (by decide)
                                            · skip
                                              refine k_aload_n hC 115 dX5_isSame_115 rfl ?_
                                              refine k_iload_n hC 116 dX5_isSame_116 rfl ?_
                                              refine k_iload hC 117 dX5_isSame_117 rfl ?_
                                              refine g_callV hC hX 119 0 ([]) ((m, .inr (5, [.int (nI pl), .int (nI go), .int hi, .int mi, .int re, .int lo, .ref p, .ref r])) :: ((p, .inl (D.1 23, 2, qv hs)) :: ((r, .inl (D.1 24, 2, qv hl)) :: ((n0, .inl (D.1 22, N.length, qv f0)) :: ((n1, .inl (D.1 22, T.length, qv f1)) :: ((l0, .inl (D.1 20, A.length, .inl g0)) :: ((l1, .inl (D.1 20, B.length, .inl g1)) :: ((q60, .inl (D.1 20, 5, .inl (upd (upd (upd (upd (upd (fun _ => 0) 0 (nI 1)) 1 (nI k1)) 2 (nI (to (T.getD k1 0)))) 3 (nI (pi (T.getD k1 0)))) 4 (fe (T.getD k1 0))))) :: va_pl Lp f)))))))) (fun uq => ((h, .inr (3, [.ref (a 0), .ref (b 0)])) :: (wSt D a uq.1.1 uq.1.2 ++ (wSt D b uq.2.1 uq.2.2 ++ ((m, .inr (5, [.int (nI pl), .int (nI go), .int hi, .int mi, .int re, .int lo, .ref p, .ref r])) :: ((p, .inl (D.1 23, 2, qv hs)) :: ((r, .inl (D.1 24, 2, qv hl)) :: ((n0, .inl (D.1 22, N.length, qv f0)) :: ((n1, .inl (D.1 22, T.length, qv f1)) :: ((l0, .inl (D.1 20, A.length, .inl g0)) :: ((l1, .inl (D.1 20, B.length, .inl g1)) :: ((q60, .inl (D.1 20, 5, .inl (upd (upd (upd (upd (upd (fun _ => 0) 0 (nI 1)) 1 (nI k1)) 2 (nI (to (T.getD k1 0)))) 3 (nI (pi (T.getD k1 0)))) 4 (fe (T.getD k1 0))))) :: va_pl Lp f)))))))))))) (c_X3_jar l hfl D h a b (N, T, A, B, to, pi, fe, pl, go, hi, mi, re, lo) sbq gaq gbq (nI kd) (nI 4) hSa hW) cw_RX5_103 dX5_isSame_119 ⟨Nat.le_of_ble_eq_true rfl, Nat.le_of_ble_eq_true rfl, (show 0 + 322 * kd + 156 + 13 * k1 + 1 + 2 + 2 + 2 + 2 + 2 ≤ 13000 by omega), (show 0 + 1908 * kd + 924 + 77 * k1 + 5 + 12 + 12 + 12 + 12 + 12 ≤ 77000 by omega)⟩ rfl (Nat.le_of_ble_eq_true rfl) rfl rfl rfl (by simp only [List.append_assoc, List.cons_append, List.nil_append, List.append_nil]) (fun _ => rfl) (fun _ => by simp only [List.append_assoc, List.cons_append, List.nil_append, List.append_nil]) _ rfl (fun v uq hp => ?_) (fun E hx => absurd hx (no_x (jarK0 hkd4 (by decide))))
                                              obtain ⟨-, rfl, euq, hSq⟩ := hp
                                              refine KJ.eqs (st' := .int (dtl (N, T, A, B, to, pi, fe, pl, go, hi, mi, re, lo) (kn (nI kd)) (kn (nI 4))) :: []) rfl ?_
                                              refine KJ.topi (y := (fe (T.getD k1 0))) (by rw [kn_ek hkd4, h53]; exact t4) ?_
                                              obtain ⟨⟨saq, gaq⟩, sbq, gbq⟩ := uq
                                              dsimp only at euq hSq
                                              subst euq
                                              refine KJ.eqw (ws' := ((h, .inr (3, [.ref (a 0), .ref (b 0)])) :: (wSt D a (N, T, A, B, to, pi, fe, pl, go, hi, mi, re, lo) gaq ++ (wSt D b sbq gbq ++ ((m, .inr (5, [.int (nI pl), .int (nI go), .int hi, .int mi, .int re, .int lo, .ref p, .ref r])) :: ((p, .inl (D.1 23, 2, qv hs)) :: ((r, .inl (D.1 24, 2, qv hl)) :: ((n0, .inl (D.1 22, N.length, qv f0)) :: ((n1, .inl (D.1 22, T.length, qv f1)) :: ((l0, .inl (D.1 20, A.length, .inl g0)) :: ((l1, .inl (D.1 20, B.length, .inl g1)) :: ((q60, .inl (D.1 20, 5, .inl (upd (upd (upd (upd (upd (fun _ => 0) 0 (nI 1)) 1 (nI k1)) 2 (nI (to (T.getD k1 0)))) 3 (nI (pi (T.getD k1 0)))) 4 (fe (T.getD k1 0))))) :: va_pl Lp f)))))))))))) rfl ?_
                                              have hSa := hSq
                                              refine k_aload hC 122 dX5_isSame_122 rfl ?_
                                              refine k_iload hC 124 dX5_isSame_124 rfl ?_
                                              refine n_iald hC 126 38 (fe (T.getD k1 0)) dX5_isSame_126 rfl (by decide) (by decide) rfl ?_
                                              refine k_icmp_eq hC 127 132 dX5_isSame_127 (by decide) (fun h127 => ?_) (fun h127 => ?_)
                                              · skip
                                                refine k_iinc hC 132 0 (nI 5) [(8, .int (nI 5)), (7, .ref q60), (6, .ref (adr (T.getD k1 0))), (5, .int (nI k1)), (4, .int (nI 1)), (3, .int (nI kd)), (2, .int (if kd ∈ N.take N.length ∨ kd ∈ T.take k1 then fsm N T fe kd + fe kd else fsm N T fe kd)), (0, .ref m), (1, .ref h)] dX5_isSame_132 rfl (by decide) (by decide) rfl ?_
                                                refine k_goto hC 135 109 dX5_isSame_135 (by decide) ?_
                                                refine k_iload hC 109 dX5_isSame_109 rfl ?_
                                                refine k_iconst hC 111 dX5_isSame_111 (nI 5) (by decide) ?_
                                                refine n_icmp_ge hC 112 138 dX5_isSame_112 (by decide) (by omega) (by omega) (fun h112 => ?_) (fun h112 => ?_)
                                                · skip
                                                  refine k_aload_n hC 138 dX5_isSame_138 rfl ?_
                                                  refine k_iload hC 139 dX5_isSame_139 rfl ?_
                                                  refine k_iload hC 141 dX5_isSame_141 rfl ?_
                                                  refine g_callV hC hX 143 0 ([]) ((m, .inr (5, [.int (nI pl), .int (nI go), .int hi, .int mi, .int re, .int lo, .ref p, .ref r])) :: ((p, .inl (D.1 23, 2, qv hs)) :: ((r, .inl (D.1 24, 2, qv hl)) :: ((n0, .inl (D.1 22, N.length, qv f0)) :: ((n1, .inl (D.1 22, T.length, qv f1)) :: ((l0, .inl (D.1 20, A.length, .inl g0)) :: ((l1, .inl (D.1 20, B.length, .inl g1)) :: ((q60, .inl (D.1 20, 5, .inl (upd (upd (upd (upd (upd (fun _ => 0) 0 (nI 1)) 1 (nI k1)) 2 (nI (to (T.getD k1 0)))) 3 (nI (pi (T.getD k1 0)))) 4 (fe (T.getD k1 0))))) :: va_pl Lp f)))))))) (fun uq => ((h, .inr (3, [.ref (a 0), .ref (b 0)])) :: (wSt D a uq.1.1 uq.1.2 ++ (wSt D b uq.2.1 uq.2.2 ++ ((m, .inr (5, [.int (nI pl), .int (nI go), .int hi, .int mi, .int re, .int lo, .ref p, .ref r])) :: ((p, .inl (D.1 23, 2, qv hs)) :: ((r, .inl (D.1 24, 2, qv hl)) :: ((n0, .inl (D.1 22, N.length, qv f0)) :: ((n1, .inl (D.1 22, T.length, qv f1)) :: ((l0, .inl (D.1 20, A.length, .inl g0)) :: ((l1, .inl (D.1 20, B.length, .inl g1)) :: ((q60, .inl (D.1 20, 5, .inl (upd (upd (upd (upd (upd (fun _ => 0) 0 (nI 1)) 1 (nI k1)) 2 (nI (to (T.getD k1 0)))) 3 (nI (pi (T.getD k1 0)))) 4 (fe (T.getD k1 0))))) :: va_pl Lp f)))))))))))) (c_X3_shelf l hfl D h a b (N, T, A, B, to, pi, fe, pl, go, hi, mi, re, lo) sbq gaq gbq (nI 1) (nI k1) hSa hW) cw_RX5_109 dX5_isSame_143 ⟨Nat.le_of_ble_eq_true rfl, Nat.le_of_ble_eq_true rfl, (show 0 + 322 * kd + 156 + 13 * k1 + 1 + 2 + 2 + 2 + 2 + 2 + 2 ≤ 13000 by omega), (show 0 + 1908 * kd + 924 + 77 * k1 + 5 + 12 + 12 + 12 + 12 + 12 + 12 ≤ 77000 by omega)⟩ rfl (Nat.le_of_ble_eq_true rfl) rfl rfl rfl (by simp only [List.append_assoc, List.cons_append, List.nil_append, List.append_nil]) (fun _ => rfl) (fun _ => by simp only [List.append_assoc, List.cons_append, List.nil_append, List.append_nil]) _ rfl (fun v uq hp => ?_) (fun E hx => absurd hx (no_x (rowK1 h32 (show T.length ≤ 12 by omega))))
                                                  obtain ⟨-, rfl, euq, hSq⟩ := hp
                                                  refine KJ.eqs (st' := .int (rowV N T (nI 1) (nI k1)) :: []) rfl ?_
                                                  refine KJ.topi (y := (nI (T.getD k1 0))) (rowV1 (by omega)) ?_
                                                  obtain ⟨⟨saq, gaq⟩, sbq, gbq⟩ := uq
                                                  dsimp only at euq hSq
                                                  subst euq
                                                  refine KJ.eqw (ws' := ((h, .inr (3, [.ref (a 0), .ref (b 0)])) :: (wSt D a (N, T, A, B, to, pi, fe, pl, go, hi, mi, re, lo) gaq ++ (wSt D b sbq gbq ++ ((m, .inr (5, [.int (nI pl), .int (nI go), .int hi, .int mi, .int re, .int lo, .ref p, .ref r])) :: ((p, .inl (D.1 23, 2, qv hs)) :: ((r, .inl (D.1 24, 2, qv hl)) :: ((n0, .inl (D.1 22, N.length, qv f0)) :: ((n1, .inl (D.1 22, T.length, qv f1)) :: ((l0, .inl (D.1 20, A.length, .inl g0)) :: ((l1, .inl (D.1 20, B.length, .inl g1)) :: ((q60, .inl (D.1 20, 5, .inl (upd (upd (upd (upd (upd (fun _ => 0) 0 (nI 1)) 1 (nI k1)) 2 (nI (to (T.getD k1 0)))) 3 (nI (pi (T.getD k1 0)))) 4 (fe (T.getD k1 0))))) :: va_pl Lp f)))))))))))) rfl ?_
                                                  have hSa := hSq
                                                  refine k_iload_n hC 146 dX5_isSame_146 rfl ?_
                                                  refine n_icmp_eq hC 147 152 dX5_isSame_147 (by decide) (by omega) (by omega) (fun h147 => ?_) (fun h147 => ?_)
                                                  · skip
                                                    refine k_iload_n hC 152 dX5_isSame_152 rfl ?_
                                                    refine k_aload hC 153 dX5_isSame_153 rfl ?_
                                                    refine m_getf hC 155 3 dX5_isSame_155 (List.mem_cons_of_mem _ (List.mem_append_right _ (List.mem_append_right _ (List.mem_cons_of_mem _ (List.mem_cons_of_mem _ (List.mem_cons_of_mem _ (List.mem_cons_of_mem _ (List.mem_cons_of_mem _ (List.mem_cons_of_mem _ (List.mem_cons_of_mem _ (List.mem_cons_of_mem _ (pl_mem (jp _ (Or.inr (getD_mem h32))).1 (jp _ (Or.inr (getD_mem h32))).2)))))))))))) rfl inlX4 (by decide) wq_12_17 rfl ?_
                                                    refine k_iadd hC 158 dX5_isSame_158 (KJ.topi (y := (fsm N T fe kd + fe kd)) (by rw [if_neg hnin, h53]) ?_)
                                                    refine k_istore_n hC 159 2 [(2, .int (fsm N T fe kd + fe kd)), (8, .int (nI 5)), (7, .ref q60), (6, .ref (adr (T.getD k1 0))), (5, .int (nI k1)), (4, .int (nI 1)), (3, .int (nI kd)), (0, .ref m), (1, .ref h)] dX5_isSame_159 rfl (by decide) rfl ?_
                                                    refine KJ.dr ((h, .inr (3, [.ref (a 0), .ref (b 0)])) :: (wSt D a (N, T, A, B, to, pi, fe, pl, go, hi, mi, re, lo) gaq ++ (wSt D b sbq gbq ++ ((m, .inr (5, [.int (nI pl), .int (nI go), .int hi, .int mi, .int re, .int lo, .ref p, .ref r])) :: ((p, .inl (D.1 23, 2, qv hs)) :: ((r, .inl (D.1 24, 2, qv hl)) :: ((n0, .inl (D.1 22, N.length, qv f0)) :: ((n1, .inl (D.1 22, T.length, qv f1)) :: ((l0, .inl (D.1 20, A.length, .inl g0)) :: ((l1, .inl (D.1 20, B.length, .inl g1)) :: [])))))))))) (va_pl Lp f) (q60, .inl (D.1 20, 5, .inl (upd (upd (upd (upd (upd (fun _ => 0) 0 (nI 1)) 1 (nI k1)) 2 (nI (to (T.getD k1 0)))) 3 (nI (pi (T.getD k1 0)))) 4 (fe (T.getD k1 0))))) (by simp only [List.append_assoc, List.cons_append, List.nil_append]) (by simp only [List.append_assoc, List.cons_append, List.nil_append]) (ws' := ((h, .inr (3, [.ref (a 0), .ref (b 0)])) :: (wSt D a (N, T, A, B, to, pi, fe, pl, go, hi, mi, re, lo) gaq ++ (wSt D b sbq gbq ++ ((m, .inr (5, [.int (nI pl), .int (nI go), .int hi, .int mi, .int re, .int lo, .ref p, .ref r])) :: ((p, .inl (D.1 23, 2, qv hs)) :: ((r, .inl (D.1 24, 2, qv hl)) :: ((n0, .inl (D.1 22, N.length, qv f0)) :: ((n1, .inl (D.1 22, T.length, qv f1)) :: ((l0, .inl (D.1 20, A.length, .inl g0)) :: ((l1, .inl (D.1 20, B.length, .inl g1)) :: va_pl Lp f))))))))))) ?_
                                                    refine k_iinc hC 160 4 (nI (k1 + 1)) [(5, .int (nI (k1 + 1))), (2, .int (fsm N T fe kd + fe kd)), (8, .int (nI 5)), (7, .ref q60), (6, .ref (adr (T.getD k1 0))), (4, .int (nI 1)), (3, .int (nI kd)), (0, .ref m), (1, .ref h)] dX5_isSame_160 rfl (nI_1 _) (by decide) rfl ?_
                                                    refine k_goto hC 163 22 dX5_isSame_163 (by decide) ?_
                                                    refine KJ.lvp [0, 5, 6, 1, 7, 8] rfl ?_
                                                    have es : fsm N T fe kd + fe kd = (if kd ∈ N.take N.length ∨ kd ∈ T.take (k1 + 1) then fsm N T fe kd + fe kd else fsm N T fe kd) := (if_pos hyes).symm
                                                    refine KJ.eql (lv' := [(5, .int (nI (k1 + 1))), (4, .int (nI 1)), (3, .int (nI kd)), (2, .int (if kd ∈ N.take N.length ∨ kd ∈ T.take (k1 + 1) then fsm N T fe kd + fe kd else fsm N T fe kd)), (0, .ref m), (1, .ref h)]) (by rw [← es] <;> rfl) ?_
                                                    exact KJ.wide (by omega) (by omega) (ih22 (k1 + 1) gaq sbq gbq (by omega) (by omega) hSa)
                                                  · skip
                                                    exact absurd h53 h147
                                                · skip
                                                  exact absurd h112 (by decide)
                                              · skip
                                                exact absurd rfl h127
                                          · skip
                                            exact absurd rfl h127
                                      · skip
                                        exact absurd rfl h127
                                  · skip
                                    exact absurd rfl h127
                              · skip
                                exact absurd rfl h127
                          refine k_aload hC 74 dX5_isSame_74 rfl ?_
                          refine m_getf hC 76 1 dX5_isSame_76 (List.mem_cons_of_mem _ (List.mem_append_right _ (List.mem_append_right _ (List.mem_cons_of_mem _ (List.mem_cons_of_mem _ (List.mem_cons_of_mem _ (List.mem_cons_of_mem _ (List.mem_cons_of_mem _ (List.mem_cons_of_mem _ (List.mem_cons_of_mem _ (List.mem_cons_of_mem _ (pl_mem (jp _ (Or.inr (getD_mem h32))).1 (jp _ (Or.inr (getD_mem h32))).2)))))))))))) rfl inlX4 (by decide) wq_7_18 rfl ?_
                          have tkx := t1 (T.getD k1 0)
                          refine n_if_eq hC 79 86 dX5_isSame_79 (by decide) (by omega) (fun h79 => ?_) (fun h79 => ?_)
                          · skip
                            refine k_iconst hC 86 dX5_isSame_86 (nI 0) (by decide) ?_
                            refine KJ.topi (y := nI (to (T.getD k1 0))) (congrArg nI (by omega)) ?_
                            exact cut87
                          · skip
                            refine k_iconst hC 82 dX5_isSame_82 (nI 1) (by decide) ?_
                            refine k_goto hC 83 87 dX5_isSame_83 (by decide) ?_
                            refine KJ.topi (y := nI (to (T.getD k1 0))) (congrArg nI (by omega)) ?_
                            exact cut87
                        · skip
                          have hsame : (kd ∈ N.take N.length ∨ kd ∈ T.take k1) ↔ (kd ∈ N.take N.length ∨ kd ∈ T.take (k1 + 1)) := by
                            rw [mem_ts h32]
                            exact ⟨fun z => z.imp id Or.inl, fun z => z.imp id (fun y => y.elim id (fun x => absurd x h53))⟩
                          refine k_goto hC 56 160 dX5_isSame_56 (by decide) ?_
                          refine k_iinc hC 160 1 (nI (k1 + 1)) [(5, .int (nI (k1 + 1))), (6, .ref (adr (T.getD k1 0))), (4, .int (nI 1)), (3, .int (nI kd)), (2, .int (if kd ∈ N.take N.length ∨ kd ∈ T.take k1 then fsm N T fe kd + fe kd else fsm N T fe kd)), (0, .ref m), (1, .ref h)] dX5_isSame_160 rfl (nI_1 _) (by decide) rfl ?_
                          refine k_goto hC 163 22 dX5_isSame_163 (by decide) ?_
                          refine KJ.lvp [0, 2, 3, 4, 5, 6] rfl ?_
                          have es : (if kd ∈ N.take N.length ∨ kd ∈ T.take k1 then fsm N T fe kd + fe kd else fsm N T fe kd) = (if kd ∈ N.take N.length ∨ kd ∈ T.take (k1 + 1) then fsm N T fe kd + fe kd else fsm N T fe kd) := (by simp only [hsame])
                          refine KJ.eql (lv' := [(5, .int (nI (k1 + 1))), (4, .int (nI 1)), (3, .int (nI kd)), (2, .int (if kd ∈ N.take N.length ∨ kd ∈ T.take (k1 + 1) then fsm N T fe kd + fe kd else fsm N T fe kd)), (0, .ref m), (1, .ref h)]) (by rw [← es] <;> rfl) ?_
                          exact KJ.wide (by omega) (by omega) (ih22 (k1 + 1) ga1 sb1 gb1 (by omega) (by omega) hSa)
                  exact KJ.wide (by omega) (by omega) (loop22 (T.length + 1) 0 ga0 sb0 gb0 (by omega) (by omega) hSa)
              · skip
                refine k_aload_n hC 35 dX5_isSame_35 rfl ?_
                refine k_getf hC 36 31 6 dX5_isSame_36 rfl rfl inlX5 (by decide) wq_3_10 rfl ?_
                refine k_iload hC 39 dX5_isSame_39 rfl ?_
                refine k_aald hC 41 32 0 3 (v := n0) dX5_isSame_41 rfl rfl rfl (by omega) (by omega) s0 ?_
                refine k_iload hC 42 dX5_isSame_42 rfl ?_
                refine k_aald hC 44 34 k0 2 (v := (adr (N.getD k0 0))) dX5_isSame_44 rfl rfl rfl (by omega) (by omega) (j0 k0 h32) ?_
                refine k_astore hC 45 6 [(6, .ref (adr (N.getD k0 0))), (5, .int (nI k0)), (4, .int (nI 0)), (3, .int (nI kd)), (2, .int (if kd ∈ N.take k0 ∨ kd ∈ T.take 0 then fsm N T fe kd + fe kd else fsm N T fe kd)), (0, .ref m), (1, .ref h)] dX5_isSame_45 (by decide) rfl ?_
                refine k_aload hC 47 dX5_isSame_47 rfl ?_
                refine m_getf hC 49 0 dX5_isSame_49 (List.mem_cons_of_mem _ (List.mem_append_right _ (List.mem_append_right _ (List.mem_cons_of_mem _ (List.mem_cons_of_mem _ (List.mem_cons_of_mem _ (List.mem_cons_of_mem _ (List.mem_cons_of_mem _ (List.mem_cons_of_mem _ (List.mem_cons_of_mem _ (pl_mem (jp _ (Or.inl (getD_mem h32))).1 (jp _ (Or.inl (getD_mem h32))).2))))))))))) rfl inlX4 (by decide) wq_4_9 rfl ?_
                refine k_iload_n hC 52 dX5_isSame_52 rfl ?_
                refine n_icmp_eq hC 53 59 dX5_isSame_53 (by decide) (by omega) (by omega) (fun h53 => ?_) (fun h53 => ?_)
                · skip
                  have hmem : kd ∈ N := by
                    have z := getD_mem h32
                    rw [h53] at z
                    exact z
                  have hix : N.idxOf kd = k0 := (ix_found h32 h53 (fun i hi z => nd_getD ndN hi h32 (z.trans h53.symm))).2
                  have hnT : kd ∉ T := fun z => (List.nodup_append.mp nd).2.2 kd hmem kd z rfl
                  have hin : kd ∈ N ∨ kd ∈ T := Or.inl hmem
                  have hnin : ¬ (kd ∈ N.take k0 ∨ kd ∈ T.take 0) := fun z => z.elim (nd_nt ndN h32 h53) (fun y => by simp at y)
                  have hyes : kd ∈ N.take (k0 + 1) ∨ kd ∈ T.take 0 := Or.inl ((mem_ts h32).mpr (Or.inr h53))
                  have t0 : dtl (N, T, A, B, to, pi, fe, pl, go, hi, mi, re, lo) kd 0 = nI 0 := by simp [dtl, hmem]
                  have t1x : dtl (N, T, A, B, to, pi, fe, pl, go, hi, mi, re, lo) kd 1 = nI k0 := by simp [dtl, hmem, hix]
                  have t2 : dtl (N, T, A, B, to, pi, fe, pl, go, hi, mi, re, lo) kd 2 = nI (to kd) := by simp [dtl, hin]
                  have t3 : dtl (N, T, A, B, to, pi, fe, pl, go, hi, mi, re, lo) kd 3 = nI (pi kd) := by simp [dtl, hin]
                  have t4 : dtl (N, T, A, B, to, pi, fe, pl, go, hi, mi, re, lo) kd 4 = fe kd := by simp [dtl, hin]
                  have tk1 := t1 kd
                  have tkx := t1 (N.getD k0 0)
                  have pkx := p9 (N.getD k0 0)
                  refine k_iconst hC 59 dX5_isSame_59 (nI 5) (by decide) ?_
                  refine k_newarrI hC 60 5 dX5_isSame_60 (by decide) (by decide) ⟨(show 0 + 322 * kd + 13 * k0 + 1 ≤ 13000 by omega), (show 0 + 1908 * kd + 77 * k0 + (5) ≤ 77000 by omega)⟩ (fun q60 => ?_)
                  refine KJ.eqw (ws' := ((h, .inr (3, [.ref (a 0), .ref (b 0)])) :: (wSt D a (N, T, A, B, to, pi, fe, pl, go, hi, mi, re, lo) ga0 ++ (wSt D b sb0 gb0 ++ ((m, .inr (5, [.int (nI pl), .int (nI go), .int hi, .int mi, .int re, .int lo, .ref p, .ref r])) :: ((p, .inl (D.1 23, 2, qv hs)) :: ((r, .inl (D.1 24, 2, qv hl)) :: ((n0, .inl (D.1 22, N.length, qv f0)) :: ((n1, .inl (D.1 22, T.length, qv f1)) :: ((l0, .inl (D.1 20, A.length, .inl g0)) :: ((l1, .inl (D.1 20, B.length, .inl g1)) :: (va_pl Lp f ++ ((q60, .inl (D.1 20, 5, .inl (fun _ => 0))) :: []))))))))))))) rfl ?_
                  refine KJ.mv ((h, .inr (3, [.ref (a 0), .ref (b 0)])) :: (wSt D a (N, T, A, B, to, pi, fe, pl, go, hi, mi, re, lo) ga0 ++ (wSt D b sb0 gb0 ++ ((m, .inr (5, [.int (nI pl), .int (nI go), .int hi, .int mi, .int re, .int lo, .ref p, .ref r])) :: ((p, .inl (D.1 23, 2, qv hs)) :: ((r, .inl (D.1 24, 2, qv hl)) :: ((n0, .inl (D.1 22, N.length, qv f0)) :: ((n1, .inl (D.1 22, T.length, qv f1)) :: ((l0, .inl (D.1 20, A.length, .inl g0)) :: ((l1, .inl (D.1 20, B.length, .inl g1)) :: [])))))))))) (va_pl Lp f) (q60, .inl (D.1 20, 5, .inl (fun _ => 0))) (by simp only [List.append_assoc, List.cons_append, List.nil_append]) (by simp only [List.append_assoc, List.cons_append, List.nil_append]) (ws' := ((h, .inr (3, [.ref (a 0), .ref (b 0)])) :: (wSt D a (N, T, A, B, to, pi, fe, pl, go, hi, mi, re, lo) ga0 ++ (wSt D b sb0 gb0 ++ ((m, .inr (5, [.int (nI pl), .int (nI go), .int hi, .int mi, .int re, .int lo, .ref p, .ref r])) :: ((p, .inl (D.1 23, 2, qv hs)) :: ((r, .inl (D.1 24, 2, qv hl)) :: ((n0, .inl (D.1 22, N.length, qv f0)) :: ((n1, .inl (D.1 22, T.length, qv f1)) :: ((l0, .inl (D.1 20, A.length, .inl g0)) :: ((l1, .inl (D.1 20, B.length, .inl g1)) :: ((q60, .inl (D.1 20, 5, .inl (fun _ => 0))) :: va_pl Lp f)))))))))))) ?_
                  refine k_dup hC 62 dX5_isSame_62 rfl ?_
                  refine k_iconst hC 63 dX5_isSame_63 (nI 0) (by decide) ?_
                  refine k_iload hC 64 dX5_isSame_64 rfl ?_
                  refine n_iast hC 66 38 ((h, .inr (3, [.ref (a 0), .ref (b 0)])) :: (wSt D a (N, T, A, B, to, pi, fe, pl, go, hi, mi, re, lo) ga0 ++ (wSt D b sb0 gb0 ++ ((m, .inr (5, [.int (nI pl), .int (nI go), .int hi, .int mi, .int re, .int lo, .ref p, .ref r])) :: ((p, .inl (D.1 23, 2, qv hs)) :: ((r, .inl (D.1 24, 2, qv hl)) :: ((n0, .inl (D.1 22, N.length, qv f0)) :: ((n1, .inl (D.1 22, T.length, qv f1)) :: ((l0, .inl (D.1 20, A.length, .inl g0)) :: ((l1, .inl (D.1 20, B.length, .inl g1)) :: ((q60, .inl (D.1 20, 5, .inl (upd (fun _ => 0) 0 (nI 0)))) :: va_pl Lp f))))))))))) dX5_isSame_66 rfl (by omega) (by decide) rfl ?_
                  refine k_dup hC 67 dX5_isSame_67 rfl ?_
                  refine k_iconst hC 68 dX5_isSame_68 (nI 1) (by decide) ?_
                  refine k_iload hC 69 dX5_isSame_69 rfl ?_
                  refine n_iast hC 71 38 ((h, .inr (3, [.ref (a 0), .ref (b 0)])) :: (wSt D a (N, T, A, B, to, pi, fe, pl, go, hi, mi, re, lo) ga0 ++ (wSt D b sb0 gb0 ++ ((m, .inr (5, [.int (nI pl), .int (nI go), .int hi, .int mi, .int re, .int lo, .ref p, .ref r])) :: ((p, .inl (D.1 23, 2, qv hs)) :: ((r, .inl (D.1 24, 2, qv hl)) :: ((n0, .inl (D.1 22, N.length, qv f0)) :: ((n1, .inl (D.1 22, T.length, qv f1)) :: ((l0, .inl (D.1 20, A.length, .inl g0)) :: ((l1, .inl (D.1 20, B.length, .inl g1)) :: ((q60, .inl (D.1 20, 5, .inl (upd (upd (fun _ => 0) 0 (nI 0)) 1 (nI k0)))) :: va_pl Lp f))))))))))) dX5_isSame_71 rfl (by omega) (by decide) rfl ?_
                  refine k_dup hC 72 dX5_isSame_72 rfl ?_
                  refine k_iconst hC 73 dX5_isSame_73 (nI 2) (by decide) ?_
                  have cut87 : KJ l G D ({ frames := 8, cells := 13000, slots := 77000, locals := 126 } : Room) 9 (0 + 322 * kd + 13 * k0 + 1) (0 + 1908 * kd + 77 * k0 + 5) ((h, .inr (3, [.ref (a 0), .ref (b 0)])) :: (wSt D a (N, T, A, B, to, pi, fe, pl, go, hi, mi, re, lo) ga0 ++ (wSt D b sb0 gb0 ++ ((m, .inr (5, [.int (nI pl), .int (nI go), .int hi, .int mi, .int re, .int lo, .ref p, .ref r])) :: ((p, .inl (D.1 23, 2, qv hs)) :: ((r, .inl (D.1 24, 2, qv hl)) :: ((n0, .inl (D.1 22, N.length, qv f0)) :: ((n1, .inl (D.1 22, T.length, qv f1)) :: ((l0, .inl (D.1 20, A.length, .inl g0)) :: ((l1, .inl (D.1 20, B.length, .inl g1)) :: ((q60, .inl (D.1 20, 5, .inl (upd (upd (fun _ => 0) 0 (nI 0)) 1 (nI k0)))) :: va_pl Lp f))))))))))) [(6, .ref (adr (N.getD k0 0))), (5, .int (nI k0)), (4, .int (nI 0)), (3, .int (nI kd)), (2, .int (if kd ∈ N.take k0 ∨ kd ∈ T.take 0 then fsm N T fe kd + fe kd else fsm N T fe kd)), (0, .ref m), (1, .ref h)] 87 (.int (nI (to (N.getD k0 0))) :: .int (nI 2) :: .ref q60 :: .ref q60 :: []) := by
                    skip
                    refine n_iast hC 87 38 ((h, .inr (3, [.ref (a 0), .ref (b 0)])) :: (wSt D a (N, T, A, B, to, pi, fe, pl, go, hi, mi, re, lo) ga0 ++ (wSt D b sb0 gb0 ++ ((m, .inr (5, [.int (nI pl), .int (nI go), .int hi, .int mi, .int re, .int lo, .ref p, .ref r])) :: ((p, .inl (D.1 23, 2, qv hs)) :: ((r, .inl (D.1 24, 2, qv hl)) :: ((n0, .inl (D.1 22, N.length, qv f0)) :: ((n1, .inl (D.1 22, T.length, qv f1)) :: ((l0, .inl (D.1 20, A.length, .inl g0)) :: ((l1, .inl (D.1 20, B.length, .inl g1)) :: ((q60, .inl (D.1 20, 5, .inl (upd (upd (upd (fun _ => 0) 0 (nI 0)) 1 (nI k0)) 2 (nI (to (N.getD k0 0)))))) :: va_pl Lp f))))))))))) dX5_isSame_87 rfl (by omega) (by decide) rfl ?_
                    refine k_dup hC 88 dX5_isSame_88 rfl ?_
                    refine k_iconst hC 89 dX5_isSame_89 (nI 3) (by decide) ?_
                    refine k_aload hC 90 dX5_isSame_90 rfl ?_
                    refine m_getf hC 92 2 dX5_isSame_92 (List.mem_cons_of_mem _ (List.mem_append_right _ (List.mem_append_right _ (List.mem_cons_of_mem _ (List.mem_cons_of_mem _ (List.mem_cons_of_mem _ (List.mem_cons_of_mem _ (List.mem_cons_of_mem _ (List.mem_cons_of_mem _ (List.mem_cons_of_mem _ (List.mem_cons_of_mem _ (pl_mem (jp _ (Or.inl (getD_mem h32))).1 (jp _ (Or.inl (getD_mem h32))).2)))))))))))) rfl inlX4 (by decide) wq_7_3 rfl ?_
                    refine n_iast hC 95 38 ((h, .inr (3, [.ref (a 0), .ref (b 0)])) :: (wSt D a (N, T, A, B, to, pi, fe, pl, go, hi, mi, re, lo) ga0 ++ (wSt D b sb0 gb0 ++ ((m, .inr (5, [.int (nI pl), .int (nI go), .int hi, .int mi, .int re, .int lo, .ref p, .ref r])) :: ((p, .inl (D.1 23, 2, qv hs)) :: ((r, .inl (D.1 24, 2, qv hl)) :: ((n0, .inl (D.1 22, N.length, qv f0)) :: ((n1, .inl (D.1 22, T.length, qv f1)) :: ((l0, .inl (D.1 20, A.length, .inl g0)) :: ((l1, .inl (D.1 20, B.length, .inl g1)) :: ((q60, .inl (D.1 20, 5, .inl (upd (upd (upd (upd (fun _ => 0) 0 (nI 0)) 1 (nI k0)) 2 (nI (to (N.getD k0 0)))) 3 (nI (pi (N.getD k0 0)))))) :: va_pl Lp f))))))))))) dX5_isSame_95 rfl (by omega) (by decide) rfl ?_
                    refine k_dup hC 96 dX5_isSame_96 rfl ?_
                    refine k_iconst hC 97 dX5_isSame_97 (nI 4) (by decide) ?_
                    refine k_aload hC 98 dX5_isSame_98 rfl ?_
                    refine m_getf hC 100 3 dX5_isSame_100 (List.mem_cons_of_mem _ (List.mem_append_right _ (List.mem_append_right _ (List.mem_cons_of_mem _ (List.mem_cons_of_mem _ (List.mem_cons_of_mem _ (List.mem_cons_of_mem _ (List.mem_cons_of_mem _ (List.mem_cons_of_mem _ (List.mem_cons_of_mem _ (List.mem_cons_of_mem _ (pl_mem (jp _ (Or.inl (getD_mem h32))).1 (jp _ (Or.inl (getD_mem h32))).2)))))))))))) rfl inlX4 (by decide) wq_12_17 rfl ?_
                    refine n_iast hC 103 38 ((h, .inr (3, [.ref (a 0), .ref (b 0)])) :: (wSt D a (N, T, A, B, to, pi, fe, pl, go, hi, mi, re, lo) ga0 ++ (wSt D b sb0 gb0 ++ ((m, .inr (5, [.int (nI pl), .int (nI go), .int hi, .int mi, .int re, .int lo, .ref p, .ref r])) :: ((p, .inl (D.1 23, 2, qv hs)) :: ((r, .inl (D.1 24, 2, qv hl)) :: ((n0, .inl (D.1 22, N.length, qv f0)) :: ((n1, .inl (D.1 22, T.length, qv f1)) :: ((l0, .inl (D.1 20, A.length, .inl g0)) :: ((l1, .inl (D.1 20, B.length, .inl g1)) :: ((q60, .inl (D.1 20, 5, .inl (upd (upd (upd (upd (upd (fun _ => 0) 0 (nI 0)) 1 (nI k0)) 2 (nI (to (N.getD k0 0)))) 3 (nI (pi (N.getD k0 0)))) 4 (fe (N.getD k0 0))))) :: va_pl Lp f))))))))))) dX5_isSame_103 rfl (by omega) (by decide) rfl ?_
                    refine k_astore hC 104 7 [(7, .ref q60), (6, .ref (adr (N.getD k0 0))), (5, .int (nI k0)), (4, .int (nI 0)), (3, .int (nI kd)), (2, .int (if kd ∈ N.take k0 ∨ kd ∈ T.take 0 then fsm N T fe kd + fe kd else fsm N T fe kd)), (0, .ref m), (1, .ref h)] dX5_isSame_104 (by decide) rfl ?_
                    refine k_iconst hC 106 dX5_isSame_106 (nI 0) (by decide) ?_
                    refine k_istore hC 107 8 [(8, .int (nI 0)), (7, .ref q60), (6, .ref (adr (N.getD k0 0))), (5, .int (nI k0)), (4, .int (nI 0)), (3, .int (nI kd)), (2, .int (if kd ∈ N.take k0 ∨ kd ∈ T.take 0 then fsm N T fe kd + fe kd else fsm N T fe kd)), (0, .ref m), (1, .ref h)] dX5_isSame_107 (by decide) rfl ?_
                    refine k_iload hC 109 dX5_isSame_109 rfl ?_
                    refine k_iconst hC 111 dX5_isSame_111 (nI 5) (by decide) ?_
                    refine n_icmp_ge hC 112 138 dX5_isSame_112 (by decide) (by omega) (by omega) (fun h112 => ?_) (fun h112 => ?_)
                    · skip
                      exact absurd h112 (by decide)
                    · skip
                      refine k_aload_n hC 115 dX5_isSame_115 rfl ?_
                      refine k_iload_n hC 116 dX5_isSame_116 rfl ?_
                      refine k_iload hC 117 dX5_isSame_117 rfl ?_
                      refine g_callV hC hX 119 0 ([]) ((m, .inr (5, [.int (nI pl), .int (nI go), .int hi, .int mi, .int re, .int lo, .ref p, .ref r])) :: ((p, .inl (D.1 23, 2, qv hs)) :: ((r, .inl (D.1 24, 2, qv hl)) :: ((n0, .inl (D.1 22, N.length, qv f0)) :: ((n1, .inl (D.1 22, T.length, qv f1)) :: ((l0, .inl (D.1 20, A.length, .inl g0)) :: ((l1, .inl (D.1 20, B.length, .inl g1)) :: ((q60, .inl (D.1 20, 5, .inl (upd (upd (upd (upd (upd (fun _ => 0) 0 (nI 0)) 1 (nI k0)) 2 (nI (to (N.getD k0 0)))) 3 (nI (pi (N.getD k0 0)))) 4 (fe (N.getD k0 0))))) :: va_pl Lp f)))))))) (fun uq => ((h, .inr (3, [.ref (a 0), .ref (b 0)])) :: (wSt D a uq.1.1 uq.1.2 ++ (wSt D b uq.2.1 uq.2.2 ++ ((m, .inr (5, [.int (nI pl), .int (nI go), .int hi, .int mi, .int re, .int lo, .ref p, .ref r])) :: ((p, .inl (D.1 23, 2, qv hs)) :: ((r, .inl (D.1 24, 2, qv hl)) :: ((n0, .inl (D.1 22, N.length, qv f0)) :: ((n1, .inl (D.1 22, T.length, qv f1)) :: ((l0, .inl (D.1 20, A.length, .inl g0)) :: ((l1, .inl (D.1 20, B.length, .inl g1)) :: ((q60, .inl (D.1 20, 5, .inl (upd (upd (upd (upd (upd (fun _ => 0) 0 (nI 0)) 1 (nI k0)) 2 (nI (to (N.getD k0 0)))) 3 (nI (pi (N.getD k0 0)))) 4 (fe (N.getD k0 0))))) :: va_pl Lp f)))))))))))) (c_X3_jar l hfl D h a b (N, T, A, B, to, pi, fe, pl, go, hi, mi, re, lo) sb0 ga0 gb0 (nI kd) (nI 0) hSa hW) cw_RX5_103 dX5_isSame_119 ⟨Nat.le_of_ble_eq_true rfl, Nat.le_of_ble_eq_true rfl, (show 0 + 322 * kd + 13 * k0 + 1 + 2 ≤ 13000 by omega), (show 0 + 1908 * kd + 77 * k0 + 5 + 12 ≤ 77000 by omega)⟩ rfl (Nat.le_of_ble_eq_true rfl) rfl rfl rfl (by simp only [List.append_assoc, List.cons_append, List.nil_append, List.append_nil]) (fun _ => rfl) (fun _ => by simp only [List.append_assoc, List.cons_append, List.nil_append, List.append_nil]) _ rfl (fun v uq hp => ?_) (fun E hx => absurd hx (no_x (jarK0 hkd4 (by decide))))
                      obtain ⟨-, rfl, euq, hSq⟩ := hp
                      refine KJ.eqs (st' := .int (dtl (N, T, A, B, to, pi, fe, pl, go, hi, mi, re, lo) (kn (nI kd)) (kn (nI 0))) :: []) rfl ?_
                      refine KJ.topi (y := (nI 0)) (by rw [kn_ek hkd4]; exact t0) ?_
                      obtain ⟨⟨saq, gaq⟩, sbq, gbq⟩ := uq
                      dsimp only at euq hSq
                      subst euq
                      refine KJ.eqw (ws' := ((h, .inr (3, [.ref (a 0), .ref (b 0)])) :: (wSt D a (N, T, A, B, to, pi, fe, pl, go, hi, mi, re, lo) gaq ++ (wSt D b sbq gbq ++ ((m, .inr (5, [.int (nI pl), .int (nI go), .int hi, .int mi, .int re, .int lo, .ref p, .ref r])) :: ((p, .inl (D.1 23, 2, qv hs)) :: ((r, .inl (D.1 24, 2, qv hl)) :: ((n0, .inl (D.1 22, N.length, qv f0)) :: ((n1, .inl (D.1 22, T.length, qv f1)) :: ((l0, .inl (D.1 20, A.length, .inl g0)) :: ((l1, .inl (D.1 20, B.length, .inl g1)) :: ((q60, .inl (D.1 20, 5, .inl (upd (upd (upd (upd (upd (fun _ => 0) 0 (nI 0)) 1 (nI k0)) 2 (nI (to (N.getD k0 0)))) 3 (nI (pi (N.getD k0 0)))) 4 (fe (N.getD k0 0))))) :: va_pl Lp f)))))))))))) rfl ?_
                      have hSa := hSq
                      refine k_aload hC 122 dX5_isSame_122 rfl ?_
                      refine k_iload hC 124 dX5_isSame_124 rfl ?_
                      refine n_iald hC 126 38 (nI 0) dX5_isSame_126 rfl (by decide) (by decide) rfl ?_
                      refine n_icmp_eq hC 127 132 dX5_isSame_127 (by decide) (by omega) (by omega) (fun h127 => ?_) (fun h127 => ?_)
                      · skip
                        refine k_iinc hC 132 0 (nI 1) [(8, .int (nI 1)), (7, .ref q60), (6, .ref (adr (N.getD k0 0))), (5, .int (nI k0)), (4, .int (nI 0)), (3, .int (nI kd)), (2, .int (if kd ∈ N.take k0 ∨ kd ∈ T.take 0 then fsm N T fe kd + fe kd else fsm N T fe kd)), (0, .ref m), (1, .ref h)] dX5_isSame_132 rfl (by decide) (by decide) rfl ?_
                        refine k_goto hC 135 109 dX5_isSame_135 (by decide) ?_
                        refine k_iload hC 109 dX5_isSame_109 rfl ?_
                        refine k_iconst hC 111 dX5_isSame_111 (nI 5) (by decide) ?_
                        refine n_icmp_ge hC 112 138 dX5_isSame_112 (by decide) (by omega) (by omega) (fun h112 => ?_) (fun h112 => ?_)
                        · skip
                          exact absurd h112 (by decide)
                        · skip
                          refine k_aload_n hC 115 dX5_isSame_115 rfl ?_
                          refine k_iload_n hC 116 dX5_isSame_116 rfl ?_
                          refine k_iload hC 117 dX5_isSame_117 rfl ?_
                          refine g_callV hC hX 119 0 ([]) ((m, .inr (5, [.int (nI pl), .int (nI go), .int hi, .int mi, .int re, .int lo, .ref p, .ref r])) :: ((p, .inl (D.1 23, 2, qv hs)) :: ((r, .inl (D.1 24, 2, qv hl)) :: ((n0, .inl (D.1 22, N.length, qv f0)) :: ((n1, .inl (D.1 22, T.length, qv f1)) :: ((l0, .inl (D.1 20, A.length, .inl g0)) :: ((l1, .inl (D.1 20, B.length, .inl g1)) :: ((q60, .inl (D.1 20, 5, .inl (upd (upd (upd (upd (upd (fun _ => 0) 0 (nI 0)) 1 (nI k0)) 2 (nI (to (N.getD k0 0)))) 3 (nI (pi (N.getD k0 0)))) 4 (fe (N.getD k0 0))))) :: va_pl Lp f)))))))) (fun uq => ((h, .inr (3, [.ref (a 0), .ref (b 0)])) :: (wSt D a uq.1.1 uq.1.2 ++ (wSt D b uq.2.1 uq.2.2 ++ ((m, .inr (5, [.int (nI pl), .int (nI go), .int hi, .int mi, .int re, .int lo, .ref p, .ref r])) :: ((p, .inl (D.1 23, 2, qv hs)) :: ((r, .inl (D.1 24, 2, qv hl)) :: ((n0, .inl (D.1 22, N.length, qv f0)) :: ((n1, .inl (D.1 22, T.length, qv f1)) :: ((l0, .inl (D.1 20, A.length, .inl g0)) :: ((l1, .inl (D.1 20, B.length, .inl g1)) :: ((q60, .inl (D.1 20, 5, .inl (upd (upd (upd (upd (upd (fun _ => 0) 0 (nI 0)) 1 (nI k0)) 2 (nI (to (N.getD k0 0)))) 3 (nI (pi (N.getD k0 0)))) 4 (fe (N.getD k0 0))))) :: va_pl Lp f)))))))))))) (c_X3_jar l hfl D h a b (N, T, A, B, to, pi, fe, pl, go, hi, mi, re, lo) sbq gaq gbq (nI kd) (nI 1) hSa hW) cw_RX5_103 dX5_isSame_119 ⟨Nat.le_of_ble_eq_true rfl, Nat.le_of_ble_eq_true rfl, (show 0 + 322 * kd + 13 * k0 + 1 + 2 + 2 ≤ 13000 by omega), (show 0 + 1908 * kd + 77 * k0 + 5 + 12 + 12 ≤ 77000 by omega)⟩ rfl (Nat.le_of_ble_eq_true rfl) rfl rfl rfl (by simp only [List.append_assoc, List.cons_append, List.nil_append, List.append_nil]) (fun _ => rfl) (fun _ => by simp only [List.append_assoc, List.cons_append, List.nil_append, List.append_nil]) _ rfl (fun v uq hp => ?_) (fun E hx => absurd hx (no_x (jarK0 hkd4 (by decide))))
                          obtain ⟨-, rfl, euq, hSq⟩ := hp
                          refine KJ.eqs (st' := .int (dtl (N, T, A, B, to, pi, fe, pl, go, hi, mi, re, lo) (kn (nI kd)) (kn (nI 1))) :: []) rfl ?_
                          refine KJ.topi (y := (nI k0)) (by rw [kn_ek hkd4]; exact t1x) ?_
                          obtain ⟨⟨saq, gaq⟩, sbq, gbq⟩ := uq
                          dsimp only at euq hSq
                          subst euq
                          refine KJ.eqw (ws' := ((h, .inr (3, [.ref (a 0), .ref (b 0)])) :: (wSt D a (N, T, A, B, to, pi, fe, pl, go, hi, mi, re, lo) gaq ++ (wSt D b sbq gbq ++ ((m, .inr (5, [.int (nI pl), .int (nI go), .int hi, .int mi, .int re, .int lo, .ref p, .ref r])) :: ((p, .inl (D.1 23, 2, qv hs)) :: ((r, .inl (D.1 24, 2, qv hl)) :: ((n0, .inl (D.1 22, N.length, qv f0)) :: ((n1, .inl (D.1 22, T.length, qv f1)) :: ((l0, .inl (D.1 20, A.length, .inl g0)) :: ((l1, .inl (D.1 20, B.length, .inl g1)) :: ((q60, .inl (D.1 20, 5, .inl (upd (upd (upd (upd (upd (fun _ => 0) 0 (nI 0)) 1 (nI k0)) 2 (nI (to (N.getD k0 0)))) 3 (nI (pi (N.getD k0 0)))) 4 (fe (N.getD k0 0))))) :: va_pl Lp f)))))))))))) rfl ?_
                          have hSa := hSq
                          refine k_aload hC 122 dX5_isSame_122 rfl ?_
                          refine k_iload hC 124 dX5_isSame_124 rfl ?_
                          refine n_iald hC 126 38 (nI k0) dX5_isSame_126 rfl (by decide) (by decide) rfl ?_
                          refine n_icmp_eq hC 127 132 dX5_isSame_127 (by decide) (by omega) (by omega) (fun h127 => ?_) (fun h127 => ?_)
                          · skip
                            refine k_iinc hC 132 0 (nI 2) [(8, .int (nI 2)), (7, .ref q60), (6, .ref (adr (N.getD k0 0))), (5, .int (nI k0)), (4, .int (nI 0)), (3, .int (nI kd)), (2, .int (if kd ∈ N.take k0 ∨ kd ∈ T.take 0 then fsm N T fe kd + fe kd else fsm N T fe kd)), (0, .ref m), (1, .ref h)] dX5_isSame_132 rfl (by decide) (by decide) rfl ?_
                            refine k_goto hC 135 109 dX5_isSame_135 (by decide) ?_
                            refine k_iload hC 109 dX5_isSame_109 rfl ?_
                            refine k_iconst hC 111 dX5_isSame_111 (nI 5) (by decide) ?_
                            refine n_icmp_ge hC 112 138 dX5_isSame_112 (by decide) (by omega) (by omega) (fun h112 => ?_) (fun h112 => ?_)
                            · skip
                              exact absurd h112 (by decide)
                            · skip
                              refine k_aload_n hC 115 dX5_isSame_115 rfl ?_
                              refine k_iload_n hC 116 dX5_isSame_116 rfl ?_
                              refine k_iload hC 117 dX5_isSame_117 rfl ?_
                              refine g_callV hC hX 119 0 ([]) ((m, .inr (5, [.int (nI pl), .int (nI go), .int hi, .int mi, .int re, .int lo, .ref p, .ref r])) :: ((p, .inl (D.1 23, 2, qv hs)) :: ((r, .inl (D.1 24, 2, qv hl)) :: ((n0, .inl (D.1 22, N.length, qv f0)) :: ((n1, .inl (D.1 22, T.length, qv f1)) :: ((l0, .inl (D.1 20, A.length, .inl g0)) :: ((l1, .inl (D.1 20, B.length, .inl g1)) :: ((q60, .inl (D.1 20, 5, .inl (upd (upd (upd (upd (upd (fun _ => 0) 0 (nI 0)) 1 (nI k0)) 2 (nI (to (N.getD k0 0)))) 3 (nI (pi (N.getD k0 0)))) 4 (fe (N.getD k0 0))))) :: va_pl Lp f)))))))) (fun uq => ((h, .inr (3, [.ref (a 0), .ref (b 0)])) :: (wSt D a uq.1.1 uq.1.2 ++ (wSt D b uq.2.1 uq.2.2 ++ ((m, .inr (5, [.int (nI pl), .int (nI go), .int hi, .int mi, .int re, .int lo, .ref p, .ref r])) :: ((p, .inl (D.1 23, 2, qv hs)) :: ((r, .inl (D.1 24, 2, qv hl)) :: ((n0, .inl (D.1 22, N.length, qv f0)) :: ((n1, .inl (D.1 22, T.length, qv f1)) :: ((l0, .inl (D.1 20, A.length, .inl g0)) :: ((l1, .inl (D.1 20, B.length, .inl g1)) :: ((q60, .inl (D.1 20, 5, .inl (upd (upd (upd (upd (upd (fun _ => 0) 0 (nI 0)) 1 (nI k0)) 2 (nI (to (N.getD k0 0)))) 3 (nI (pi (N.getD k0 0)))) 4 (fe (N.getD k0 0))))) :: va_pl Lp f)))))))))))) (c_X3_jar l hfl D h a b (N, T, A, B, to, pi, fe, pl, go, hi, mi, re, lo) sbq gaq gbq (nI kd) (nI 2) hSa hW) cw_RX5_103 dX5_isSame_119 ⟨Nat.le_of_ble_eq_true rfl, Nat.le_of_ble_eq_true rfl, (show 0 + 322 * kd + 13 * k0 + 1 + 2 + 2 + 2 ≤ 13000 by omega), (show 0 + 1908 * kd + 77 * k0 + 5 + 12 + 12 + 12 ≤ 77000 by omega)⟩ rfl (Nat.le_of_ble_eq_true rfl) rfl rfl rfl (by simp only [List.append_assoc, List.cons_append, List.nil_append, List.append_nil]) (fun _ => rfl) (fun _ => by simp only [List.append_assoc, List.cons_append, List.nil_append, List.append_nil]) _ rfl (fun v uq hp => ?_) (fun E hx => absurd hx (no_x (jarK0 hkd4 (by decide))))
                              obtain ⟨-, rfl, euq, hSq⟩ := hp
                              refine KJ.eqs (st' := .int (dtl (N, T, A, B, to, pi, fe, pl, go, hi, mi, re, lo) (kn (nI kd)) (kn (nI 2))) :: []) rfl ?_
                              refine KJ.topi (y := (nI (to (N.getD k0 0)))) (by rw [kn_ek hkd4, h53]; exact t2) ?_
                              obtain ⟨⟨saq, gaq⟩, sbq, gbq⟩ := uq
                              dsimp only at euq hSq
                              subst euq
                              refine KJ.eqw (ws' := ((h, .inr (3, [.ref (a 0), .ref (b 0)])) :: (wSt D a (N, T, A, B, to, pi, fe, pl, go, hi, mi, re, lo) gaq ++ (wSt D b sbq gbq ++ ((m, .inr (5, [.int (nI pl), .int (nI go), .int hi, .int mi, .int re, .int lo, .ref p, .ref r])) :: ((p, .inl (D.1 23, 2, qv hs)) :: ((r, .inl (D.1 24, 2, qv hl)) :: ((n0, .inl (D.1 22, N.length, qv f0)) :: ((n1, .inl (D.1 22, T.length, qv f1)) :: ((l0, .inl (D.1 20, A.length, .inl g0)) :: ((l1, .inl (D.1 20, B.length, .inl g1)) :: ((q60, .inl (D.1 20, 5, .inl (upd (upd (upd (upd (upd (fun _ => 0) 0 (nI 0)) 1 (nI k0)) 2 (nI (to (N.getD k0 0)))) 3 (nI (pi (N.getD k0 0)))) 4 (fe (N.getD k0 0))))) :: va_pl Lp f)))))))))))) rfl ?_
                              have hSa := hSq
                              refine k_aload hC 122 dX5_isSame_122 rfl ?_
                              refine k_iload hC 124 dX5_isSame_124 rfl ?_
                              refine n_iald hC 126 38 (nI (to (N.getD k0 0))) dX5_isSame_126 rfl (by decide) (by decide) rfl ?_
                              refine n_icmp_eq hC 127 132 dX5_isSame_127 (by decide) (by omega) (by omega) (fun h127 => ?_) (fun h127 => ?_)
                              · skip
                                refine k_iinc hC 132 0 (nI 3) [(8, .int (nI 3)), (7, .ref q60), (6, .ref (adr (N.getD k0 0))), (5, .int (nI k0)), (4, .int (nI 0)), (3, .int (nI kd)), (2, .int (if kd ∈ N.take k0 ∨ kd ∈ T.take 0 then fsm N T fe kd + fe kd else fsm N T fe kd)), (0, .ref m), (1, .ref h)] dX5_isSame_132 rfl (by decide) (by decide) rfl ?_
                                refine k_goto hC 135 109 dX5_isSame_135 (by decide) ?_
                                refine k_iload hC 109 dX5_isSame_109 rfl ?_
                                refine k_iconst hC 111 dX5_isSame_111 (nI 5) (by decide) ?_
                                refine n_icmp_ge hC 112 138 dX5_isSame_112 (by decide) (by omega) (by omega) (fun h112 => ?_) (fun h112 => ?_)
                                · skip
                                  exact absurd h112 (by decide)
                                · skip
                                  refine k_aload_n hC 115 dX5_isSame_115 rfl ?_
                                  refine k_iload_n hC 116 dX5_isSame_116 rfl ?_
                                  refine k_iload hC 117 dX5_isSame_117 rfl ?_
                                  refine g_callV hC hX 119 0 ([]) ((m, .inr (5, [.int (nI pl), .int (nI go), .int hi, .int mi, .int re, .int lo, .ref p, .ref r])) :: ((p, .inl (D.1 23, 2, qv hs)) :: ((r, .inl (D.1 24, 2, qv hl)) :: ((n0, .inl (D.1 22, N.length, qv f0)) :: ((n1, .inl (D.1 22, T.length, qv f1)) :: ((l0, .inl (D.1 20, A.length, .inl g0)) :: ((l1, .inl (D.1 20, B.length, .inl g1)) :: ((q60, .inl (D.1 20, 5, .inl (upd (upd (upd (upd (upd (fun _ => 0) 0 (nI 0)) 1 (nI k0)) 2 (nI (to (N.getD k0 0)))) 3 (nI (pi (N.getD k0 0)))) 4 (fe (N.getD k0 0))))) :: va_pl Lp f)))))))) (fun uq => ((h, .inr (3, [.ref (a 0), .ref (b 0)])) :: (wSt D a uq.1.1 uq.1.2 ++ (wSt D b uq.2.1 uq.2.2 ++ ((m, .inr (5, [.int (nI pl), .int (nI go), .int hi, .int mi, .int re, .int lo, .ref p, .ref r])) :: ((p, .inl (D.1 23, 2, qv hs)) :: ((r, .inl (D.1 24, 2, qv hl)) :: ((n0, .inl (D.1 22, N.length, qv f0)) :: ((n1, .inl (D.1 22, T.length, qv f1)) :: ((l0, .inl (D.1 20, A.length, .inl g0)) :: ((l1, .inl (D.1 20, B.length, .inl g1)) :: ((q60, .inl (D.1 20, 5, .inl (upd (upd (upd (upd (upd (fun _ => 0) 0 (nI 0)) 1 (nI k0)) 2 (nI (to (N.getD k0 0)))) 3 (nI (pi (N.getD k0 0)))) 4 (fe (N.getD k0 0))))) :: va_pl Lp f)))))))))))) (c_X3_jar l hfl D h a b (N, T, A, B, to, pi, fe, pl, go, hi, mi, re, lo) sbq gaq gbq (nI kd) (nI 3) hSa hW) cw_RX5_103 dX5_isSame_119 ⟨Nat.le_of_ble_eq_true rfl, Nat.le_of_ble_eq_true rfl, (show 0 + 322 * kd + 13 * k0 + 1 + 2 + 2 + 2 + 2 ≤ 13000 by omega), (show 0 + 1908 * kd + 77 * k0 + 5 + 12 + 12 + 12 + 12 ≤ 77000 by omega)⟩ rfl (Nat.le_of_ble_eq_true rfl) rfl rfl rfl (by simp only [List.append_assoc, List.cons_append, List.nil_append, List.append_nil]) (fun _ => rfl) (fun _ => by simp only [List.append_assoc, List.cons_append, List.nil_append, List.append_nil]) _ rfl (fun v uq hp => ?_) (fun E hx => absurd hx (no_x (jarK0 hkd4 (by decide))))
                                  obtain ⟨-, rfl, euq, hSq⟩ := hp
                                  refine KJ.eqs (st' := .int (dtl (N, T, A, B, to, pi, fe, pl, go, hi, mi, re, lo) (kn (nI kd)) (kn (nI 3))) :: []) rfl ?_
                                  refine KJ.topi (y := (nI (pi (N.getD k0 0)))) (by rw [kn_ek hkd4, h53]; exact t3) ?_
                                  obtain ⟨⟨saq, gaq⟩, sbq, gbq⟩ := uq
                                  dsimp only at euq hSq
                                  subst euq
                                  refine KJ.eqw (ws' := ((h, .inr (3, [.ref (a 0), .ref (b 0)])) :: (wSt D a (N, T, A, B, to, pi, fe, pl, go, hi, mi, re, lo) gaq ++ (wSt D b sbq gbq ++ ((m, .inr (5, [.int (nI pl), .int (nI go), .int hi, .int mi, .int re, .int lo, .ref p, .ref r])) :: ((p, .inl (D.1 23, 2, qv hs)) :: ((r, .inl (D.1 24, 2, qv hl)) :: ((n0, .inl (D.1 22, N.length, qv f0)) :: ((n1, .inl (D.1 22, T.length, qv f1)) :: ((l0, .inl (D.1 20, A.length, .inl g0)) :: ((l1, .inl (D.1 20, B.length, .inl g1)) :: ((q60, .inl (D.1 20, 5, .inl (upd (upd (upd (upd (upd (fun _ => 0) 0 (nI 0)) 1 (nI k0)) 2 (nI (to (N.getD k0 0)))) 3 (nI (pi (N.getD k0 0)))) 4 (fe (N.getD k0 0))))) :: va_pl Lp f)))))))))))) rfl ?_
                                  have hSa := hSq
                                  refine k_aload hC 122 dX5_isSame_122 rfl ?_
                                  refine k_iload hC 124 dX5_isSame_124 rfl ?_
                                  refine n_iald hC 126 38 (nI (pi (N.getD k0 0))) dX5_isSame_126 rfl (by decide) (by decide) rfl ?_
                                  refine n_icmp_eq hC 127 132 dX5_isSame_127 (by decide) (by omega) (by omega) (fun h127 => ?_) (fun h127 => ?_)
                                  · skip
                                    refine k_iinc hC 132 0 (nI 4) [(8, .int (nI 4)), (7, .ref q60), (6, .ref (adr (N.getD k0 0))), (5, .int (nI k0)), (4, .int (nI 0)), (3, .int (nI kd)), (2, .int (if kd ∈ N.take k0 ∨ kd ∈ T.take 0 then fsm N T fe kd + fe kd else fsm N T fe kd)), (0, .ref m), (1, .ref h)] dX5_isSame_132 rfl (by decide) (by decide) rfl ?_
                                    refine k_goto hC 135 109 dX5_isSame_135 (by decide) ?_
                                    refine k_iload hC 109 dX5_isSame_109 rfl ?_
                                    refine k_iconst hC 111 dX5_isSame_111 (nI 5) (by decide) ?_
                                    refine n_icmp_ge hC 112 138 dX5_isSame_112 (by decide) (by omega) (by omega) (fun h112 => ?_) (fun h112 => ?_)
                                    · skip
                                      exact absurd h112 (by decide)
                                    · skip
                                      refine k_aload_n hC 115 dX5_isSame_115 rfl ?_
                                      refine k_iload_n hC 116 dX5_isSame_116 rfl ?_
                                      refine k_iload hC 117 dX5_isSame_117 rfl ?_
                                      refine g_callV hC hX 119 0 ([]) ((m, .inr (5, [.int (nI pl), .int (nI go), .int hi, .int mi, .int re, .int lo, .ref p, .ref r])) :: ((p, .inl (D.1 23, 2, qv hs)) :: ((r, .inl (D.1 24, 2, qv hl)) :: ((n0, .inl (D.1 22, N.length, qv f0)) :: ((n1, .inl (D.1 22, T.length, qv f1)) :: ((l0, .inl (D.1 20, A.length, .inl g0)) :: ((l1, .inl (D.1 20, B.length, .inl g1)) :: ((q60, .inl (D.1 20, 5, .inl (upd (upd (upd (upd (upd (fun _ => 0) 0 (nI 0)) 1 (nI k0)) 2 (nI (to (N.getD k0 0)))) 3 (nI (pi (N.getD k0 0)))) 4 (fe (N.getD k0 0))))) :: va_pl Lp f)))))))) (fun uq => ((h, .inr (3, [.ref (a 0), .ref (b 0)])) :: (wSt D a uq.1.1 uq.1.2 ++ (wSt D b uq.2.1 uq.2.2 ++ ((m, .inr (5, [.int (nI pl), .int (nI go), .int hi, .int mi, .int re, .int lo, .ref p, .ref r])) :: ((p, .inl (D.1 23, 2, qv hs)) :: ((r, .inl (D.1 24, 2, qv hl)) :: ((n0, .inl (D.1 22, N.length, qv f0)) :: ((n1, .inl (D.1 22, T.length, qv f1)) :: ((l0, .inl (D.1 20, A.length, .inl g0)) :: ((l1, .inl (D.1 20, B.length, .inl g1)) :: ((q60, .inl (D.1 20, 5, .inl (upd (upd (upd (upd (upd (fun _ => 0) 0 (nI 0)) 1 (nI k0)) 2 (nI (to (N.getD k0 0)))) 3 (nI (pi (N.getD k0 0)))) 4 (fe (N.getD k0 0))))) :: va_pl Lp f)))))))))))) (c_X3_jar l hfl D h a b (N, T, A, B, to, pi, fe, pl, go, hi, mi, re, lo) sbq gaq gbq (nI kd) (nI 4) hSa hW) cw_RX5_103 dX5_isSame_119 ⟨Nat.le_of_ble_eq_true rfl, Nat.le_of_ble_eq_true rfl, (show 0 + 322 * kd + 13 * k0 + 1 + 2 + 2 + 2 + 2 + 2 ≤ 13000 by omega), (show 0 + 1908 * kd + 77 * k0 + 5 + 12 + 12 + 12 + 12 + 12 ≤ 77000 by omega)⟩ rfl (Nat.le_of_ble_eq_true rfl) rfl rfl rfl (by simp only [List.append_assoc, List.cons_append, List.nil_append, List.append_nil]) (fun _ => rfl) (fun _ => by simp only [List.append_assoc, List.cons_append, List.nil_append, List.append_nil]) _ rfl (fun v uq hp => ?_) (fun E hx => absurd hx (no_x (jarK0 hkd4 (by decide))))
                                      obtain ⟨-, rfl, euq, hSq⟩ := hp
                                      refine KJ.eqs (st' := .int (dtl (N, T, A, B, to, pi, fe, pl, go, hi, mi, re, lo) (kn (nI kd)) (kn (nI 4))) :: []) rfl ?_
                                      refine KJ.topi (y := (fe (N.getD k0 0))) (by rw [kn_ek hkd4, h53]; exact t4) ?_
                                      obtain ⟨⟨saq, gaq⟩, sbq, gbq⟩ := uq
                                      dsimp only at euq hSq
                                      subst euq
                                      refine KJ.eqw (ws' := ((h, .inr (3, [.ref (a 0), .ref (b 0)])) :: (wSt D a (N, T, A, B, to, pi, fe, pl, go, hi, mi, re, lo) gaq ++ (wSt D b sbq gbq ++ ((m, .inr (5, [.int (nI pl), .int (nI go), .int hi, .int mi, .int re, .int lo, .ref p, .ref r])) :: ((p, .inl (D.1 23, 2, qv hs)) :: ((r, .inl (D.1 24, 2, qv hl)) :: ((n0, .inl (D.1 22, N.length, qv f0)) :: ((n1, .inl (D.1 22, T.length, qv f1)) :: ((l0, .inl (D.1 20, A.length, .inl g0)) :: ((l1, .inl (D.1 20, B.length, .inl g1)) :: ((q60, .inl (D.1 20, 5, .inl (upd (upd (upd (upd (upd (fun _ => 0) 0 (nI 0)) 1 (nI k0)) 2 (nI (to (N.getD k0 0)))) 3 (nI (pi (N.getD k0 0)))) 4 (fe (N.getD k0 0))))) :: va_pl Lp f)))))))))))) rfl ?_
                                      have hSa := hSq
                                      refine k_aload hC 122 dX5_isSame_122 rfl ?_
                                      refine k_iload hC 124 dX5_isSame_124 rfl ?_
                                      refine n_iald hC 126 38 (fe (N.getD k0 0)) dX5_isSame_126 rfl (by decide) (by decide) rfl ?_
                                      refine k_icmp_eq hC 127 132 dX5_isSame_127 (by decide) (fun h127 => ?_) (fun h127 => ?_)
                                      · skip
                                        refine k_iinc hC 132 0 (nI 5) [(8, .int (nI 5)), (7, .ref q60), (6, .ref (adr (N.getD k0 0))), (5, .int (nI k0)), (4, .int (nI 0)), (3, .int (nI kd)), (2, .int (if kd ∈ N.take k0 ∨ kd ∈ T.take 0 then fsm N T fe kd + fe kd else fsm N T fe kd)), (0, .ref m), (1, .ref h)] dX5_isSame_132 rfl (by decide) (by decide) rfl ?_
                                        refine k_goto hC 135 109 dX5_isSame_135 (by decide) ?_
                                        refine k_iload hC 109 dX5_isSame_109 rfl ?_
                                        refine k_iconst hC 111 dX5_isSame_111 (nI 5) (by decide) ?_
                                        refine n_icmp_ge hC 112 138 dX5_isSame_112 (by decide) (by omega) (by omega) (fun h112 => ?_) (fun h112 => ?_)
                                        · skip
                                          refine k_aload_n hC 138 dX5_isSame_138 rfl ?_
                                          refine k_iload hC 139 dX5_isSame_139 rfl ?_
                                          refine k_iload hC 141 dX5_isSame_141 rfl ?_
                                          refine g_callV hC hX 143 0 ([]) ((m, .inr (5, [.int (nI pl), .int (nI go), .int hi, .int mi, .int re, .int lo, .ref p, .ref r])) :: ((p, .inl (D.1 23, 2, qv hs)) :: ((r, .inl (D.1 24, 2, qv hl)) :: ((n0, .inl (D.1 22, N.length, qv f0)) :: ((n1, .inl (D.1 22, T.length, qv f1)) :: ((l0, .inl (D.1 20, A.length, .inl g0)) :: ((l1, .inl (D.1 20, B.length, .inl g1)) :: ((q60, .inl (D.1 20, 5, .inl (upd (upd (upd (upd (upd (fun _ => 0) 0 (nI 0)) 1 (nI k0)) 2 (nI (to (N.getD k0 0)))) 3 (nI (pi (N.getD k0 0)))) 4 (fe (N.getD k0 0))))) :: va_pl Lp f)))))))) (fun uq => ((h, .inr (3, [.ref (a 0), .ref (b 0)])) :: (wSt D a uq.1.1 uq.1.2 ++ (wSt D b uq.2.1 uq.2.2 ++ ((m, .inr (5, [.int (nI pl), .int (nI go), .int hi, .int mi, .int re, .int lo, .ref p, .ref r])) :: ((p, .inl (D.1 23, 2, qv hs)) :: ((r, .inl (D.1 24, 2, qv hl)) :: ((n0, .inl (D.1 22, N.length, qv f0)) :: ((n1, .inl (D.1 22, T.length, qv f1)) :: ((l0, .inl (D.1 20, A.length, .inl g0)) :: ((l1, .inl (D.1 20, B.length, .inl g1)) :: ((q60, .inl (D.1 20, 5, .inl (upd (upd (upd (upd (upd (fun _ => 0) 0 (nI 0)) 1 (nI k0)) 2 (nI (to (N.getD k0 0)))) 3 (nI (pi (N.getD k0 0)))) 4 (fe (N.getD k0 0))))) :: va_pl Lp f)))))))))))) (c_X3_shelf l hfl D h a b (N, T, A, B, to, pi, fe, pl, go, hi, mi, re, lo) sbq gaq gbq (nI 0) (nI k0) hSa hW) cw_RX5_109 dX5_isSame_143 ⟨Nat.le_of_ble_eq_true rfl, Nat.le_of_ble_eq_true rfl, (show 0 + 322 * kd + 13 * k0 + 1 + 2 + 2 + 2 + 2 + 2 + 2 ≤ 13000 by omega), (show 0 + 1908 * kd + 77 * k0 + 5 + 12 + 12 + 12 + 12 + 12 + 12 ≤ 77000 by omega)⟩ rfl (Nat.le_of_ble_eq_true rfl) rfl rfl rfl (by simp only [List.append_assoc, List.cons_append, List.nil_append, List.append_nil]) (fun _ => rfl) (fun _ => by simp only [List.append_assoc, List.cons_append, List.nil_append, List.append_nil]) _ rfl (fun v uq hp => ?_) (fun E hx => absurd hx (no_x (rowK0 h32 (show N.length ≤ 12 by omega))))
                                          obtain ⟨-, rfl, euq, hSq⟩ := hp
                                          refine KJ.eqs (st' := .int (rowV N T (nI 0) (nI k0)) :: []) rfl ?_
                                          refine KJ.topi (y := (nI (N.getD k0 0))) (rowV0 (by omega)) ?_
                                          obtain ⟨⟨saq, gaq⟩, sbq, gbq⟩ := uq
                                          dsimp only at euq hSq
                                          subst euq
                                          refine KJ.eqw (ws' := ((h, .inr (3, [.ref (a 0), .ref (b 0)])) :: (wSt D a (N, T, A, B, to, pi, fe, pl, go, hi, mi, re, lo) gaq ++ (wSt D b sbq gbq ++ ((m, .inr (5, [.int (nI pl), .int (nI go), .int hi, .int mi, .int re, .int lo, .ref p, .ref r])) :: ((p, .inl (D.1 23, 2, qv hs)) :: ((r, .inl (D.1 24, 2, qv hl)) :: ((n0, .inl (D.1 22, N.length, qv f0)) :: ((n1, .inl (D.1 22, T.length, qv f1)) :: ((l0, .inl (D.1 20, A.length, .inl g0)) :: ((l1, .inl (D.1 20, B.length, .inl g1)) :: ((q60, .inl (D.1 20, 5, .inl (upd (upd (upd (upd (upd (fun _ => 0) 0 (nI 0)) 1 (nI k0)) 2 (nI (to (N.getD k0 0)))) 3 (nI (pi (N.getD k0 0)))) 4 (fe (N.getD k0 0))))) :: va_pl Lp f)))))))))))) rfl ?_
                                          have hSa := hSq
                                          refine k_iload_n hC 146 dX5_isSame_146 rfl ?_
                                          refine n_icmp_eq hC 147 152 dX5_isSame_147 (by decide) (by omega) (by omega) (fun h147 => ?_) (fun h147 => ?_)
                                          · skip
                                            refine k_iload_n hC 152 dX5_isSame_152 rfl ?_
                                            refine k_aload hC 153 dX5_isSame_153 rfl ?_
                                            refine m_getf hC 155 3 dX5_isSame_155 (List.mem_cons_of_mem _ (List.mem_append_right _ (List.mem_append_right _ (List.mem_cons_of_mem _ (List.mem_cons_of_mem _ (List.mem_cons_of_mem _ (List.mem_cons_of_mem _ (List.mem_cons_of_mem _ (List.mem_cons_of_mem _ (List.mem_cons_of_mem _ (List.mem_cons_of_mem _ (pl_mem (jp _ (Or.inl (getD_mem h32))).1 (jp _ (Or.inl (getD_mem h32))).2)))))))))))) rfl inlX4 (by decide) wq_12_17 rfl ?_
                                            refine k_iadd hC 158 dX5_isSame_158 (KJ.topi (y := (fsm N T fe kd + fe kd)) (by rw [if_neg hnin, h53]) ?_)
                                            refine k_istore_n hC 159 2 [(2, .int (fsm N T fe kd + fe kd)), (8, .int (nI 5)), (7, .ref q60), (6, .ref (adr (N.getD k0 0))), (5, .int (nI k0)), (4, .int (nI 0)), (3, .int (nI kd)), (0, .ref m), (1, .ref h)] dX5_isSame_159 rfl (by decide) rfl ?_
                                            refine KJ.dr ((h, .inr (3, [.ref (a 0), .ref (b 0)])) :: (wSt D a (N, T, A, B, to, pi, fe, pl, go, hi, mi, re, lo) gaq ++ (wSt D b sbq gbq ++ ((m, .inr (5, [.int (nI pl), .int (nI go), .int hi, .int mi, .int re, .int lo, .ref p, .ref r])) :: ((p, .inl (D.1 23, 2, qv hs)) :: ((r, .inl (D.1 24, 2, qv hl)) :: ((n0, .inl (D.1 22, N.length, qv f0)) :: ((n1, .inl (D.1 22, T.length, qv f1)) :: ((l0, .inl (D.1 20, A.length, .inl g0)) :: ((l1, .inl (D.1 20, B.length, .inl g1)) :: [])))))))))) (va_pl Lp f) (q60, .inl (D.1 20, 5, .inl (upd (upd (upd (upd (upd (fun _ => 0) 0 (nI 0)) 1 (nI k0)) 2 (nI (to (N.getD k0 0)))) 3 (nI (pi (N.getD k0 0)))) 4 (fe (N.getD k0 0))))) (by simp only [List.append_assoc, List.cons_append, List.nil_append]) (by simp only [List.append_assoc, List.cons_append, List.nil_append]) (ws' := ((h, .inr (3, [.ref (a 0), .ref (b 0)])) :: (wSt D a (N, T, A, B, to, pi, fe, pl, go, hi, mi, re, lo) gaq ++ (wSt D b sbq gbq ++ ((m, .inr (5, [.int (nI pl), .int (nI go), .int hi, .int mi, .int re, .int lo, .ref p, .ref r])) :: ((p, .inl (D.1 23, 2, qv hs)) :: ((r, .inl (D.1 24, 2, qv hl)) :: ((n0, .inl (D.1 22, N.length, qv f0)) :: ((n1, .inl (D.1 22, T.length, qv f1)) :: ((l0, .inl (D.1 20, A.length, .inl g0)) :: ((l1, .inl (D.1 20, B.length, .inl g1)) :: va_pl Lp f))))))))))) ?_
                                            refine k_iinc hC 160 4 (nI (k0 + 1)) [(5, .int (nI (k0 + 1))), (2, .int (fsm N T fe kd + fe kd)), (8, .int (nI 5)), (7, .ref q60), (6, .ref (adr (N.getD k0 0))), (4, .int (nI 0)), (3, .int (nI kd)), (0, .ref m), (1, .ref h)] dX5_isSame_160 rfl (nI_1 _) (by decide) rfl ?_
                                            refine k_goto hC 163 22 dX5_isSame_163 (by decide) ?_
                                            refine KJ.lvp [0, 5, 6, 1, 7, 8] rfl ?_
                                            have es : fsm N T fe kd + fe kd = (if kd ∈ N.take (k0 + 1) ∨ kd ∈ T.take 0 then fsm N T fe kd + fe kd else fsm N T fe kd) := (if_pos hyes).symm
                                            refine KJ.eql (lv' := [(5, .int (nI (k0 + 1))), (4, .int (nI 0)), (3, .int (nI kd)), (2, .int (if kd ∈ N.take (k0 + 1) ∨ kd ∈ T.take 0 then fsm N T fe kd + fe kd else fsm N T fe kd)), (0, .ref m), (1, .ref h)]) (by rw [← es] <;> rfl) ?_
                                            exact KJ.wide (by omega) (by omega) (ih22 (k0 + 1) gaq sbq gbq (by omega) (by omega) hSa)
                                          · skip
                                            exact absurd h53 h147
                                        · skip
                                          exact absurd h112 (by decide)
                                      · skip
                                        exact absurd rfl h127
                                  · skip
                                    exact absurd rfl h127
                              · skip
                                exact absurd rfl h127
                          · skip
                            exact absurd rfl h127
                      · skip
                        exact absurd rfl h127
                  refine k_aload hC 74 dX5_isSame_74 rfl ?_
                  refine m_getf hC 76 1 dX5_isSame_76 (List.mem_cons_of_mem _ (List.mem_append_right _ (List.mem_append_right _ (List.mem_cons_of_mem _ (List.mem_cons_of_mem _ (List.mem_cons_of_mem _ (List.mem_cons_of_mem _ (List.mem_cons_of_mem _ (List.mem_cons_of_mem _ (List.mem_cons_of_mem _ (List.mem_cons_of_mem _ (pl_mem (jp _ (Or.inl (getD_mem h32))).1 (jp _ (Or.inl (getD_mem h32))).2)))))))))))) rfl inlX4 (by decide) wq_7_18 rfl ?_
                  have tkx := t1 (N.getD k0 0)
                  refine n_if_eq hC 79 86 dX5_isSame_79 (by decide) (by omega) (fun h79 => ?_) (fun h79 => ?_)
                  · skip
                    refine k_iconst hC 86 dX5_isSame_86 (nI 0) (by decide) ?_
                    refine KJ.topi (y := nI (to (N.getD k0 0))) (congrArg nI (by omega)) ?_
                    exact cut87
                  · skip
                    refine k_iconst hC 82 dX5_isSame_82 (nI 1) (by decide) ?_
                    refine k_goto hC 83 87 dX5_isSame_83 (by decide) ?_
                    refine KJ.topi (y := nI (to (N.getD k0 0))) (congrArg nI (by omega)) ?_
                    exact cut87
                · skip
                  have hsame : (kd ∈ N.take k0 ∨ kd ∈ T.take 0) ↔ (kd ∈ N.take (k0 + 1) ∨ kd ∈ T.take 0) := by
                    rw [mem_ts h32]
                    exact ⟨fun z => z.imp Or.inl id, fun z => z.imp (fun y => y.elim id (fun x => absurd x h53)) id⟩
                  refine k_goto hC 56 160 dX5_isSame_56 (by decide) ?_
                  refine k_iinc hC 160 1 (nI (k0 + 1)) [(5, .int (nI (k0 + 1))), (6, .ref (adr (N.getD k0 0))), (4, .int (nI 0)), (3, .int (nI kd)), (2, .int (if kd ∈ N.take k0 ∨ kd ∈ T.take 0 then fsm N T fe kd + fe kd else fsm N T fe kd)), (0, .ref m), (1, .ref h)] dX5_isSame_160 rfl (nI_1 _) (by decide) rfl ?_
                  refine k_goto hC 163 22 dX5_isSame_163 (by decide) ?_
                  refine KJ.lvp [0, 2, 3, 4, 5, 6] rfl ?_
                  have es : (if kd ∈ N.take k0 ∨ kd ∈ T.take 0 then fsm N T fe kd + fe kd else fsm N T fe kd) = (if kd ∈ N.take (k0 + 1) ∨ kd ∈ T.take 0 then fsm N T fe kd + fe kd else fsm N T fe kd) := (by simp only [hsame])
                  refine KJ.eql (lv' := [(5, .int (nI (k0 + 1))), (4, .int (nI 0)), (3, .int (nI kd)), (2, .int (if kd ∈ N.take (k0 + 1) ∨ kd ∈ T.take 0 then fsm N T fe kd + fe kd else fsm N T fe kd)), (0, .ref m), (1, .ref h)]) (by rw [← es] <;> rfl) ?_
                  exact KJ.wide (by omega) (by omega) (ih22 (k0 + 1) ga0 sb0 gb0 (by omega) (by omega) hSa)
          exact KJ.wide (by omega) (by omega) (loop22 (N.length + 1) 0 ga sb gb (by omega) (by omega) hSa)
  refine KJ.eql (lv' := [(3, .int (nI 0)), (2, .int (fsm N T fe 0)), (0, .ref m), (1, .ref h)]) rfl ?_
  exact KJ.wide (by omega) (by omega) (loop4 41 0 g s2 g2 (by omega) (by omega) hS)
