/-! The simulation: what is asked of it -/
set_option maxHeartbeats 400000 in
set_option maxRecDepth 100000 in
/-- all() -/
theorem s_all (l : Launch) (D : va_G) (m p r : Nat) (N T A B : List Nat) (to pi : Nat → Nat) (fe : Nat → Int32) (pl go : Nat) (hi mi re lo : Int32) (n0 n1 l0 l1 : Nat) (hs hl f0 f1 : Nat → Option Nat) (g0 g1 : Nat → Int32) (L : List Nat) (f : Nat → va_E) (adr : Nat → Nat) (hW : WF (N, T, A, B, to, pi, fe, pl, go, hi, mi, re, lo)) (hJ : SJ (N, T, A, B, to, pi, fe, pl, go, hi, mi, re, lo) (n0, n1, l0, l1, hs, hl, f0, f1, g0, g1, L, f, adr)) : MU l yX5_all cX5_all 1 (some .int) 0 0 D [.ref m] ((m, .inr (5, [.int (nI pl), .int (nI go), .int hi, .int mi, .int re, .int lo, .ref p, .ref r])) :: ((p, .inl (D.1 23, 2, qv hs)) :: ((r, .inl (D.1 24, 2, qv hl)) :: ((n0, .inl (D.1 22, N.length, qv f0)) :: ((n1, .inl (D.1 22, T.length, qv f1)) :: ((l0, .inl (D.1 20, A.length, .inl g0)) :: ((l1, .inl (D.1 20, B.length, .inl g1)) :: va_pl L f))))))) (fun v (_ : Unit) => v = some (.int (nI (N.length + T.length)))) (fun _ => ((m, .inr (5, [.int (nI pl), .int (nI go), .int hi, .int mi, .int re, .int lo, .ref p, .ref r])) :: ((p, .inl (D.1 23, 2, qv hs)) :: ((r, .inl (D.1 24, 2, qv hl)) :: ((n0, .inl (D.1 22, N.length, qv f0)) :: ((n1, .inl (D.1 22, T.length, qv f1)) :: ((l0, .inl (D.1 20, A.length, .inl g0)) :: ((l1, .inl (D.1 20, B.length, .inl g1)) :: va_pl L f)))))))) 0 0 := by
  refine MU.enter (by decide) [(0, .ref m)] rfl (Nat.le_of_ble_eq_true rfl) (fun G hC hE => ?_)
  have hC : CX G D cX5_all RX5 1 := hC
  have hW0 := hW
  have hJ0 := hJ
  obtain ⟨kN, kT, kA, kB, nd, len, lA, lB, p2, p12, g12, t1, p9⟩ := hW
  obtain ⟨s0, s1, s2, s3, j0, j1, a0, a1, jp⟩ := hJ
  refine k_aload_n hC 0 dX5_all_0 rfl ?_
  refine k_getf hC 1 0 6 dX5_all_1 rfl rfl inlX5 (by decide) wq_3_10 rfl ?_
  refine k_iconst hC 4 dX5_all_4 (nI 0) (by decide) ?_
  refine k_aald hC 5 1 0 3 (v := n0) dX5_all_5 rfl rfl rfl (by omega) (by omega) s0 ?_
  refine k_alen hC 6 3 2 (nI N.length) dX5_all_6 rfl rfl rfl ?_
  refine k_aload_n hC 7 dX5_all_7 rfl ?_
  refine k_getf hC 8 0 6 dX5_all_8 rfl rfl inlX5 (by decide) wq_3_10 rfl ?_
  refine k_iconst hC 11 dX5_all_11 (nI 1) (by decide) ?_
  refine k_aald hC 12 1 1 3 (v := n1) dX5_all_12 rfl rfl rfl (by omega) (by omega) s1 ?_
  refine k_alen hC 13 4 2 (nI T.length) dX5_all_13 rfl rfl rfl ?_
  refine n_iadd hC 14 (N.length + T.length) dX5_all_14 rfl ?_
  exact k_iret hC hE 15 () dX5_all_15 rfl rfl rfl ⟨Nat.zero_le _, Nat.zero_le _⟩
set_option maxHeartbeats 400000 in
set_option maxRecDepth 100000 in
/-- free -/
theorem s_free0 (l : Launch) (D : va_G) (m p r : Nat) (N T A B : List Nat) (to pi : Nat → Nat) (fe : Nat → Int32) (pl go : Nat) (hi mi re lo : Int32) (n0 n1 l0 l1 : Nat) (hs hl f0 f1 : Nat → Option Nat) (g0 g1 : Nat → Int32) (L : List Nat) (f : Nat → va_E) (adr : Nat → Nat) (hW : WF (N, T, A, B, to, pi, fe, pl, go, hi, mi, re, lo)) (hJ : SJ (N, T, A, B, to, pi, fe, pl, go, hi, mi, re, lo) (n0, n1, l0, l1, hs, hl, f0, f1, g0, g1, L, f, adr)) : MU l yX5_free cX5_free 7 (some .int) 0 0 D [.ref m, .int (nI 0)] ((m, .inr (5, [.int (nI pl), .int (nI go), .int hi, .int mi, .int re, .int lo, .ref p, .ref r])) :: ((p, .inl (D.1 23, 2, qv hs)) :: ((r, .inl (D.1 24, 2, qv hl)) :: ((n0, .inl (D.1 22, N.length, qv f0)) :: ((n1, .inl (D.1 22, T.length, qv f1)) :: ((l0, .inl (D.1 20, A.length, .inl g0)) :: ((l1, .inl (D.1 20, B.length, .inl g1)) :: va_pl L f))))))) (fun v (_ : Unit) => v = some (.int (nI (N.length - pc pi N)))) (fun _ => ((m, .inr (5, [.int (nI pl), .int (nI go), .int hi, .int mi, .int re, .int lo, .ref p, .ref r])) :: ((p, .inl (D.1 23, 2, qv hs)) :: ((r, .inl (D.1 24, 2, qv hl)) :: ((n0, .inl (D.1 22, N.length, qv f0)) :: ((n1, .inl (D.1 22, T.length, qv f1)) :: ((l0, .inl (D.1 20, A.length, .inl g0)) :: ((l1, .inl (D.1 20, B.length, .inl g1)) :: va_pl L f)))))))) 0 0 := by
  refine MU.enter (by decide) [(0, .ref m), (1, .int (nI 0))] rfl (Nat.le_of_ble_eq_true rfl) (fun G hC hE => ?_)
  have hC : CX G D cX5_free RX5 7 := hC
  have hW0 := hW
  have hJ0 := hJ
  obtain ⟨kN, kT, kA, kB, nd, len, lA, lB, p2, p12, g12, t1, p9⟩ := hW
  obtain ⟨s0, s1, s2, s3, j0, j1, a0, a1, jp⟩ := hJ
  refine k_iconst hC 0 dX5_free_0 (nI 0) (by decide) ?_
  refine k_istore_n hC 1 2 [(2, .int (nI 0)), (0, .ref m), (1, .int (nI 0))] dX5_free_1 rfl (by decide) rfl ?_
  refine k_aload_n hC 2 dX5_free_2 rfl ?_
  refine k_getf hC 3 0 6 dX5_free_3 rfl rfl inlX5 (by decide) wq_3_10 rfl ?_
  refine k_iload_n hC 6 dX5_free_6 rfl ?_
  refine k_aald hC 7 1 0 3 (v := n0) dX5_free_7 rfl rfl rfl (by omega) (by omega) s0 ?_
  refine k_astore_n hC 8 3 [(3, .ref n0), (2, .int (nI 0)), (0, .ref m), (1, .int (nI 0))] dX5_free_8 rfl (by decide) rfl ?_
  refine k_aload_n hC 9 dX5_free_9 rfl ?_
  refine k_alen hC 10 3 2 (nI N.length) dX5_free_10 rfl rfl rfl ?_
  refine k_istore hC 11 4 [(4, .int (nI N.length)), (3, .ref n0), (2, .int (nI 0)), (0, .ref m), (1, .int (nI 0))] dX5_free_11 (by decide) rfl ?_
  refine k_iconst hC 13 dX5_free_13 (nI 0) (by decide) ?_
  refine k_istore hC 14 5 [(5, .int (nI 0)), (4, .int (nI N.length)), (3, .ref n0), (2, .int (nI 0)), (0, .ref m), (1, .int (nI 0))] dX5_free_14 (by decide) rfl ?_
  have loop16 : ∀ (nn16 : Nat) (i : Nat), N.length - i < nn16 → i ≤ N.length → KJ l G D ({ frames := 0, cells := 0, slots := 0, locals := 0 } : Room) 7 0 0 ((m, .inr (5, [.int (nI pl), .int (nI go), .int hi, .int mi, .int re, .int lo, .ref p, .ref r])) :: ((p, .inl (D.1 23, 2, qv hs)) :: ((r, .inl (D.1 24, 2, qv hl)) :: ((n0, .inl (D.1 22, N.length, qv f0)) :: ((n1, .inl (D.1 22, T.length, qv f1)) :: ((l0, .inl (D.1 20, A.length, .inl g0)) :: ((l1, .inl (D.1 20, B.length, .inl g1)) :: va_pl L f))))))) [(5, .int (nI i)), (2, .int (nI (i - pc pi (N.take i)))), (0, .ref m), (3, .ref n0), (4, .int (nI N.length))] 16 ([]) := by
    intro nn16
    induction nn16 with
    | zero => intro i h; exact absurd h (Nat.not_lt_zero _)
    | succ nn16 ih16 =>
      intro i hn16 hi2
      have htl := pc_le pi (N.take i)
      rw [List.length_take] at htl
      have hp := p9 (N.getD i 0)
      refine k_iload hC 16 dX5_free_16 rfl ?_
      refine k_iload hC 18 dX5_free_18 rfl ?_
      refine n_icmp_ge hC 20 51 dX5_free_20 (by decide) (by omega) (by omega) (fun h20 => ?_) (fun h20 => ?_)
      · skip
        refine k_iload_n hC 51 dX5_free_51 rfl ?_
        exact k_iret hC hE 52 () dX5_free_52 rfl (by rw [List.take_of_length_le h20, show i = N.length by omega]) rfl ⟨Nat.zero_le _, Nat.zero_le _⟩
      · skip
        refine k_aload_n hC 23 dX5_free_23 rfl ?_
        refine k_iload hC 24 dX5_free_24 rfl ?_
        refine k_aald hC 26 3 i 2 (v := (adr (N.getD i 0))) dX5_free_26 rfl rfl rfl (by omega) (by omega) (j0 i h20) ?_
        refine k_astore hC 27 6 [(6, .ref (adr (N.getD i 0))), (5, .int (nI i)), (2, .int (nI (i - pc pi (N.take i)))), (0, .ref m), (3, .ref n0), (4, .int (nI N.length))] dX5_free_27 (by decide) rfl ?_
        refine k_iload_n hC 29 dX5_free_29 rfl ?_
        refine k_aload hC 30 dX5_free_30 rfl ?_
        refine m_getf hC 32 2 dX5_free_32 (List.mem_cons_of_mem _ (List.mem_cons_of_mem _ (List.mem_cons_of_mem _ (List.mem_cons_of_mem _ (List.mem_cons_of_mem _ (List.mem_cons_of_mem _ (List.mem_cons_of_mem _ (pl_mem (jp _ (Or.inl (getD_mem h20))).1 (jp _ (Or.inl (getD_mem h20))).2)))))))) rfl inlX4 (by decide) wq_7_3 rfl ?_
        refine n_if_ne hC 35 42 dX5_free_35 (by decide) (by omega) (fun h35 => ?_) (fun h35 => ?_)
        · skip
          refine k_iconst hC 42 dX5_free_42 (nI 0) (by decide) ?_
          refine n_iadd hC 43 ((i - pc pi (N.take i)) + 0) dX5_free_43 rfl ?_
          refine KJ.topi (y := nI ((i + 1) - pc pi (N.take (i + 1)))) (by refine congrArg nI ?_; first | (rw [pc_sf h20 (by omega)]; omega) | (rw [pc_st h20 (by omega)]; omega)) ?_
          refine k_istore_n hC 44 2 [(2, .int (nI ((i + 1) - pc pi (N.take (i + 1))))), (6, .ref (adr (N.getD i 0))), (5, .int (nI i)), (0, .ref m), (3, .ref n0), (4, .int (nI N.length))] dX5_free_44 rfl (by decide) rfl ?_
          refine k_iinc hC 45 2 (nI (i + 1)) [(5, .int (nI (i + 1))), (2, .int (nI ((i + 1) - pc pi (N.take (i + 1))))), (6, .ref (adr (N.getD i 0))), (0, .ref m), (3, .ref n0), (4, .int (nI N.length))] dX5_free_45 rfl (nI_1 _) (by decide) rfl ?_
          refine k_goto hC 48 16 dX5_free_48 (by decide) ?_
          refine KJ.lvp [0, 1, 3, 4, 5] rfl ?_
          exact ih16 (i + 1) (by omega) (by omega)
        · skip
          refine k_iconst hC 38 dX5_free_38 (nI 1) (by decide) ?_
          refine k_goto hC 39 43 dX5_free_39 (by decide) ?_
          refine n_iadd hC 43 ((i - pc pi (N.take i)) + 1) dX5_free_43 rfl ?_
          refine KJ.topi (y := nI ((i + 1) - pc pi (N.take (i + 1)))) (by refine congrArg nI ?_; first | (rw [pc_sf h20 (by omega)]; omega) | (rw [pc_st h20 (by omega)]; omega)) ?_
          refine k_istore_n hC 44 2 [(2, .int (nI ((i + 1) - pc pi (N.take (i + 1))))), (6, .ref (adr (N.getD i 0))), (5, .int (nI i)), (0, .ref m), (3, .ref n0), (4, .int (nI N.length))] dX5_free_44 rfl (by decide) rfl ?_
          refine k_iinc hC 45 2 (nI (i + 1)) [(5, .int (nI (i + 1))), (2, .int (nI ((i + 1) - pc pi (N.take (i + 1))))), (6, .ref (adr (N.getD i 0))), (0, .ref m), (3, .ref n0), (4, .int (nI N.length))] dX5_free_45 rfl (nI_1 _) (by decide) rfl ?_
          refine k_goto hC 48 16 dX5_free_48 (by decide) ?_
          refine KJ.lvp [0, 1, 3, 4, 5] rfl ?_
          exact ih16 (i + 1) (by omega) (by omega)
  refine KJ.lvp [0, 3, 4, 2, 1] rfl ?_
  exact loop16 (N.length + 1) 0 (by omega) (by omega)
set_option maxHeartbeats 400000 in
set_option maxRecDepth 100000 in
/-- free -/
theorem s_free1 (l : Launch) (D : va_G) (m p r : Nat) (N T A B : List Nat) (to pi : Nat → Nat) (fe : Nat → Int32) (pl go : Nat) (hi mi re lo : Int32) (n0 n1 l0 l1 : Nat) (hs hl f0 f1 : Nat → Option Nat) (g0 g1 : Nat → Int32) (L : List Nat) (f : Nat → va_E) (adr : Nat → Nat) (hW : WF (N, T, A, B, to, pi, fe, pl, go, hi, mi, re, lo)) (hJ : SJ (N, T, A, B, to, pi, fe, pl, go, hi, mi, re, lo) (n0, n1, l0, l1, hs, hl, f0, f1, g0, g1, L, f, adr)) : MU l yX5_free cX5_free 7 (some .int) 0 0 D [.ref m, .int (nI 1)] ((m, .inr (5, [.int (nI pl), .int (nI go), .int hi, .int mi, .int re, .int lo, .ref p, .ref r])) :: ((p, .inl (D.1 23, 2, qv hs)) :: ((r, .inl (D.1 24, 2, qv hl)) :: ((n0, .inl (D.1 22, N.length, qv f0)) :: ((n1, .inl (D.1 22, T.length, qv f1)) :: ((l0, .inl (D.1 20, A.length, .inl g0)) :: ((l1, .inl (D.1 20, B.length, .inl g1)) :: va_pl L f))))))) (fun v (_ : Unit) => v = some (.int (nI (T.length - pc pi T)))) (fun _ => ((m, .inr (5, [.int (nI pl), .int (nI go), .int hi, .int mi, .int re, .int lo, .ref p, .ref r])) :: ((p, .inl (D.1 23, 2, qv hs)) :: ((r, .inl (D.1 24, 2, qv hl)) :: ((n0, .inl (D.1 22, N.length, qv f0)) :: ((n1, .inl (D.1 22, T.length, qv f1)) :: ((l0, .inl (D.1 20, A.length, .inl g0)) :: ((l1, .inl (D.1 20, B.length, .inl g1)) :: va_pl L f)))))))) 0 0 := by
  refine MU.enter (by decide) [(0, .ref m), (1, .int (nI 1))] rfl (Nat.le_of_ble_eq_true rfl) (fun G hC hE => ?_)
  have hC : CX G D cX5_free RX5 7 := hC
  have hW0 := hW
  have hJ0 := hJ
  obtain ⟨kN, kT, kA, kB, nd, len, lA, lB, p2, p12, g12, t1, p9⟩ := hW
  obtain ⟨s0, s1, s2, s3, j0, j1, a0, a1, jp⟩ := hJ
  refine k_iconst hC 0 dX5_free_0 (nI 0) (by decide) ?_
  refine k_istore_n hC 1 2 [(2, .int (nI 0)), (0, .ref m), (1, .int (nI 1))] dX5_free_1 rfl (by decide) rfl ?_
  refine k_aload_n hC 2 dX5_free_2 rfl ?_
  refine k_getf hC 3 0 6 dX5_free_3 rfl rfl inlX5 (by decide) wq_3_10 rfl ?_
  refine k_iload_n hC 6 dX5_free_6 rfl ?_
  refine k_aald hC 7 1 1 3 (v := n1) dX5_free_7 rfl rfl rfl (by omega) (by omega) s1 ?_
  refine k_astore_n hC 8 3 [(3, .ref n1), (2, .int (nI 0)), (0, .ref m), (1, .int (nI 1))] dX5_free_8 rfl (by decide) rfl ?_
  refine k_aload_n hC 9 dX5_free_9 rfl ?_
  refine k_alen hC 10 4 2 (nI T.length) dX5_free_10 rfl rfl rfl ?_
  refine k_istore hC 11 4 [(4, .int (nI T.length)), (3, .ref n1), (2, .int (nI 0)), (0, .ref m), (1, .int (nI 1))] dX5_free_11 (by decide) rfl ?_
  refine k_iconst hC 13 dX5_free_13 (nI 0) (by decide) ?_
  refine k_istore hC 14 5 [(5, .int (nI 0)), (4, .int (nI T.length)), (3, .ref n1), (2, .int (nI 0)), (0, .ref m), (1, .int (nI 1))] dX5_free_14 (by decide) rfl ?_
  have loop16 : ∀ (nn16 : Nat) (i : Nat), T.length - i < nn16 → i ≤ T.length → KJ l G D ({ frames := 0, cells := 0, slots := 0, locals := 0 } : Room) 7 0 0 ((m, .inr (5, [.int (nI pl), .int (nI go), .int hi, .int mi, .int re, .int lo, .ref p, .ref r])) :: ((p, .inl (D.1 23, 2, qv hs)) :: ((r, .inl (D.1 24, 2, qv hl)) :: ((n0, .inl (D.1 22, N.length, qv f0)) :: ((n1, .inl (D.1 22, T.length, qv f1)) :: ((l0, .inl (D.1 20, A.length, .inl g0)) :: ((l1, .inl (D.1 20, B.length, .inl g1)) :: va_pl L f))))))) [(5, .int (nI i)), (2, .int (nI (i - pc pi (T.take i)))), (0, .ref m), (3, .ref n1), (4, .int (nI T.length))] 16 ([]) := by
    intro nn16
    induction nn16 with
    | zero => intro i h; exact absurd h (Nat.not_lt_zero _)
    | succ nn16 ih16 =>
      intro i hn16 hi2
      have htl := pc_le pi (T.take i)
      rw [List.length_take] at htl
      have hp := p9 (T.getD i 0)
      refine k_iload hC 16 dX5_free_16 rfl ?_
      refine k_iload hC 18 dX5_free_18 rfl ?_
      refine n_icmp_ge hC 20 51 dX5_free_20 (by decide) (by omega) (by omega) (fun h20 => ?_) (fun h20 => ?_)
      · skip
        refine k_iload_n hC 51 dX5_free_51 rfl ?_
        exact k_iret hC hE 52 () dX5_free_52 rfl (by rw [List.take_of_length_le h20, show i = T.length by omega]) rfl ⟨Nat.zero_le _, Nat.zero_le _⟩
      · skip
        refine k_aload_n hC 23 dX5_free_23 rfl ?_
        refine k_iload hC 24 dX5_free_24 rfl ?_
        refine k_aald hC 26 4 i 2 (v := (adr (T.getD i 0))) dX5_free_26 rfl rfl rfl (by omega) (by omega) (j1 i h20) ?_
        refine k_astore hC 27 6 [(6, .ref (adr (T.getD i 0))), (5, .int (nI i)), (2, .int (nI (i - pc pi (T.take i)))), (0, .ref m), (3, .ref n1), (4, .int (nI T.length))] dX5_free_27 (by decide) rfl ?_
        refine k_iload_n hC 29 dX5_free_29 rfl ?_
        refine k_aload hC 30 dX5_free_30 rfl ?_
        refine m_getf hC 32 2 dX5_free_32 (List.mem_cons_of_mem _ (List.mem_cons_of_mem _ (List.mem_cons_of_mem _ (List.mem_cons_of_mem _ (List.mem_cons_of_mem _ (List.mem_cons_of_mem _ (List.mem_cons_of_mem _ (pl_mem (jp _ (Or.inr (getD_mem h20))).1 (jp _ (Or.inr (getD_mem h20))).2)))))))) rfl inlX4 (by decide) wq_7_3 rfl ?_
        refine n_if_ne hC 35 42 dX5_free_35 (by decide) (by omega) (fun h35 => ?_) (fun h35 => ?_)
        · skip
          refine k_iconst hC 42 dX5_free_42 (nI 0) (by decide) ?_
          refine n_iadd hC 43 ((i - pc pi (T.take i)) + 0) dX5_free_43 rfl ?_
          refine KJ.topi (y := nI ((i + 1) - pc pi (T.take (i + 1)))) (by refine congrArg nI ?_; first | (rw [pc_sf h20 (by omega)]; omega) | (rw [pc_st h20 (by omega)]; omega)) ?_
          refine k_istore_n hC 44 2 [(2, .int (nI ((i + 1) - pc pi (T.take (i + 1))))), (6, .ref (adr (T.getD i 0))), (5, .int (nI i)), (0, .ref m), (3, .ref n1), (4, .int (nI T.length))] dX5_free_44 rfl (by decide) rfl ?_
          refine k_iinc hC 45 2 (nI (i + 1)) [(5, .int (nI (i + 1))), (2, .int (nI ((i + 1) - pc pi (T.take (i + 1))))), (6, .ref (adr (T.getD i 0))), (0, .ref m), (3, .ref n1), (4, .int (nI T.length))] dX5_free_45 rfl (nI_1 _) (by decide) rfl ?_
          refine k_goto hC 48 16 dX5_free_48 (by decide) ?_
          refine KJ.lvp [0, 1, 3, 4, 5] rfl ?_
          exact ih16 (i + 1) (by omega) (by omega)
        · skip
          refine k_iconst hC 38 dX5_free_38 (nI 1) (by decide) ?_
          refine k_goto hC 39 43 dX5_free_39 (by decide) ?_
          refine n_iadd hC 43 ((i - pc pi (T.take i)) + 1) dX5_free_43 rfl ?_
          refine KJ.topi (y := nI ((i + 1) - pc pi (T.take (i + 1)))) (by refine congrArg nI ?_; first | (rw [pc_sf h20 (by omega)]; omega) | (rw [pc_st h20 (by omega)]; omega)) ?_
          refine k_istore_n hC 44 2 [(2, .int (nI ((i + 1) - pc pi (T.take (i + 1))))), (6, .ref (adr (T.getD i 0))), (5, .int (nI i)), (0, .ref m), (3, .ref n1), (4, .int (nI T.length))] dX5_free_44 rfl (by decide) rfl ?_
          refine k_iinc hC 45 2 (nI (i + 1)) [(5, .int (nI (i + 1))), (2, .int (nI ((i + 1) - pc pi (T.take (i + 1))))), (6, .ref (adr (T.getD i 0))), (0, .ref m), (3, .ref n1), (4, .int (nI T.length))] dX5_free_45 rfl (nI_1 _) (by decide) rfl ?_
          refine k_goto hC 48 16 dX5_free_48 (by decide) ?_
          refine KJ.lvp [0, 1, 3, 4, 5] rfl ?_
          exact ih16 (i + 1) (by omega) (by omega)
  refine KJ.lvp [0, 3, 4, 2, 1] rfl ?_
  exact loop16 (T.length + 1) 0 (by omega) (by omega)
set_option maxHeartbeats 400000 in
set_option maxRecDepth 100000 in
/-- pinned -/
theorem s_pinned (l : Launch) (D : va_G) (m p r : Nat) (N T A B : List Nat) (to pi : Nat → Nat) (fe : Nat → Int32) (pl go : Nat) (hi mi re lo : Int32) (n0 n1 l0 l1 : Nat) (hs hl f0 f1 : Nat → Option Nat) (g0 g1 : Nat → Int32) (L : List Nat) (f : Nat → va_E) (adr : Nat → Nat) (hW : WF (N, T, A, B, to, pi, fe, pl, go, hi, mi, re, lo)) (hJ : SJ (N, T, A, B, to, pi, fe, pl, go, hi, mi, re, lo) (n0, n1, l0, l1, hs, hl, f0, f1, g0, g1, L, f, adr)) : MU l yX5_pinned cX5_pinned 10 (some .int) 0 0 D [.ref m] ((m, .inr (5, [.int (nI pl), .int (nI go), .int hi, .int mi, .int re, .int lo, .ref p, .ref r])) :: ((p, .inl (D.1 23, 2, qv hs)) :: ((r, .inl (D.1 24, 2, qv hl)) :: ((n0, .inl (D.1 22, N.length, qv f0)) :: ((n1, .inl (D.1 22, T.length, qv f1)) :: ((l0, .inl (D.1 20, A.length, .inl g0)) :: ((l1, .inl (D.1 20, B.length, .inl g1)) :: va_pl L f))))))) (fun v (_ : Unit) => v = some (.int (nI (pc pi N + pc pi T)))) (fun _ => ((m, .inr (5, [.int (nI pl), .int (nI go), .int hi, .int mi, .int re, .int lo, .ref p, .ref r])) :: ((p, .inl (D.1 23, 2, qv hs)) :: ((r, .inl (D.1 24, 2, qv hl)) :: ((n0, .inl (D.1 22, N.length, qv f0)) :: ((n1, .inl (D.1 22, T.length, qv f1)) :: ((l0, .inl (D.1 20, A.length, .inl g0)) :: ((l1, .inl (D.1 20, B.length, .inl g1)) :: va_pl L f)))))))) 0 0 := by
  refine MU.enter (by decide) [(0, .ref m)] rfl (Nat.le_of_ble_eq_true rfl) (fun G hC hE => ?_)
  have hC : CX G D cX5_pinned RX5 10 := hC
  have hW0 := hW
  have hJ0 := hJ
  obtain ⟨kN, kT, kA, kB, nd, len, lA, lB, p2, p12, g12, t1, p9⟩ := hW
  obtain ⟨s0, s1, s2, s3, j0, j1, a0, a1, jp⟩ := hJ
  have q0 := pc_le pi N
  have q1 := pc_le pi T
  refine k_iconst hC 0 dX5_pinned_0 (nI 0) (by decide) ?_
  refine k_istore_n hC 1 1 [(1, .int (nI 0)), (0, .ref m)] dX5_pinned_1 rfl (by decide) rfl ?_
  refine k_aload_n hC 2 dX5_pinned_2 rfl ?_
  refine k_getf hC 3 0 6 dX5_pinned_3 rfl rfl inlX5 (by decide) wq_3_10 rfl ?_
  refine k_astore_n hC 6 2 [(2, .ref p), (1, .int (nI 0)), (0, .ref m)] dX5_pinned_6 rfl (by decide) rfl ?_
  refine k_aload_n hC 7 dX5_pinned_7 rfl ?_
  refine k_alen hC 8 1 3 (nI 2) dX5_pinned_8 rfl rfl rfl ?_
  refine k_istore_n hC 9 3 [(3, .int (nI 2)), (2, .ref p), (1, .int (nI 0)), (0, .ref m)] dX5_pinned_9 rfl (by decide) rfl ?_
  refine k_iconst hC 10 dX5_pinned_10 (nI 0) (by decide) ?_
  refine k_istore hC 11 4 [(4, .int (nI 0)), (3, .int (nI 2)), (2, .ref p), (1, .int (nI 0)), (0, .ref m)] dX5_pinned_11 (by decide) rfl ?_
  refine k_iload hC 13 dX5_pinned_13 rfl ?_
  refine k_iload_n hC 15 dX5_pinned_15 rfl ?_
  refine n_icmp_ge hC 16 79 dX5_pinned_16 (by decide) (by omega) (by omega) (fun h16 => ?_) (fun h16 => ?_)
  · skip
    exact absurd h16 (by decide)
  · skip
    refine k_aload_n hC 19 dX5_pinned_19 rfl ?_
    refine k_iload hC 20 dX5_pinned_20 rfl ?_
    refine k_aald hC 22 1 0 3 (v := n0) dX5_pinned_22 rfl rfl rfl (by omega) (by omega) s0 ?_
    refine k_astore hC 23 5 [(5, .ref n0), (4, .int (nI 0)), (3, .int (nI 2)), (2, .ref p), (1, .int (nI 0)), (0, .ref m)] dX5_pinned_23 (by decide) rfl ?_
    refine k_aload hC 25 dX5_pinned_25 rfl ?_
    refine k_astore hC 27 6 [(6, .ref n0), (5, .ref n0), (4, .int (nI 0)), (3, .int (nI 2)), (2, .ref p), (1, .int (nI 0)), (0, .ref m)] dX5_pinned_27 (by decide) rfl ?_
    refine k_aload hC 29 dX5_pinned_29 rfl ?_
    refine k_alen hC 31 3 2 (nI N.length) dX5_pinned_31 rfl rfl rfl ?_
    refine k_istore hC 32 7 [(7, .int (nI N.length)), (6, .ref n0), (5, .ref n0), (4, .int (nI 0)), (3, .int (nI 2)), (2, .ref p), (1, .int (nI 0)), (0, .ref m)] dX5_pinned_32 (by decide) rfl ?_
    refine k_iconst hC 34 dX5_pinned_34 (nI 0) (by decide) ?_
    refine k_istore hC 35 8 [(8, .int (nI 0)), (7, .int (nI N.length)), (6, .ref n0), (5, .ref n0), (4, .int (nI 0)), (3, .int (nI 2)), (2, .ref p), (1, .int (nI 0)), (0, .ref m)] dX5_pinned_35 (by decide) rfl ?_
    have loop37 : ∀ (nn37 : Nat) (i : Nat), N.length - i < nn37 → i ≤ N.length → KJ l G D ({ frames := 0, cells := 0, slots := 0, locals := 0 } : Room) 10 0 0 ((m, .inr (5, [.int (nI pl), .int (nI go), .int hi, .int mi, .int re, .int lo, .ref p, .ref r])) :: ((p, .inl (D.1 23, 2, qv hs)) :: ((r, .inl (D.1 24, 2, qv hl)) :: ((n0, .inl (D.1 22, N.length, qv f0)) :: ((n1, .inl (D.1 22, T.length, qv f1)) :: ((l0, .inl (D.1 20, A.length, .inl g0)) :: ((l1, .inl (D.1 20, B.length, .inl g1)) :: va_pl L f))))))) [(8, .int (nI i)), (1, .int (nI (pc pi (N.take i)))), (0, .ref m), (2, .ref p), (3, .int (nI 2)), (4, .int (nI 0)), (6, .ref n0), (7, .int (nI N.length))] 37 ([]) := by
      intro nn37
      induction nn37 with
      | zero => intro i h; exact absurd h (Nat.not_lt_zero _)
      | succ nn37 ih37 =>
        intro i hn37 hi2
        have htl := pc_le pi (N.take i)
        rw [List.length_take] at htl
        have hp := p9 (N.getD i 0)
        refine k_iload hC 37 dX5_pinned_37 rfl ?_
        refine k_iload hC 39 dX5_pinned_39 rfl ?_
        refine n_icmp_ge hC 41 73 dX5_pinned_41 (by decide) (by omega) (by omega) (fun h41 => ?_) (fun h41 => ?_)
        · skip
          rw [List.take_of_length_le (l := N) h41]
          refine k_iinc hC 73 5 (nI 1) [(4, .int (nI 1)), (8, .int (nI i)), (1, .int (nI (pc pi N))), (0, .ref m), (2, .ref p), (3, .int (nI 2)), (6, .ref n0), (7, .int (nI N.length))] dX5_pinned_73 rfl (by decide) (by decide) rfl ?_
          refine k_goto hC 76 13 dX5_pinned_76 (by decide) ?_
          refine k_iload hC 13 dX5_pinned_13 rfl ?_
          refine k_iload_n hC 15 dX5_pinned_15 rfl ?_
          refine n_icmp_ge hC 16 79 dX5_pinned_16 (by decide) (by omega) (by omega) (fun h16 => ?_) (fun h16 => ?_)
          · skip
            exact absurd h16 (by decide)
          · skip
            refine k_aload_n hC 19 dX5_pinned_19 rfl ?_
            refine k_iload hC 20 dX5_pinned_20 rfl ?_
            refine k_aald hC 22 1 1 3 (v := n1) dX5_pinned_22 rfl rfl rfl (by omega) (by omega) s1 ?_
            refine k_astore hC 23 5 [(5, .ref n1), (4, .int (nI 1)), (8, .int (nI i)), (1, .int (nI (pc pi N))), (0, .ref m), (2, .ref p), (3, .int (nI 2)), (6, .ref n0), (7, .int (nI N.length))] dX5_pinned_23 (by decide) rfl ?_
            refine k_aload hC 25 dX5_pinned_25 rfl ?_
            refine k_astore hC 27 6 [(6, .ref n1), (5, .ref n1), (4, .int (nI 1)), (8, .int (nI i)), (1, .int (nI (pc pi N))), (0, .ref m), (2, .ref p), (3, .int (nI 2)), (7, .int (nI N.length))] dX5_pinned_27 (by decide) rfl ?_
            refine k_aload hC 29 dX5_pinned_29 rfl ?_
            refine k_alen hC 31 4 2 (nI T.length) dX5_pinned_31 rfl rfl rfl ?_
            refine k_istore hC 32 7 [(7, .int (nI T.length)), (6, .ref n1), (5, .ref n1), (4, .int (nI 1)), (8, .int (nI i)), (1, .int (nI (pc pi N))), (0, .ref m), (2, .ref p), (3, .int (nI 2))] dX5_pinned_32 (by decide) rfl ?_
            refine k_iconst hC 34 dX5_pinned_34 (nI 0) (by decide) ?_
            refine k_istore hC 35 8 [(8, .int (nI 0)), (7, .int (nI T.length)), (6, .ref n1), (5, .ref n1), (4, .int (nI 1)), (1, .int (nI (pc pi N))), (0, .ref m), (2, .ref p), (3, .int (nI 2))] dX5_pinned_35 (by decide) rfl ?_
            have loop37 : ∀ (nn37 : Nat) (i : Nat), T.length - i < nn37 → i ≤ T.length → KJ l G D ({ frames := 0, cells := 0, slots := 0, locals := 0 } : Room) 10 0 0 ((m, .inr (5, [.int (nI pl), .int (nI go), .int hi, .int mi, .int re, .int lo, .ref p, .ref r])) :: ((p, .inl (D.1 23, 2, qv hs)) :: ((r, .inl (D.1 24, 2, qv hl)) :: ((n0, .inl (D.1 22, N.length, qv f0)) :: ((n1, .inl (D.1 22, T.length, qv f1)) :: ((l0, .inl (D.1 20, A.length, .inl g0)) :: ((l1, .inl (D.1 20, B.length, .inl g1)) :: va_pl L f))))))) [(8, .int (nI i)), (1, .int (nI (pc pi N + pc pi (T.take i)))), (0, .ref m), (2, .ref p), (3, .int (nI 2)), (4, .int (nI 1)), (6, .ref n1), (7, .int (nI T.length))] 37 ([]) := by
              intro nn37
              induction nn37 with
              | zero => intro i h; exact absurd h (Nat.not_lt_zero _)
              | succ nn37 ih37 =>
                intro i hn37 hi2
                have htl := pc_le pi (T.take i)
                rw [List.length_take] at htl
                have hp := p9 (T.getD i 0)
                refine k_iload hC 37 dX5_pinned_37 rfl ?_
                refine k_iload hC 39 dX5_pinned_39 rfl ?_
                refine n_icmp_ge hC 41 73 dX5_pinned_41 (by decide) (by omega) (by omega) (fun h41 => ?_) (fun h41 => ?_)
                · skip
                  rw [List.take_of_length_le (l := T) h41]
                  refine k_iinc hC 73 5 (nI 2) [(4, .int (nI 2)), (8, .int (nI i)), (1, .int (nI (pc pi N + pc pi T))), (0, .ref m), (2, .ref p), (3, .int (nI 2)), (6, .ref n1), (7, .int (nI T.length))] dX5_pinned_73 rfl (by decide) (by decide) rfl ?_
                  refine k_goto hC 76 13 dX5_pinned_76 (by decide) ?_
                  refine k_iload hC 13 dX5_pinned_13 rfl ?_
                  refine k_iload_n hC 15 dX5_pinned_15 rfl ?_
                  refine n_icmp_ge hC 16 79 dX5_pinned_16 (by decide) (by omega) (by omega) (fun h16 => ?_) (fun h16 => ?_)
                  · skip
                    refine k_iload_n hC 79 dX5_pinned_79 rfl ?_
                    exact k_iret hC hE 80 () dX5_pinned_80 rfl rfl rfl ⟨Nat.zero_le _, Nat.zero_le _⟩
                  · skip
                    exact absurd h16 (by decide)
                · skip
                  refine k_aload hC 44 dX5_pinned_44 rfl ?_
                  refine k_iload hC 46 dX5_pinned_46 rfl ?_
                  refine k_aald hC 48 4 i 2 (v := (adr (T.getD i 0))) dX5_pinned_48 rfl rfl rfl (by omega) (by omega) (j1 i h41) ?_
                  refine k_astore hC 49 9 [(9, .ref (adr (T.getD i 0))), (8, .int (nI i)), (1, .int (nI (pc pi N + pc pi (T.take i)))), (0, .ref m), (2, .ref p), (3, .int (nI 2)), (4, .int (nI 1)), (6, .ref n1), (7, .int (nI T.length))] dX5_pinned_49 (by decide) rfl ?_
                  refine k_iload_n hC 51 dX5_pinned_51 rfl ?_
                  refine k_aload hC 52 dX5_pinned_52 rfl ?_
                  refine m_getf hC 54 2 dX5_pinned_54 (List.mem_cons_of_mem _ (List.mem_cons_of_mem _ (List.mem_cons_of_mem _ (List.mem_cons_of_mem _ (List.mem_cons_of_mem _ (List.mem_cons_of_mem _ (List.mem_cons_of_mem _ (pl_mem (jp _ (Or.inr (getD_mem h41))).1 (jp _ (Or.inr (getD_mem h41))).2)))))))) rfl inlX4 (by decide) wq_7_3 rfl ?_
                  refine n_if_le hC 57 64 dX5_pinned_57 (by decide) (by omega) (fun h57 => ?_) (fun h57 => ?_)
                  · skip
                    refine k_iconst hC 64 dX5_pinned_64 (nI 0) (by decide) ?_
                    refine n_iadd hC 65 ((pc pi N + pc pi (T.take i)) + 0) dX5_pinned_65 rfl ?_
                    refine KJ.topi (y := nI (pc pi N + pc pi (T.take (i + 1)))) (by refine congrArg nI ?_; first | (rw [pc_sf h41 (by omega)]; done) | (rw [pc_sf h41 (by omega)]; omega) | (rw [pc_st h41 (by omega)]; done) | (rw [pc_st h41 (by omega)]; omega)) ?_
                    refine k_istore_n hC 66 1 [(1, .int (nI (pc pi N + pc pi (T.take (i + 1))))), (9, .ref (adr (T.getD i 0))), (8, .int (nI i)), (0, .ref m), (2, .ref p), (3, .int (nI 2)), (4, .int (nI 1)), (6, .ref n1), (7, .int (nI T.length))] dX5_pinned_66 rfl (by decide) rfl ?_
                    refine k_iinc hC 67 2 (nI (i + 1)) [(8, .int (nI (i + 1))), (1, .int (nI (pc pi N + pc pi (T.take (i + 1))))), (9, .ref (adr (T.getD i 0))), (0, .ref m), (2, .ref p), (3, .int (nI 2)), (4, .int (nI 1)), (6, .ref n1), (7, .int (nI T.length))] dX5_pinned_67 rfl (nI_1 _) (by decide) rfl ?_
                    refine k_goto hC 70 37 dX5_pinned_70 (by decide) ?_
                    refine KJ.lvp [0, 1, 3, 4, 5, 6, 7, 8] rfl ?_
                    exact ih37 (i + 1) (by omega) (by omega)
                  · skip
                    refine k_iconst hC 60 dX5_pinned_60 (nI 1) (by decide) ?_
                    refine k_goto hC 61 65 dX5_pinned_61 (by decide) ?_
                    refine n_iadd hC 65 ((pc pi N + pc pi (T.take i)) + 1) dX5_pinned_65 rfl ?_
                    refine KJ.topi (y := nI (pc pi N + pc pi (T.take (i + 1)))) (by refine congrArg nI ?_; first | (rw [pc_sf h41 (by omega)]; done) | (rw [pc_sf h41 (by omega)]; omega) | (rw [pc_st h41 (by omega)]; done) | (rw [pc_st h41 (by omega)]; omega)) ?_
                    refine k_istore_n hC 66 1 [(1, .int (nI (pc pi N + pc pi (T.take (i + 1))))), (9, .ref (adr (T.getD i 0))), (8, .int (nI i)), (0, .ref m), (2, .ref p), (3, .int (nI 2)), (4, .int (nI 1)), (6, .ref n1), (7, .int (nI T.length))] dX5_pinned_66 rfl (by decide) rfl ?_
                    refine k_iinc hC 67 2 (nI (i + 1)) [(8, .int (nI (i + 1))), (1, .int (nI (pc pi N + pc pi (T.take (i + 1))))), (9, .ref (adr (T.getD i 0))), (0, .ref m), (2, .ref p), (3, .int (nI 2)), (4, .int (nI 1)), (6, .ref n1), (7, .int (nI T.length))] dX5_pinned_67 rfl (nI_1 _) (by decide) rfl ?_
                    refine k_goto hC 70 37 dX5_pinned_70 (by decide) ?_
                    refine KJ.lvp [0, 1, 3, 4, 5, 6, 7, 8] rfl ?_
                    exact ih37 (i + 1) (by omega) (by omega)
            refine KJ.lvp [0, 5, 6, 7, 8, 4, 2, 1] rfl ?_
            exact loop37 (T.length + 1) 0 (by omega) (by omega)
        · skip
          refine k_aload hC 44 dX5_pinned_44 rfl ?_
          refine k_iload hC 46 dX5_pinned_46 rfl ?_
          refine k_aald hC 48 3 i 2 (v := (adr (N.getD i 0))) dX5_pinned_48 rfl rfl rfl (by omega) (by omega) (j0 i h41) ?_
          refine k_astore hC 49 9 [(9, .ref (adr (N.getD i 0))), (8, .int (nI i)), (1, .int (nI (pc pi (N.take i)))), (0, .ref m), (2, .ref p), (3, .int (nI 2)), (4, .int (nI 0)), (6, .ref n0), (7, .int (nI N.length))] dX5_pinned_49 (by decide) rfl ?_
          refine k_iload_n hC 51 dX5_pinned_51 rfl ?_
          refine k_aload hC 52 dX5_pinned_52 rfl ?_
          refine m_getf hC 54 2 dX5_pinned_54 (List.mem_cons_of_mem _ (List.mem_cons_of_mem _ (List.mem_cons_of_mem _ (List.mem_cons_of_mem _ (List.mem_cons_of_mem _ (List.mem_cons_of_mem _ (List.mem_cons_of_mem _ (pl_mem (jp _ (Or.inl (getD_mem h41))).1 (jp _ (Or.inl (getD_mem h41))).2)))))))) rfl inlX4 (by decide) wq_7_3 rfl ?_
          refine n_if_le hC 57 64 dX5_pinned_57 (by decide) (by omega) (fun h57 => ?_) (fun h57 => ?_)
          · skip
            refine k_iconst hC 64 dX5_pinned_64 (nI 0) (by decide) ?_
            refine n_iadd hC 65 ((pc pi (N.take i)) + 0) dX5_pinned_65 rfl ?_
            refine KJ.topi (y := nI (pc pi (N.take (i + 1)))) (by refine congrArg nI ?_; first | (rw [pc_sf h41 (by omega)]; done) | (rw [pc_sf h41 (by omega)]; omega) | (rw [pc_st h41 (by omega)]; done) | (rw [pc_st h41 (by omega)]; omega)) ?_
            refine k_istore_n hC 66 1 [(1, .int (nI (pc pi (N.take (i + 1))))), (9, .ref (adr (N.getD i 0))), (8, .int (nI i)), (0, .ref m), (2, .ref p), (3, .int (nI 2)), (4, .int (nI 0)), (6, .ref n0), (7, .int (nI N.length))] dX5_pinned_66 rfl (by decide) rfl ?_
            refine k_iinc hC 67 2 (nI (i + 1)) [(8, .int (nI (i + 1))), (1, .int (nI (pc pi (N.take (i + 1))))), (9, .ref (adr (N.getD i 0))), (0, .ref m), (2, .ref p), (3, .int (nI 2)), (4, .int (nI 0)), (6, .ref n0), (7, .int (nI N.length))] dX5_pinned_67 rfl (nI_1 _) (by decide) rfl ?_
            refine k_goto hC 70 37 dX5_pinned_70 (by decide) ?_
            refine KJ.lvp [0, 1, 3, 4, 5, 6, 7, 8] rfl ?_
            exact ih37 (i + 1) (by omega) (by omega)
          · skip
            refine k_iconst hC 60 dX5_pinned_60 (nI 1) (by decide) ?_
            refine k_goto hC 61 65 dX5_pinned_61 (by decide) ?_
            refine n_iadd hC 65 ((pc pi (N.take i)) + 1) dX5_pinned_65 rfl ?_
            refine KJ.topi (y := nI (pc pi (N.take (i + 1)))) (by refine congrArg nI ?_; first | (rw [pc_sf h41 (by omega)]; done) | (rw [pc_sf h41 (by omega)]; omega) | (rw [pc_st h41 (by omega)]; done) | (rw [pc_st h41 (by omega)]; omega)) ?_
            refine k_istore_n hC 66 1 [(1, .int (nI (pc pi (N.take (i + 1))))), (9, .ref (adr (N.getD i 0))), (8, .int (nI i)), (0, .ref m), (2, .ref p), (3, .int (nI 2)), (4, .int (nI 0)), (6, .ref n0), (7, .int (nI N.length))] dX5_pinned_66 rfl (by decide) rfl ?_
            refine k_iinc hC 67 2 (nI (i + 1)) [(8, .int (nI (i + 1))), (1, .int (nI (pc pi (N.take (i + 1))))), (9, .ref (adr (N.getD i 0))), (0, .ref m), (2, .ref p), (3, .int (nI 2)), (4, .int (nI 0)), (6, .ref n0), (7, .int (nI N.length))] dX5_pinned_67 rfl (nI_1 _) (by decide) rfl ?_
            refine k_goto hC 70 37 dX5_pinned_70 (by decide) ?_
            refine KJ.lvp [0, 1, 3, 4, 5, 6, 7, 8] rfl ?_
            exact ih37 (i + 1) (by omega) (by omega)
    refine KJ.lvp [0, 7, 8, 6, 5, 4, 2, 1] rfl ?_
    exact loop37 (N.length + 1) 0 (by omega) (by omega)
set_option maxHeartbeats 400000 in
set_option maxRecDepth 100000 in
/-- find -/
theorem s_find (l : Launch) (D : va_G) (m p r : Nat) (N T A B : List Nat) (to pi : Nat → Nat) (fe : Nat → Int32) (pl go : Nat) (hi mi re lo : Int32) (n0 n1 l0 l1 : Nat) (hs hl f0 f1 : Nat → Option Nat) (g0 g1 : Nat → Int32) (L : List Nat) (f : Nat → va_E) (adr : Nat → Nat) (k : Nat) (hW : WF (N, T, A, B, to, pi, fe, pl, go, hi, mi, re, lo)) (hJ : SJ (N, T, A, B, to, pi, fe, pl, go, hi, mi, re, lo) (n0, n1, l0, l1, hs, hl, f0, f1, g0, g1, L, f, adr)) (hk : k < 40) : MU l yX5_find cX5_find 10 (some (.object "PinnedPantryLaw$Jar")) 0 0 D [.ref m, .int (nI k)] ((m, .inr (5, [.int (nI pl), .int (nI go), .int hi, .int mi, .int re, .int lo, .ref p, .ref r])) :: ((p, .inl (D.1 23, 2, qv hs)) :: ((r, .inl (D.1 24, 2, qv hl)) :: ((n0, .inl (D.1 22, N.length, qv f0)) :: ((n1, .inl (D.1 22, T.length, qv f1)) :: ((l0, .inl (D.1 20, A.length, .inl g0)) :: ((l1, .inl (D.1 20, B.length, .inl g1)) :: va_pl L f))))))) (fun v (_ : Unit) => v = some (if k ∈ N ∨ k ∈ T then .ref (adr k) else .null)) (fun _ => ((m, .inr (5, [.int (nI pl), .int (nI go), .int hi, .int mi, .int re, .int lo, .ref p, .ref r])) :: ((p, .inl (D.1 23, 2, qv hs)) :: ((r, .inl (D.1 24, 2, qv hl)) :: ((n0, .inl (D.1 22, N.length, qv f0)) :: ((n1, .inl (D.1 22, T.length, qv f1)) :: ((l0, .inl (D.1 20, A.length, .inl g0)) :: ((l1, .inl (D.1 20, B.length, .inl g1)) :: va_pl L f)))))))) 0 0 := by
  refine MU.enter (by decide) [(0, .ref m), (1, .int (nI k))] rfl (Nat.le_of_ble_eq_true rfl) (fun G hC hE => ?_)
  have hC : CX G D cX5_find RX5 10 := hC
  have hW0 := hW
  have hJ0 := hJ
  obtain ⟨kN, kT, kA, kB, nd, len, lA, lB, p2, p12, g12, t1, p9⟩ := hW
  obtain ⟨s0, s1, s2, s3, j0, j1, a0, a1, jp⟩ := hJ
  refine k_aload_n hC 0 dX5_find_0 rfl ?_
  refine k_getf hC 1 0 6 dX5_find_1 rfl rfl inlX5 (by decide) wq_3_10 rfl ?_
  refine k_astore_n hC 4 2 [(2, .ref p), (0, .ref m), (1, .int (nI k))] dX5_find_4 rfl (by decide) rfl ?_
  refine k_aload_n hC 5 dX5_find_5 rfl ?_
  refine k_alen hC 6 1 3 (nI 2) dX5_find_6 rfl rfl rfl ?_
  refine k_istore_n hC 7 3 [(3, .int (nI 2)), (2, .ref p), (0, .ref m), (1, .int (nI k))] dX5_find_7 rfl (by decide) rfl ?_
  refine k_iconst hC 8 dX5_find_8 (nI 0) (by decide) ?_
  refine k_istore hC 9 4 [(4, .int (nI 0)), (3, .int (nI 2)), (2, .ref p), (0, .ref m), (1, .int (nI k))] dX5_find_9 (by decide) rfl ?_
  refine k_iload hC 11 dX5_find_11 rfl ?_
  refine k_iload_n hC 13 dX5_find_13 rfl ?_
  refine n_icmp_ge hC 14 73 dX5_find_14 (by decide) (by omega) (by omega) (fun h14 => ?_) (fun h14 => ?_)
  · skip
    exact absurd h14 (by decide)
  · skip
    refine k_aload_n hC 17 dX5_find_17 rfl ?_
    refine k_iload hC 18 dX5_find_18 rfl ?_
    refine k_aald hC 20 1 0 3 (v := n0) dX5_find_20 rfl rfl rfl (by omega) (by omega) s0 ?_
    refine k_astore hC 21 5 [(5, .ref n0), (4, .int (nI 0)), (3, .int (nI 2)), (2, .ref p), (0, .ref m), (1, .int (nI k))] dX5_find_21 (by decide) rfl ?_
    refine k_aload hC 23 dX5_find_23 rfl ?_
    refine k_astore hC 25 6 [(6, .ref n0), (5, .ref n0), (4, .int (nI 0)), (3, .int (nI 2)), (2, .ref p), (0, .ref m), (1, .int (nI k))] dX5_find_25 (by decide) rfl ?_
    refine k_aload hC 27 dX5_find_27 rfl ?_
    refine k_alen hC 29 3 2 (nI N.length) dX5_find_29 rfl rfl rfl ?_
    refine k_istore hC 30 7 [(7, .int (nI N.length)), (6, .ref n0), (5, .ref n0), (4, .int (nI 0)), (3, .int (nI 2)), (2, .ref p), (0, .ref m), (1, .int (nI k))] dX5_find_30 (by decide) rfl ?_
    refine k_iconst hC 32 dX5_find_32 (nI 0) (by decide) ?_
    refine k_istore hC 33 8 [(8, .int (nI 0)), (7, .int (nI N.length)), (6, .ref n0), (5, .ref n0), (4, .int (nI 0)), (3, .int (nI 2)), (2, .ref p), (0, .ref m), (1, .int (nI k))] dX5_find_33 (by decide) rfl ?_
    have loop35 : ∀ (nn35 : Nat) (i : Nat), N.length - i < nn35 → i ≤ N.length → (∀ j : Nat, j < i → ¬ N.getD j 0 = k) → KJ l G D ({ frames := 0, cells := 0, slots := 0, locals := 0 } : Room) 10 0 0 ((m, .inr (5, [.int (nI pl), .int (nI go), .int hi, .int mi, .int re, .int lo, .ref p, .ref r])) :: ((p, .inl (D.1 23, 2, qv hs)) :: ((r, .inl (D.1 24, 2, qv hl)) :: ((n0, .inl (D.1 22, N.length, qv f0)) :: ((n1, .inl (D.1 22, T.length, qv f1)) :: ((l0, .inl (D.1 20, A.length, .inl g0)) :: ((l1, .inl (D.1 20, B.length, .inl g1)) :: va_pl L f))))))) [(8, .int (nI i)), (0, .ref m), (1, .int (nI k)), (2, .ref p), (3, .int (nI 2)), (4, .int (nI 0)), (6, .ref n0), (7, .int (nI N.length))] 35 ([]) := by
      intro nn35
      induction nn35 with
      | zero => intro i h; exact absurd h (Nat.not_lt_zero _)
      | succ nn35 ih35 =>
        intro i hn35 hi2 hb
        have hg := kN.g i
        refine k_iload hC 35 dX5_find_35 rfl ?_
        refine k_iload hC 37 dX5_find_37 rfl ?_
        refine n_icmp_ge hC 39 67 dX5_find_39 (by decide) (by omega) (by omega) (fun h39 => ?_) (fun h39 => ?_)
        · skip
          have no0 : k ∉ N := ix_none (fun j hj => hb j (by omega))
          refine k_iinc hC 67 5 (nI 1) [(4, .int (nI 1)), (8, .int (nI i)), (0, .ref m), (1, .int (nI k)), (2, .ref p), (3, .int (nI 2)), (6, .ref n0), (7, .int (nI N.length))] dX5_find_67 rfl (by decide) (by decide) rfl ?_
          refine k_goto hC 70 11 dX5_find_70 (by decide) ?_
          refine k_iload hC 11 dX5_find_11 rfl ?_
          refine k_iload_n hC 13 dX5_find_13 rfl ?_
          refine n_icmp_ge hC 14 73 dX5_find_14 (by decide) (by omega) (by omega) (fun h14 => ?_) (fun h14 => ?_)
          · skip
            exact absurd h14 (by decide)
          · skip
            refine k_aload_n hC 17 dX5_find_17 rfl ?_
            refine k_iload hC 18 dX5_find_18 rfl ?_
            refine k_aald hC 20 1 1 3 (v := n1) dX5_find_20 rfl rfl rfl (by omega) (by omega) s1 ?_
            refine k_astore hC 21 5 [(5, .ref n1), (4, .int (nI 1)), (8, .int (nI i)), (0, .ref m), (1, .int (nI k)), (2, .ref p), (3, .int (nI 2)), (6, .ref n0), (7, .int (nI N.length))] dX5_find_21 (by decide) rfl ?_
            refine k_aload hC 23 dX5_find_23 rfl ?_
            refine k_astore hC 25 6 [(6, .ref n1), (5, .ref n1), (4, .int (nI 1)), (8, .int (nI i)), (0, .ref m), (1, .int (nI k)), (2, .ref p), (3, .int (nI 2)), (7, .int (nI N.length))] dX5_find_25 (by decide) rfl ?_
            refine k_aload hC 27 dX5_find_27 rfl ?_
            refine k_alen hC 29 4 2 (nI T.length) dX5_find_29 rfl rfl rfl ?_
            refine k_istore hC 30 7 [(7, .int (nI T.length)), (6, .ref n1), (5, .ref n1), (4, .int (nI 1)), (8, .int (nI i)), (0, .ref m), (1, .int (nI k)), (2, .ref p), (3, .int (nI 2))] dX5_find_30 (by decide) rfl ?_
            refine k_iconst hC 32 dX5_find_32 (nI 0) (by decide) ?_
            refine k_istore hC 33 8 [(8, .int (nI 0)), (7, .int (nI T.length)), (6, .ref n1), (5, .ref n1), (4, .int (nI 1)), (0, .ref m), (1, .int (nI k)), (2, .ref p), (3, .int (nI 2))] dX5_find_33 (by decide) rfl ?_
            have loop35 : ∀ (nn35 : Nat) (i : Nat), T.length - i < nn35 → i ≤ T.length → (∀ j : Nat, j < i → ¬ T.getD j 0 = k) → KJ l G D ({ frames := 0, cells := 0, slots := 0, locals := 0 } : Room) 10 0 0 ((m, .inr (5, [.int (nI pl), .int (nI go), .int hi, .int mi, .int re, .int lo, .ref p, .ref r])) :: ((p, .inl (D.1 23, 2, qv hs)) :: ((r, .inl (D.1 24, 2, qv hl)) :: ((n0, .inl (D.1 22, N.length, qv f0)) :: ((n1, .inl (D.1 22, T.length, qv f1)) :: ((l0, .inl (D.1 20, A.length, .inl g0)) :: ((l1, .inl (D.1 20, B.length, .inl g1)) :: va_pl L f))))))) [(8, .int (nI i)), (0, .ref m), (1, .int (nI k)), (2, .ref p), (3, .int (nI 2)), (4, .int (nI 1)), (6, .ref n1), (7, .int (nI T.length))] 35 ([]) := by
              intro nn35
              induction nn35 with
              | zero => intro i h; exact absurd h (Nat.not_lt_zero _)
              | succ nn35 ih35 =>
                intro i hn35 hi2 hb
                have hg := kT.g i
                refine k_iload hC 35 dX5_find_35 rfl ?_
                refine k_iload hC 37 dX5_find_37 rfl ?_
                refine n_icmp_ge hC 39 67 dX5_find_39 (by decide) (by omega) (by omega) (fun h39 => ?_) (fun h39 => ?_)
                · skip
                  have no1 : k ∉ T := ix_none (fun j hj => hb j (by omega))
                  refine k_iinc hC 67 5 (nI 2) [(4, .int (nI 2)), (8, .int (nI i)), (0, .ref m), (1, .int (nI k)), (2, .ref p), (3, .int (nI 2)), (6, .ref n1), (7, .int (nI T.length))] dX5_find_67 rfl (by decide) (by decide) rfl ?_
                  refine k_goto hC 70 11 dX5_find_70 (by decide) ?_
                  refine k_iload hC 11 dX5_find_11 rfl ?_
                  refine k_iload_n hC 13 dX5_find_13 rfl ?_
                  refine n_icmp_ge hC 14 73 dX5_find_14 (by decide) (by omega) (by omega) (fun h14 => ?_) (fun h14 => ?_)
                  · skip
                    refine k_null hC 73 dX5_find_73 ?_
                    exact k_aretN hC hE 74 () dX5_find_74 (Or.inl ⟨_, rfl⟩) (by rw [if_neg (fun z => z.elim no0 no1)]) rfl ⟨Nat.zero_le _, Nat.zero_le _⟩
                  · skip
                    exact absurd h14 (by decide)
                · skip
                  refine k_aload hC 42 dX5_find_42 rfl ?_
                  refine k_iload hC 44 dX5_find_44 rfl ?_
                  refine k_aald hC 46 4 i 2 (v := (adr (T.getD i 0))) dX5_find_46 rfl rfl rfl (by omega) (by omega) (j1 i h39) ?_
                  refine k_astore hC 47 9 [(9, .ref (adr (T.getD i 0))), (8, .int (nI i)), (0, .ref m), (1, .int (nI k)), (2, .ref p), (3, .int (nI 2)), (4, .int (nI 1)), (6, .ref n1), (7, .int (nI T.length))] dX5_find_47 (by decide) rfl ?_
                  refine k_aload hC 49 dX5_find_49 rfl ?_
                  refine m_getf hC 51 0 dX5_find_51 (List.mem_cons_of_mem _ (List.mem_cons_of_mem _ (List.mem_cons_of_mem _ (List.mem_cons_of_mem _ (List.mem_cons_of_mem _ (List.mem_cons_of_mem _ (List.mem_cons_of_mem _ (pl_mem (jp _ (Or.inr (getD_mem h39))).1 (jp _ (Or.inr (getD_mem h39))).2)))))))) rfl inlX4 (by decide) wq_4_9 rfl ?_
                  refine k_iload_n hC 54 dX5_find_54 rfl ?_
                  refine n_icmp_ne hC 55 61 dX5_find_55 (by decide) (by omega) (by omega) (fun h55 => ?_) (fun h55 => ?_)
                  · skip
                    refine k_iinc hC 61 1 (nI (i + 1)) [(8, .int (nI (i + 1))), (9, .ref (adr (T.getD i 0))), (0, .ref m), (1, .int (nI k)), (2, .ref p), (3, .int (nI 2)), (4, .int (nI 1)), (6, .ref n1), (7, .int (nI T.length))] dX5_find_61 rfl (nI_1 _) (by decide) rfl ?_
                    refine k_goto hC 64 35 dX5_find_64 (by decide) ?_
                    refine KJ.lvp [0, 2, 3, 4, 5, 6, 7, 8] rfl ?_
                    exact ih35 (i + 1) (by omega) (by omega) (lt_s hb h55)
                  · skip
                    refine k_aload hC 58 dX5_find_58 rfl ?_
                    exact k_aret hC hE 60 () dX5_find_60 (Or.inl ⟨_, rfl⟩) (by rw [if_pos (Or.inr (h55 ▸ getD_mem h39) : k ∈ N ∨ k ∈ T), h55]) rfl ⟨Nat.zero_le _, Nat.zero_le _⟩
            refine KJ.lvp [0, 5, 6, 7, 8, 4, 2, 1] rfl ?_
            exact loop35 (T.length + 1) 0 (by omega) (by omega) (fun j hj => absurd hj (Nat.not_lt_zero j))
        · skip
          refine k_aload hC 42 dX5_find_42 rfl ?_
          refine k_iload hC 44 dX5_find_44 rfl ?_
          refine k_aald hC 46 3 i 2 (v := (adr (N.getD i 0))) dX5_find_46 rfl rfl rfl (by omega) (by omega) (j0 i h39) ?_
          refine k_astore hC 47 9 [(9, .ref (adr (N.getD i 0))), (8, .int (nI i)), (0, .ref m), (1, .int (nI k)), (2, .ref p), (3, .int (nI 2)), (4, .int (nI 0)), (6, .ref n0), (7, .int (nI N.length))] dX5_find_47 (by decide) rfl ?_
          refine k_aload hC 49 dX5_find_49 rfl ?_
          refine m_getf hC 51 0 dX5_find_51 (List.mem_cons_of_mem _ (List.mem_cons_of_mem _ (List.mem_cons_of_mem _ (List.mem_cons_of_mem _ (List.mem_cons_of_mem _ (List.mem_cons_of_mem _ (List.mem_cons_of_mem _ (pl_mem (jp _ (Or.inl (getD_mem h39))).1 (jp _ (Or.inl (getD_mem h39))).2)))))))) rfl inlX4 (by decide) wq_4_9 rfl ?_
          refine k_iload_n hC 54 dX5_find_54 rfl ?_
          refine n_icmp_ne hC 55 61 dX5_find_55 (by decide) (by omega) (by omega) (fun h55 => ?_) (fun h55 => ?_)
          · skip
            refine k_iinc hC 61 1 (nI (i + 1)) [(8, .int (nI (i + 1))), (9, .ref (adr (N.getD i 0))), (0, .ref m), (1, .int (nI k)), (2, .ref p), (3, .int (nI 2)), (4, .int (nI 0)), (6, .ref n0), (7, .int (nI N.length))] dX5_find_61 rfl (nI_1 _) (by decide) rfl ?_
            refine k_goto hC 64 35 dX5_find_64 (by decide) ?_
            refine KJ.lvp [0, 2, 3, 4, 5, 6, 7, 8] rfl ?_
            exact ih35 (i + 1) (by omega) (by omega) (lt_s hb h55)
          · skip
            refine k_aload hC 58 dX5_find_58 rfl ?_
            exact k_aret hC hE 60 () dX5_find_60 (Or.inl ⟨_, rfl⟩) (by rw [if_pos (Or.inl (h55 ▸ getD_mem h39) : k ∈ N ∨ k ∈ T), h55]) rfl ⟨Nat.zero_le _, Nat.zero_le _⟩
    refine KJ.lvp [0, 7, 8, 6, 5, 4, 2, 1] rfl ?_
    exact loop35 (N.length + 1) 0 (by omega) (by omega) (fun j hj => absurd hj (Nat.not_lt_zero j))
set_option maxHeartbeats 400000 in
set_option maxRecDepth 100000 in
/-- list -/
theorem s_listA (l : Launch) (D : va_G) (m p r : Nat) (N T A B : List Nat) (to pi : Nat → Nat) (fe : Nat → Int32) (pl go : Nat) (hi mi re lo : Int32) (n0 n1 l0 l1 : Nat) (hs hl f0 f1 : Nat → Option Nat) (g0 g1 : Nat → Int32) (L : List Nat) (f : Nat → va_E) (adr : Nat → Nat) (k : Nat) (hW : WF (N, T, A, B, to, pi, fe, pl, go, hi, mi, re, lo)) (hJ : SJ (N, T, A, B, to, pi, fe, pl, go, hi, mi, re, lo) (n0, n1, l0, l1, hs, hl, f0, f1, g0, g1, L, f, adr)) (hk : k < 40) (hin : k ∈ A) : MU l yX5_list cX5_list 4 (some (.array .int)) 0 0 D [.ref m, .int (nI k)] ((m, .inr (5, [.int (nI pl), .int (nI go), .int hi, .int mi, .int re, .int lo, .ref p, .ref r])) :: ((p, .inl (D.1 23, 2, qv hs)) :: ((r, .inl (D.1 24, 2, qv hl)) :: ((n0, .inl (D.1 22, N.length, qv f0)) :: ((n1, .inl (D.1 22, T.length, qv f1)) :: ((l0, .inl (D.1 20, A.length, .inl g0)) :: ((l1, .inl (D.1 20, B.length, .inl g1)) :: va_pl L f))))))) (fun v (u : Nat × (Nat → Int32)) => v = some (.ref u.1) ∧ u.2 0 = nI 0 ∧ u.2 1 = nI (A.idxOf k)) (fun u => ((m, .inr (5, [.int (nI pl), .int (nI go), .int hi, .int mi, .int re, .int lo, .ref p, .ref r])) :: ((p, .inl (D.1 23, 2, qv hs)) :: ((r, .inl (D.1 24, 2, qv hl)) :: ((n0, .inl (D.1 22, N.length, qv f0)) :: ((n1, .inl (D.1 22, T.length, qv f1)) :: ((l0, .inl (D.1 20, A.length, .inl g0)) :: ((l1, .inl (D.1 20, B.length, .inl g1)) :: ((u.1, .inl (D.1 20, 2, .inl u.2)) :: va_pl L f))))))))) 1 2 := by
  refine MU.enter (by decide) [(0, .ref m), (1, .int (nI k))] rfl (Nat.le_of_ble_eq_true rfl) (fun G hC hE => ?_)
  have hC : CX G D cX5_list RX5 4 := hC
  have hW0 := hW
  have hJ0 := hJ
  obtain ⟨kN, kT, kA, kB, nd, len, lA, lB, p2, p12, g12, t1, p9⟩ := hW
  obtain ⟨s0, s1, s2, s3, j0, j1, a0, a1, jp⟩ := hJ
  refine k_iconst hC 0 dX5_list_0 (nI 0) (by decide) ?_
  refine k_istore_n hC 1 2 [(2, .int (nI 0)), (0, .ref m), (1, .int (nI k))] dX5_list_1 rfl (by decide) rfl ?_
  refine k_iload_n hC 2 dX5_list_2 rfl ?_
  refine k_iconst hC 3 dX5_list_3 (nI 2) (by decide) ?_
  refine n_icmp_ge hC 4 56 dX5_list_4 (by decide) (by omega) (by omega) (fun h4 => ?_) (fun h4 => ?_)
  · skip
    exact absurd h4 (by decide)
  · skip
    refine k_iconst hC 7 dX5_list_7 (nI 0) (by decide) ?_
    refine k_istore_n hC 8 3 [(3, .int (nI 0)), (2, .int (nI 0)), (0, .ref m), (1, .int (nI k))] dX5_list_8 rfl (by decide) rfl ?_
    have loop9 : ∀ (nn9 : Nat) (i : Nat), A.length - i < nn9 → i ≤ A.length → (∀ j : Nat, j < i → ¬ A.getD j 0 = k) → KJ l G D ({ frames := 0, cells := 1, slots := 2, locals := 0 } : Room) 4 0 0 ((m, .inr (5, [.int (nI pl), .int (nI go), .int hi, .int mi, .int re, .int lo, .ref p, .ref r])) :: ((p, .inl (D.1 23, 2, qv hs)) :: ((r, .inl (D.1 24, 2, qv hl)) :: ((n0, .inl (D.1 22, N.length, qv f0)) :: ((n1, .inl (D.1 22, T.length, qv f1)) :: ((l0, .inl (D.1 20, A.length, .inl g0)) :: ((l1, .inl (D.1 20, B.length, .inl g1)) :: va_pl L f))))))) [(3, .int (nI i)), (0, .ref m), (1, .int (nI k)), (2, .int (nI 0))] 9 ([]) := by
      intro nn9
      induction nn9 with
      | zero => intro i h; exact absurd h (Nat.not_lt_zero _)
      | succ nn9 ih9 =>
        intro i hn9 hi2 hb
        have hg := kA.g i
        refine k_iload_n hC 9 dX5_list_9 rfl ?_
        refine k_aload_n hC 10 dX5_list_10 rfl ?_
        refine k_getf hC 11 0 7 dX5_list_11 rfl rfl inlX5 (by decide) wq_3_12 rfl ?_
        refine k_iload_n hC 14 dX5_list_14 rfl ?_
        refine k_aald hC 15 2 0 4 (v := l0) dX5_list_15 rfl rfl rfl (by omega) (by omega) s2 ?_
        refine k_alen hC 16 5 0 (nI A.length) dX5_list_16 rfl rfl rfl ?_
        refine n_icmp_ge hC 17 50 dX5_list_17 (by decide) (by omega) (by omega) (fun h17 => ?_) (fun h17 => ?_)
        · skip
          exact absurd hin (ix_none (fun j hj => hb j (by omega)))
        · skip
          refine k_aload_n hC 20 dX5_list_20 rfl ?_
          refine k_getf hC 21 0 7 dX5_list_21 rfl rfl inlX5 (by decide) wq_3_12 rfl ?_
          refine k_iload_n hC 24 dX5_list_24 rfl ?_
          refine k_aald hC 25 2 0 4 (v := l0) dX5_list_25 rfl rfl rfl (by omega) (by omega) s2 ?_
          refine k_iload_n hC 26 dX5_list_26 rfl ?_
          refine n_iald hC 27 5 (nI (A.getD i 0)) dX5_list_27 rfl (by omega) (by omega) (a0 i h17) ?_
          refine k_iload_n hC 28 dX5_list_28 rfl ?_
          refine n_icmp_ne hC 29 44 dX5_list_29 (by decide) (by omega) (by omega) (fun h29 => ?_) (fun h29 => ?_)
          · skip
            refine k_iinc hC 44 0 (nI (i + 1)) [(3, .int (nI (i + 1))), (0, .ref m), (1, .int (nI k)), (2, .int (nI 0))] dX5_list_44 rfl (nI_1 _) (by decide) rfl ?_
            refine k_goto hC 47 9 dX5_list_47 (by decide) ?_
            exact ih9 (i + 1) (by omega) (by omega) (lt_s hb h29)
          · skip
            refine k_iconst hC 32 dX5_list_32 (nI 2) (by decide) ?_
            refine k_newarrI hC 33 2 dX5_list_33 (by decide) (by decide) ⟨(Nat.le_of_ble_eq_true rfl), (Nat.le_of_ble_eq_true rfl)⟩ (fun q33 => ?_)
            refine KJ.eqw (ws' := ((m, .inr (5, [.int (nI pl), .int (nI go), .int hi, .int mi, .int re, .int lo, .ref p, .ref r])) :: ((p, .inl (D.1 23, 2, qv hs)) :: ((r, .inl (D.1 24, 2, qv hl)) :: ((n0, .inl (D.1 22, N.length, qv f0)) :: ((n1, .inl (D.1 22, T.length, qv f1)) :: ((l0, .inl (D.1 20, A.length, .inl g0)) :: ((l1, .inl (D.1 20, B.length, .inl g1)) :: (va_pl L f ++ ((q33, .inl (D.1 20, 2, .inl (fun _ => 0))) :: [])))))))))) rfl ?_
            refine KJ.mv ((m, .inr (5, [.int (nI pl), .int (nI go), .int hi, .int mi, .int re, .int lo, .ref p, .ref r])) :: ((p, .inl (D.1 23, 2, qv hs)) :: ((r, .inl (D.1 24, 2, qv hl)) :: ((n0, .inl (D.1 22, N.length, qv f0)) :: ((n1, .inl (D.1 22, T.length, qv f1)) :: ((l0, .inl (D.1 20, A.length, .inl g0)) :: ((l1, .inl (D.1 20, B.length, .inl g1)) :: []))))))) (va_pl L f) (q33, .inl (D.1 20, 2, .inl (fun _ => 0))) rfl rfl (ws' := ((m, .inr (5, [.int (nI pl), .int (nI go), .int hi, .int mi, .int re, .int lo, .ref p, .ref r])) :: ((p, .inl (D.1 23, 2, qv hs)) :: ((r, .inl (D.1 24, 2, qv hl)) :: ((n0, .inl (D.1 22, N.length, qv f0)) :: ((n1, .inl (D.1 22, T.length, qv f1)) :: ((l0, .inl (D.1 20, A.length, .inl g0)) :: ((l1, .inl (D.1 20, B.length, .inl g1)) :: ((q33, .inl (D.1 20, 2, .inl (fun _ => 0))) :: va_pl L f))))))))) ?_
            refine k_dup hC 35 dX5_list_35 rfl ?_
            refine k_iconst hC 36 dX5_list_36 (nI 0) (by decide) ?_
            refine k_iload_n hC 37 dX5_list_37 rfl ?_
            refine n_iast hC 38 7 ((m, .inr (5, [.int (nI pl), .int (nI go), .int hi, .int mi, .int re, .int lo, .ref p, .ref r])) :: ((p, .inl (D.1 23, 2, qv hs)) :: ((r, .inl (D.1 24, 2, qv hl)) :: ((n0, .inl (D.1 22, N.length, qv f0)) :: ((n1, .inl (D.1 22, T.length, qv f1)) :: ((l0, .inl (D.1 20, A.length, .inl g0)) :: ((l1, .inl (D.1 20, B.length, .inl g1)) :: ((q33, .inl (D.1 20, 2, .inl (upd (fun _ => 0) 0 (nI 0)))) :: va_pl L f)))))))) dX5_list_38 rfl (by omega) (by decide) rfl ?_
            refine k_dup hC 39 dX5_list_39 rfl ?_
            refine k_iconst hC 40 dX5_list_40 (nI 1) (by decide) ?_
            refine k_iload_n hC 41 dX5_list_41 rfl ?_
            refine n_iast hC 42 7 ((m, .inr (5, [.int (nI pl), .int (nI go), .int hi, .int mi, .int re, .int lo, .ref p, .ref r])) :: ((p, .inl (D.1 23, 2, qv hs)) :: ((r, .inl (D.1 24, 2, qv hl)) :: ((n0, .inl (D.1 22, N.length, qv f0)) :: ((n1, .inl (D.1 22, T.length, qv f1)) :: ((l0, .inl (D.1 20, A.length, .inl g0)) :: ((l1, .inl (D.1 20, B.length, .inl g1)) :: ((q33, .inl (D.1 20, 2, .inl (upd (upd (fun _ => 0) 0 (nI 0)) 1 (nI i)))) :: va_pl L f)))))))) dX5_list_42 rfl (by omega) (by decide) rfl ?_
            exact k_aret hC hE 43 (q33, upd (upd (fun _ => 0) 0 (nI 0)) 1 (nI i)) dX5_list_43 (Or.inr ⟨_, rfl⟩) (⟨rfl, rfl, by rw [(ix_found h17 h29 hb).2]; rfl⟩) rfl ⟨Nat.le_of_ble_eq_true rfl, Nat.le_of_ble_eq_true rfl⟩
    refine KJ.lvp [0, 2, 3, 1] rfl ?_
    exact loop9 (A.length + 1) 0 (by omega) (by omega) (fun j hj => absurd hj (Nat.not_lt_zero j))
set_option maxHeartbeats 400000 in
set_option maxRecDepth 100000 in
/-- list -/
theorem s_listB (l : Launch) (D : va_G) (m p r : Nat) (N T A B : List Nat) (to pi : Nat → Nat) (fe : Nat → Int32) (pl go : Nat) (hi mi re lo : Int32) (n0 n1 l0 l1 : Nat) (hs hl f0 f1 : Nat → Option Nat) (g0 g1 : Nat → Int32) (L : List Nat) (f : Nat → va_E) (adr : Nat → Nat) (k : Nat) (hW : WF (N, T, A, B, to, pi, fe, pl, go, hi, mi, re, lo)) (hJ : SJ (N, T, A, B, to, pi, fe, pl, go, hi, mi, re, lo) (n0, n1, l0, l1, hs, hl, f0, f1, g0, g1, L, f, adr)) (hk : k < 40) (nA : k ∉ A) (hin : k ∈ B) : MU l yX5_list cX5_list 4 (some (.array .int)) 0 0 D [.ref m, .int (nI k)] ((m, .inr (5, [.int (nI pl), .int (nI go), .int hi, .int mi, .int re, .int lo, .ref p, .ref r])) :: ((p, .inl (D.1 23, 2, qv hs)) :: ((r, .inl (D.1 24, 2, qv hl)) :: ((n0, .inl (D.1 22, N.length, qv f0)) :: ((n1, .inl (D.1 22, T.length, qv f1)) :: ((l0, .inl (D.1 20, A.length, .inl g0)) :: ((l1, .inl (D.1 20, B.length, .inl g1)) :: va_pl L f))))))) (fun v (u : Nat × (Nat → Int32)) => v = some (.ref u.1) ∧ u.2 0 = nI 1 ∧ u.2 1 = nI (B.idxOf k)) (fun u => ((m, .inr (5, [.int (nI pl), .int (nI go), .int hi, .int mi, .int re, .int lo, .ref p, .ref r])) :: ((p, .inl (D.1 23, 2, qv hs)) :: ((r, .inl (D.1 24, 2, qv hl)) :: ((n0, .inl (D.1 22, N.length, qv f0)) :: ((n1, .inl (D.1 22, T.length, qv f1)) :: ((l0, .inl (D.1 20, A.length, .inl g0)) :: ((l1, .inl (D.1 20, B.length, .inl g1)) :: ((u.1, .inl (D.1 20, 2, .inl u.2)) :: va_pl L f))))))))) 1 2 := by
  refine MU.enter (by decide) [(0, .ref m), (1, .int (nI k))] rfl (Nat.le_of_ble_eq_true rfl) (fun G hC hE => ?_)
  have hC : CX G D cX5_list RX5 4 := hC
  have hW0 := hW
  have hJ0 := hJ
  obtain ⟨kN, kT, kA, kB, nd, len, lA, lB, p2, p12, g12, t1, p9⟩ := hW
  obtain ⟨s0, s1, s2, s3, j0, j1, a0, a1, jp⟩ := hJ
  refine k_iconst hC 0 dX5_list_0 (nI 0) (by decide) ?_
  refine k_istore_n hC 1 2 [(2, .int (nI 0)), (0, .ref m), (1, .int (nI k))] dX5_list_1 rfl (by decide) rfl ?_
  refine k_iload_n hC 2 dX5_list_2 rfl ?_
  refine k_iconst hC 3 dX5_list_3 (nI 2) (by decide) ?_
  refine n_icmp_ge hC 4 56 dX5_list_4 (by decide) (by omega) (by omega) (fun h4 => ?_) (fun h4 => ?_)
  · skip
    exact absurd h4 (by decide)
  · skip
    refine k_iconst hC 7 dX5_list_7 (nI 0) (by decide) ?_
    refine k_istore_n hC 8 3 [(3, .int (nI 0)), (2, .int (nI 0)), (0, .ref m), (1, .int (nI k))] dX5_list_8 rfl (by decide) rfl ?_
    have loop9 : ∀ (nn9 : Nat) (i : Nat), A.length - i < nn9 → i ≤ A.length → (∀ j : Nat, j < i → ¬ A.getD j 0 = k) → KJ l G D ({ frames := 0, cells := 1, slots := 2, locals := 0 } : Room) 4 0 0 ((m, .inr (5, [.int (nI pl), .int (nI go), .int hi, .int mi, .int re, .int lo, .ref p, .ref r])) :: ((p, .inl (D.1 23, 2, qv hs)) :: ((r, .inl (D.1 24, 2, qv hl)) :: ((n0, .inl (D.1 22, N.length, qv f0)) :: ((n1, .inl (D.1 22, T.length, qv f1)) :: ((l0, .inl (D.1 20, A.length, .inl g0)) :: ((l1, .inl (D.1 20, B.length, .inl g1)) :: va_pl L f))))))) [(3, .int (nI i)), (0, .ref m), (1, .int (nI k)), (2, .int (nI 0))] 9 ([]) := by
      intro nn9
      induction nn9 with
      | zero => intro i h; exact absurd h (Nat.not_lt_zero _)
      | succ nn9 ih9 =>
        intro i hn9 hi2 hb
        have hg := kA.g i
        refine k_iload_n hC 9 dX5_list_9 rfl ?_
        refine k_aload_n hC 10 dX5_list_10 rfl ?_
        refine k_getf hC 11 0 7 dX5_list_11 rfl rfl inlX5 (by decide) wq_3_12 rfl ?_
        refine k_iload_n hC 14 dX5_list_14 rfl ?_
        refine k_aald hC 15 2 0 4 (v := l0) dX5_list_15 rfl rfl rfl (by omega) (by omega) s2 ?_
        refine k_alen hC 16 5 0 (nI A.length) dX5_list_16 rfl rfl rfl ?_
        refine n_icmp_ge hC 17 50 dX5_list_17 (by decide) (by omega) (by omega) (fun h17 => ?_) (fun h17 => ?_)
        · skip
          refine k_iinc hC 50 3 (nI 1) [(2, .int (nI 1)), (3, .int (nI i)), (0, .ref m), (1, .int (nI k))] dX5_list_50 rfl (by decide) (by decide) rfl ?_
          refine k_goto hC 53 2 dX5_list_53 (by decide) ?_
          refine k_iload_n hC 2 dX5_list_2 rfl ?_
          refine k_iconst hC 3 dX5_list_3 (nI 2) (by decide) ?_
          refine n_icmp_ge hC 4 56 dX5_list_4 (by decide) (by omega) (by omega) (fun h4 => ?_) (fun h4 => ?_)
          · skip
            exact absurd h4 (by decide)
          · skip
            refine k_iconst hC 7 dX5_list_7 (nI 0) (by decide) ?_
            refine k_istore_n hC 8 3 [(3, .int (nI 0)), (2, .int (nI 1)), (0, .ref m), (1, .int (nI k))] dX5_list_8 rfl (by decide) rfl ?_
            have loop9 : ∀ (nn9 : Nat) (i : Nat), B.length - i < nn9 → i ≤ B.length → (∀ j : Nat, j < i → ¬ B.getD j 0 = k) → KJ l G D ({ frames := 0, cells := 1, slots := 2, locals := 0 } : Room) 4 0 0 ((m, .inr (5, [.int (nI pl), .int (nI go), .int hi, .int mi, .int re, .int lo, .ref p, .ref r])) :: ((p, .inl (D.1 23, 2, qv hs)) :: ((r, .inl (D.1 24, 2, qv hl)) :: ((n0, .inl (D.1 22, N.length, qv f0)) :: ((n1, .inl (D.1 22, T.length, qv f1)) :: ((l0, .inl (D.1 20, A.length, .inl g0)) :: ((l1, .inl (D.1 20, B.length, .inl g1)) :: va_pl L f))))))) [(3, .int (nI i)), (0, .ref m), (1, .int (nI k)), (2, .int (nI 1))] 9 ([]) := by
              intro nn9
              induction nn9 with
              | zero => intro i h; exact absurd h (Nat.not_lt_zero _)
              | succ nn9 ih9 =>
                intro i hn9 hi2 hb
                have hg := kB.g i
                refine k_iload_n hC 9 dX5_list_9 rfl ?_
                refine k_aload_n hC 10 dX5_list_10 rfl ?_
                refine k_getf hC 11 0 7 dX5_list_11 rfl rfl inlX5 (by decide) wq_3_12 rfl ?_
                refine k_iload_n hC 14 dX5_list_14 rfl ?_
                refine k_aald hC 15 2 1 4 (v := l1) dX5_list_15 rfl rfl rfl (by omega) (by omega) s3 ?_
                refine k_alen hC 16 6 0 (nI B.length) dX5_list_16 rfl rfl rfl ?_
                refine n_icmp_ge hC 17 50 dX5_list_17 (by decide) (by omega) (by omega) (fun h17 => ?_) (fun h17 => ?_)
                · skip
                  exact absurd hin (ix_none (fun j hj => hb j (by omega)))
                · skip
                  refine k_aload_n hC 20 dX5_list_20 rfl ?_
                  refine k_getf hC 21 0 7 dX5_list_21 rfl rfl inlX5 (by decide) wq_3_12 rfl ?_
                  refine k_iload_n hC 24 dX5_list_24 rfl ?_
                  refine k_aald hC 25 2 1 4 (v := l1) dX5_list_25 rfl rfl rfl (by omega) (by omega) s3 ?_
                  refine k_iload_n hC 26 dX5_list_26 rfl ?_
                  refine n_iald hC 27 6 (nI (B.getD i 0)) dX5_list_27 rfl (by omega) (by omega) (a1 i h17) ?_
                  refine k_iload_n hC 28 dX5_list_28 rfl ?_
                  refine n_icmp_ne hC 29 44 dX5_list_29 (by decide) (by omega) (by omega) (fun h29 => ?_) (fun h29 => ?_)
                  · skip
                    refine k_iinc hC 44 0 (nI (i + 1)) [(3, .int (nI (i + 1))), (0, .ref m), (1, .int (nI k)), (2, .int (nI 1))] dX5_list_44 rfl (nI_1 _) (by decide) rfl ?_
                    refine k_goto hC 47 9 dX5_list_47 (by decide) ?_
                    exact ih9 (i + 1) (by omega) (by omega) (lt_s hb h29)
                  · skip
                    refine k_iconst hC 32 dX5_list_32 (nI 2) (by decide) ?_
                    refine k_newarrI hC 33 2 dX5_list_33 (by decide) (by decide) ⟨(Nat.le_of_ble_eq_true rfl), (Nat.le_of_ble_eq_true rfl)⟩ (fun q33 => ?_)
                    refine KJ.eqw (ws' := ((m, .inr (5, [.int (nI pl), .int (nI go), .int hi, .int mi, .int re, .int lo, .ref p, .ref r])) :: ((p, .inl (D.1 23, 2, qv hs)) :: ((r, .inl (D.1 24, 2, qv hl)) :: ((n0, .inl (D.1 22, N.length, qv f0)) :: ((n1, .inl (D.1 22, T.length, qv f1)) :: ((l0, .inl (D.1 20, A.length, .inl g0)) :: ((l1, .inl (D.1 20, B.length, .inl g1)) :: (va_pl L f ++ ((q33, .inl (D.1 20, 2, .inl (fun _ => 0))) :: [])))))))))) rfl ?_
                    refine KJ.mv ((m, .inr (5, [.int (nI pl), .int (nI go), .int hi, .int mi, .int re, .int lo, .ref p, .ref r])) :: ((p, .inl (D.1 23, 2, qv hs)) :: ((r, .inl (D.1 24, 2, qv hl)) :: ((n0, .inl (D.1 22, N.length, qv f0)) :: ((n1, .inl (D.1 22, T.length, qv f1)) :: ((l0, .inl (D.1 20, A.length, .inl g0)) :: ((l1, .inl (D.1 20, B.length, .inl g1)) :: []))))))) (va_pl L f) (q33, .inl (D.1 20, 2, .inl (fun _ => 0))) rfl rfl (ws' := ((m, .inr (5, [.int (nI pl), .int (nI go), .int hi, .int mi, .int re, .int lo, .ref p, .ref r])) :: ((p, .inl (D.1 23, 2, qv hs)) :: ((r, .inl (D.1 24, 2, qv hl)) :: ((n0, .inl (D.1 22, N.length, qv f0)) :: ((n1, .inl (D.1 22, T.length, qv f1)) :: ((l0, .inl (D.1 20, A.length, .inl g0)) :: ((l1, .inl (D.1 20, B.length, .inl g1)) :: ((q33, .inl (D.1 20, 2, .inl (fun _ => 0))) :: va_pl L f))))))))) ?_
                    refine k_dup hC 35 dX5_list_35 rfl ?_
                    refine k_iconst hC 36 dX5_list_36 (nI 0) (by decide) ?_
                    refine k_iload_n hC 37 dX5_list_37 rfl ?_
                    refine n_iast hC 38 7 ((m, .inr (5, [.int (nI pl), .int (nI go), .int hi, .int mi, .int re, .int lo, .ref p, .ref r])) :: ((p, .inl (D.1 23, 2, qv hs)) :: ((r, .inl (D.1 24, 2, qv hl)) :: ((n0, .inl (D.1 22, N.length, qv f0)) :: ((n1, .inl (D.1 22, T.length, qv f1)) :: ((l0, .inl (D.1 20, A.length, .inl g0)) :: ((l1, .inl (D.1 20, B.length, .inl g1)) :: ((q33, .inl (D.1 20, 2, .inl (upd (fun _ => 0) 0 (nI 1)))) :: va_pl L f)))))))) dX5_list_38 rfl (by omega) (by decide) rfl ?_
                    refine k_dup hC 39 dX5_list_39 rfl ?_
                    refine k_iconst hC 40 dX5_list_40 (nI 1) (by decide) ?_
                    refine k_iload_n hC 41 dX5_list_41 rfl ?_
                    refine n_iast hC 42 7 ((m, .inr (5, [.int (nI pl), .int (nI go), .int hi, .int mi, .int re, .int lo, .ref p, .ref r])) :: ((p, .inl (D.1 23, 2, qv hs)) :: ((r, .inl (D.1 24, 2, qv hl)) :: ((n0, .inl (D.1 22, N.length, qv f0)) :: ((n1, .inl (D.1 22, T.length, qv f1)) :: ((l0, .inl (D.1 20, A.length, .inl g0)) :: ((l1, .inl (D.1 20, B.length, .inl g1)) :: ((q33, .inl (D.1 20, 2, .inl (upd (upd (fun _ => 0) 0 (nI 1)) 1 (nI i)))) :: va_pl L f)))))))) dX5_list_42 rfl (by omega) (by decide) rfl ?_
                    exact k_aret hC hE 43 (q33, upd (upd (fun _ => 0) 0 (nI 1)) 1 (nI i)) dX5_list_43 (Or.inr ⟨_, rfl⟩) (⟨rfl, rfl, by rw [(ix_found h17 h29 hb).2]; rfl⟩) rfl ⟨Nat.le_of_ble_eq_true rfl, Nat.le_of_ble_eq_true rfl⟩
            refine KJ.lvp [0, 2, 3, 1] rfl ?_
            exact loop9 (B.length + 1) 0 (by omega) (by omega) (fun j hj => absurd hj (Nat.not_lt_zero j))
        · skip
          refine k_aload_n hC 20 dX5_list_20 rfl ?_
          refine k_getf hC 21 0 7 dX5_list_21 rfl rfl inlX5 (by decide) wq_3_12 rfl ?_
          refine k_iload_n hC 24 dX5_list_24 rfl ?_
          refine k_aald hC 25 2 0 4 (v := l0) dX5_list_25 rfl rfl rfl (by omega) (by omega) s2 ?_
          refine k_iload_n hC 26 dX5_list_26 rfl ?_
          refine n_iald hC 27 5 (nI (A.getD i 0)) dX5_list_27 rfl (by omega) (by omega) (a0 i h17) ?_
          refine k_iload_n hC 28 dX5_list_28 rfl ?_
          refine n_icmp_ne hC 29 44 dX5_list_29 (by decide) (by omega) (by omega) (fun h29 => ?_) (fun h29 => ?_)
          · skip
            refine k_iinc hC 44 0 (nI (i + 1)) [(3, .int (nI (i + 1))), (0, .ref m), (1, .int (nI k)), (2, .int (nI 0))] dX5_list_44 rfl (nI_1 _) (by decide) rfl ?_
            refine k_goto hC 47 9 dX5_list_47 (by decide) ?_
            exact ih9 (i + 1) (by omega) (by omega) (lt_s hb h29)
          · skip
            exact absurd (ix_found h17 h29 hb).1 nA
    refine KJ.lvp [0, 2, 3, 1] rfl ?_
    exact loop9 (A.length + 1) 0 (by omega) (by omega) (fun j hj => absurd hj (Nat.not_lt_zero j))
set_option maxHeartbeats 400000 in
set_option maxRecDepth 100000 in
/-- list -/
theorem s_list0 (l : Launch) (D : va_G) (m p r : Nat) (N T A B : List Nat) (to pi : Nat → Nat) (fe : Nat → Int32) (pl go : Nat) (hi mi re lo : Int32) (n0 n1 l0 l1 : Nat) (hs hl f0 f1 : Nat → Option Nat) (g0 g1 : Nat → Int32) (L : List Nat) (f : Nat → va_E) (adr : Nat → Nat) (k : Nat) (hW : WF (N, T, A, B, to, pi, fe, pl, go, hi, mi, re, lo)) (hJ : SJ (N, T, A, B, to, pi, fe, pl, go, hi, mi, re, lo) (n0, n1, l0, l1, hs, hl, f0, f1, g0, g1, L, f, adr)) (hk : k < 40) (nA : k ∉ A) (nB : k ∉ B) : MU l yX5_list cX5_list 4 (some (.array .int)) 0 0 D [.ref m, .int (nI k)] ((m, .inr (5, [.int (nI pl), .int (nI go), .int hi, .int mi, .int re, .int lo, .ref p, .ref r])) :: ((p, .inl (D.1 23, 2, qv hs)) :: ((r, .inl (D.1 24, 2, qv hl)) :: ((n0, .inl (D.1 22, N.length, qv f0)) :: ((n1, .inl (D.1 22, T.length, qv f1)) :: ((l0, .inl (D.1 20, A.length, .inl g0)) :: ((l1, .inl (D.1 20, B.length, .inl g1)) :: va_pl L f))))))) (fun v (_ : Unit) => v = some .null) (fun _ => ((m, .inr (5, [.int (nI pl), .int (nI go), .int hi, .int mi, .int re, .int lo, .ref p, .ref r])) :: ((p, .inl (D.1 23, 2, qv hs)) :: ((r, .inl (D.1 24, 2, qv hl)) :: ((n0, .inl (D.1 22, N.length, qv f0)) :: ((n1, .inl (D.1 22, T.length, qv f1)) :: ((l0, .inl (D.1 20, A.length, .inl g0)) :: ((l1, .inl (D.1 20, B.length, .inl g1)) :: va_pl L f)))))))) 1 2 := by
  refine MU.enter (by decide) [(0, .ref m), (1, .int (nI k))] rfl (Nat.le_of_ble_eq_true rfl) (fun G hC hE => ?_)
  have hC : CX G D cX5_list RX5 4 := hC
  have hW0 := hW
  have hJ0 := hJ
  obtain ⟨kN, kT, kA, kB, nd, len, lA, lB, p2, p12, g12, t1, p9⟩ := hW
  obtain ⟨s0, s1, s2, s3, j0, j1, a0, a1, jp⟩ := hJ
  refine k_iconst hC 0 dX5_list_0 (nI 0) (by decide) ?_
  refine k_istore_n hC 1 2 [(2, .int (nI 0)), (0, .ref m), (1, .int (nI k))] dX5_list_1 rfl (by decide) rfl ?_
  refine k_iload_n hC 2 dX5_list_2 rfl ?_
  refine k_iconst hC 3 dX5_list_3 (nI 2) (by decide) ?_
  refine n_icmp_ge hC 4 56 dX5_list_4 (by decide) (by omega) (by omega) (fun h4 => ?_) (fun h4 => ?_)
  · skip
    exact absurd h4 (by decide)
  · skip
    refine k_iconst hC 7 dX5_list_7 (nI 0) (by decide) ?_
    refine k_istore_n hC 8 3 [(3, .int (nI 0)), (2, .int (nI 0)), (0, .ref m), (1, .int (nI k))] dX5_list_8 rfl (by decide) rfl ?_
    have loop9 : ∀ (nn9 : Nat) (i : Nat), A.length - i < nn9 → i ≤ A.length → (∀ j : Nat, j < i → ¬ A.getD j 0 = k) → KJ l G D ({ frames := 0, cells := 1, slots := 2, locals := 0 } : Room) 4 0 0 ((m, .inr (5, [.int (nI pl), .int (nI go), .int hi, .int mi, .int re, .int lo, .ref p, .ref r])) :: ((p, .inl (D.1 23, 2, qv hs)) :: ((r, .inl (D.1 24, 2, qv hl)) :: ((n0, .inl (D.1 22, N.length, qv f0)) :: ((n1, .inl (D.1 22, T.length, qv f1)) :: ((l0, .inl (D.1 20, A.length, .inl g0)) :: ((l1, .inl (D.1 20, B.length, .inl g1)) :: va_pl L f))))))) [(3, .int (nI i)), (0, .ref m), (1, .int (nI k)), (2, .int (nI 0))] 9 ([]) := by
      intro nn9
      induction nn9 with
      | zero => intro i h; exact absurd h (Nat.not_lt_zero _)
      | succ nn9 ih9 =>
        intro i hn9 hi2 hb
        have hg := kA.g i
        refine k_iload_n hC 9 dX5_list_9 rfl ?_
        refine k_aload_n hC 10 dX5_list_10 rfl ?_
        refine k_getf hC 11 0 7 dX5_list_11 rfl rfl inlX5 (by decide) wq_3_12 rfl ?_
        refine k_iload_n hC 14 dX5_list_14 rfl ?_
        refine k_aald hC 15 2 0 4 (v := l0) dX5_list_15 rfl rfl rfl (by omega) (by omega) s2 ?_
        refine k_alen hC 16 5 0 (nI A.length) dX5_list_16 rfl rfl rfl ?_
        refine n_icmp_ge hC 17 50 dX5_list_17 (by decide) (by omega) (by omega) (fun h17 => ?_) (fun h17 => ?_)
        · skip
          refine k_iinc hC 50 3 (nI 1) [(2, .int (nI 1)), (3, .int (nI i)), (0, .ref m), (1, .int (nI k))] dX5_list_50 rfl (by decide) (by decide) rfl ?_
          refine k_goto hC 53 2 dX5_list_53 (by decide) ?_
          refine k_iload_n hC 2 dX5_list_2 rfl ?_
          refine k_iconst hC 3 dX5_list_3 (nI 2) (by decide) ?_
          refine n_icmp_ge hC 4 56 dX5_list_4 (by decide) (by omega) (by omega) (fun h4 => ?_) (fun h4 => ?_)
          · skip
            exact absurd h4 (by decide)
          · skip
            refine k_iconst hC 7 dX5_list_7 (nI 0) (by decide) ?_
            refine k_istore_n hC 8 3 [(3, .int (nI 0)), (2, .int (nI 1)), (0, .ref m), (1, .int (nI k))] dX5_list_8 rfl (by decide) rfl ?_
            have loop9 : ∀ (nn9 : Nat) (i : Nat), B.length - i < nn9 → i ≤ B.length → (∀ j : Nat, j < i → ¬ B.getD j 0 = k) → KJ l G D ({ frames := 0, cells := 1, slots := 2, locals := 0 } : Room) 4 0 0 ((m, .inr (5, [.int (nI pl), .int (nI go), .int hi, .int mi, .int re, .int lo, .ref p, .ref r])) :: ((p, .inl (D.1 23, 2, qv hs)) :: ((r, .inl (D.1 24, 2, qv hl)) :: ((n0, .inl (D.1 22, N.length, qv f0)) :: ((n1, .inl (D.1 22, T.length, qv f1)) :: ((l0, .inl (D.1 20, A.length, .inl g0)) :: ((l1, .inl (D.1 20, B.length, .inl g1)) :: va_pl L f))))))) [(3, .int (nI i)), (0, .ref m), (1, .int (nI k)), (2, .int (nI 1))] 9 ([]) := by
              intro nn9
              induction nn9 with
              | zero => intro i h; exact absurd h (Nat.not_lt_zero _)
              | succ nn9 ih9 =>
                intro i hn9 hi2 hb
                have hg := kB.g i
                refine k_iload_n hC 9 dX5_list_9 rfl ?_
                refine k_aload_n hC 10 dX5_list_10 rfl ?_
                refine k_getf hC 11 0 7 dX5_list_11 rfl rfl inlX5 (by decide) wq_3_12 rfl ?_
                refine k_iload_n hC 14 dX5_list_14 rfl ?_
                refine k_aald hC 15 2 1 4 (v := l1) dX5_list_15 rfl rfl rfl (by omega) (by omega) s3 ?_
                refine k_alen hC 16 6 0 (nI B.length) dX5_list_16 rfl rfl rfl ?_
                refine n_icmp_ge hC 17 50 dX5_list_17 (by decide) (by omega) (by omega) (fun h17 => ?_) (fun h17 => ?_)
                · skip
                  refine k_iinc hC 50 3 (nI 2) [(2, .int (nI 2)), (3, .int (nI i)), (0, .ref m), (1, .int (nI k))] dX5_list_50 rfl (by decide) (by decide) rfl ?_
                  refine k_goto hC 53 2 dX5_list_53 (by decide) ?_
                  refine k_iload_n hC 2 dX5_list_2 rfl ?_
                  refine k_iconst hC 3 dX5_list_3 (nI 2) (by decide) ?_
                  refine n_icmp_ge hC 4 56 dX5_list_4 (by decide) (by omega) (by omega) (fun h4 => ?_) (fun h4 => ?_)
                  · skip
                    refine k_null hC 56 dX5_list_56 ?_
                    exact k_aretN hC hE 57 () dX5_list_57 (Or.inr ⟨_, rfl⟩) rfl rfl ⟨Nat.zero_le _, Nat.zero_le _⟩
                  · skip
                    exact absurd h4 (by decide)
                · skip
                  refine k_aload_n hC 20 dX5_list_20 rfl ?_
                  refine k_getf hC 21 0 7 dX5_list_21 rfl rfl inlX5 (by decide) wq_3_12 rfl ?_
                  refine k_iload_n hC 24 dX5_list_24 rfl ?_
                  refine k_aald hC 25 2 1 4 (v := l1) dX5_list_25 rfl rfl rfl (by omega) (by omega) s3 ?_
                  refine k_iload_n hC 26 dX5_list_26 rfl ?_
                  refine n_iald hC 27 6 (nI (B.getD i 0)) dX5_list_27 rfl (by omega) (by omega) (a1 i h17) ?_
                  refine k_iload_n hC 28 dX5_list_28 rfl ?_
                  refine n_icmp_ne hC 29 44 dX5_list_29 (by decide) (by omega) (by omega) (fun h29 => ?_) (fun h29 => ?_)
                  · skip
                    refine k_iinc hC 44 0 (nI (i + 1)) [(3, .int (nI (i + 1))), (0, .ref m), (1, .int (nI k)), (2, .int (nI 1))] dX5_list_44 rfl (nI_1 _) (by decide) rfl ?_
                    refine k_goto hC 47 9 dX5_list_47 (by decide) ?_
                    exact ih9 (i + 1) (by omega) (by omega) (lt_s hb h29)
                  · skip
                    exact absurd (ix_found h17 h29 hb).1 nB
            refine KJ.lvp [0, 2, 3, 1] rfl ?_
            exact loop9 (B.length + 1) 0 (by omega) (by omega) (fun j hj => absurd hj (Nat.not_lt_zero j))
        · skip
          refine k_aload_n hC 20 dX5_list_20 rfl ?_
          refine k_getf hC 21 0 7 dX5_list_21 rfl rfl inlX5 (by decide) wq_3_12 rfl ?_
          refine k_iload_n hC 24 dX5_list_24 rfl ?_
          refine k_aald hC 25 2 0 4 (v := l0) dX5_list_25 rfl rfl rfl (by omega) (by omega) s2 ?_
          refine k_iload_n hC 26 dX5_list_26 rfl ?_
          refine n_iald hC 27 5 (nI (A.getD i 0)) dX5_list_27 rfl (by omega) (by omega) (a0 i h17) ?_
          refine k_iload_n hC 28 dX5_list_28 rfl ?_
          refine n_icmp_ne hC 29 44 dX5_list_29 (by decide) (by omega) (by omega) (fun h29 => ?_) (fun h29 => ?_)
          · skip
            refine k_iinc hC 44 0 (nI (i + 1)) [(3, .int (nI (i + 1))), (0, .ref m), (1, .int (nI k)), (2, .int (nI 0))] dX5_list_44 rfl (nI_1 _) (by decide) rfl ?_
            refine k_goto hC 47 9 dX5_list_47 (by decide) ?_
            exact ih9 (i + 1) (by omega) (by omega) (lt_s hb h29)
          · skip
            exact absurd (ix_found h17 h29 hb).1 nA
    refine KJ.lvp [0, 2, 3, 1] rfl ?_
    exact loop9 (A.length + 1) 0 (by omega) (by omega) (fun j hj => absurd hj (Nat.not_lt_zero j))
set_option maxHeartbeats 400000 in
set_option maxRecDepth 100000 in
/-- Jar -/
theorem s_jar (l : Launch) (D : va_G) (q : Nat) (k : Nat) (hk : k < 40) : MU l yX4_init cX4_init 2 none 1 12 D [.ref q, .int (nI k)] [(q, .inr (4, [.int 0, .int 0, .int 0, .int 0]))] (fun v (_ : Unit) => v = none) (fun _ => [(q, .inr (4, [.int (nI k), .int 0, .int 0, .int (nI 1)]))]) 0 0 := by
  refine MU.enter (by decide) [(0, .ref q), (1, .int (nI k))] rfl (Nat.le_of_ble_eq_true rfl) (fun G hC hE => ?_)
  have hC : CX G D cX4_init RX4 2 := hC
  refine k_aload_n hC 0 dX4_init_0 rfl ?_
  refine k_objInit hC 1 dX4_init_1 wq_13_8 wq_1_8 wq_1_9 ⟨Nat.le_of_ble_eq_true rfl, Nat.le_of_ble_eq_true rfl⟩ ?_
  refine k_aload_n hC 4 dX4_init_4 rfl ?_
  refine k_iconst hC 5 dX4_init_5 (nI 1) (by decide) ?_
  refine k_putf hC 6 (ty0 := tyX4) 0 3 [(q, .inr (4, [.int 0, .int 0, .int 0, .int (nI 1)]))] dX4_init_6 rfl rfl inlX4 tyX4_ok nmX4 (by decide) wq_13_9 rfl rfl rfl (Nat.le_of_ble_eq_true rfl) rfl ?_
  refine k_aload_n hC 9 dX4_init_9 rfl ?_
  refine k_iload_n hC 10 dX4_init_10 rfl ?_
  refine k_putfF hC 11 (ty0 := tyX4) 0 0 [(q, .inr (4, [.int (nI k), .int 0, .int 0, .int (nI 1)]))] dX4_init_11 rfl rfl inlX4 tyX4_ok nmX4 (by decide) wq_13_10 rfl hE.2.2.2.2 rfl rfl rfl (Nat.le_of_ble_eq_true rfl) rfl ?_
  exact k_vret hC hE 14 () dX4_init_14 rfl rfl ⟨Nat.zero_le _, Nat.zero_le _⟩
