/-! PinnedPantryModel: digest -/
set_option maxHeartbeats 400000 in
set_option maxRecDepth 100000 in
/-- m_digest -/
theorem m_digest (l : Launch) (D : va_G) (o : Nat → Nat) (th : Int32) (fj fs fl fn : Nat → Int32) (N T A B : List Nat) (to pi : Nat → Nat) (fe : Nat → Int32) (pl go : Nat) (hi mi re lo : Int32) (hM : MR (N, T, A, B, to, pi, fe, pl, go, hi, mi, re, lo) (fj, fs, fl, fn)) (hW : WF (N, T, A, B, to, pi, fe, pl, go, hi, mi, re, lo)) : MU l yX4_digest cX4_digest 7 (some .long) 4 86 D [.ref (o 0)] [((o 0), .inr (4, [.int th, .ref (o 1), .ref (o 2), .ref (o 3), .ref (o 4)])), ((o 1), .inl (D.1 5, 160, .inl fj)), ((o 2), .inl (D.1 5, 24, .inl fs)), ((o 3), .inl (D.1 5, 26, .inl fl)), ((o 4), .inl (D.1 5, 10, .inl fn))] (fun v (_ : Unit) => v = some (.long (digV (N, T, A, B, to, pi, fe, pl, go, hi, mi, re, lo)))) (fun _ => [((o 0), .inr (4, [.int (nI 0), .ref (o 1), .ref (o 2), .ref (o 3), .ref (o 4)])), ((o 1), .inl (D.1 5, 160, .inl fj)), ((o 2), .inl (D.1 5, 24, .inl fs)), ((o 3), .inl (D.1 5, 26, .inl fl)), ((o 4), .inl (D.1 5, 10, .inl fn))]) 0 0 := by
  refine MU.enter (by decide) [(0, .ref (o 0))] rfl (Nat.le_of_ble_eq_true rfl) (fun G hC hE => ?_)
  have hC : CX G D cX4_digest RX4 7 := hC
  have hM0 := hM
  have hW0 := hW
  obtain ⟨⟨r0, r1, r2, r3⟩, hj, ⟨n0, n1, n2, n3, n4, n5⟩, n6, n7, n8, n9⟩ := hM
  obtain ⟨kN, kT, kA, kB, nd, len, lA, lB, pp2, pp12, g12, t1, p9⟩ := hW
  have q0 := pc_le pi N
  have q1 := pc_le pi T
  refine k_aload_n hC 0 dX4_digest_0 rfl ?_
  refine k_iconst hC 1 dX4_digest_1 (nI 0) (by decide) ?_
  refine k_putf hC 2 (ty0 := tyX4) 0 0 [((o 0), .inr (4, [.int (nI 0), .ref (o 1), .ref (o 2), .ref (o 3), .ref (o 4)])), ((o 1), .inl (D.1 5, 160, .inl fj)), ((o 2), .inl (D.1 5, 24, .inl fs)), ((o 3), .inl (D.1 5, 26, .inl fl)), ((o 4), .inl (D.1 5, 10, .inl fn))] dX4_digest_2 rfl rfl inlX4 tyX4_ok nmX4 (by decide) wq_8_7 rfl rfl rfl (Nat.le_of_ble_eq_true rfl) rfl ?_
  refine k_ldc2 hC 5 1541 dX4_digest_5 wq_24_5 ?_
  refine KJ.topl (y := dgN (N, T, A, B, to, pi, fe, pl, go, hi, mi, re, lo) 0) rfl ?_
  refine k_lstore_n hC 8 1 [(1, .long (dgN (N, T, A, B, to, pi, fe, pl, go, hi, mi, re, lo) 0)), (0, .ref (o 0))] dX4_digest_8 rfl (by decide) rfl ?_
  refine k_iconst hC 9 dX4_digest_9 (nI 0) (by decide) ?_
  refine k_istore_n hC 10 3 [(3, .int (nI 0)), (1, .long (dgN (N, T, A, B, to, pi, fe, pl, go, hi, mi, re, lo) 0)), (0, .ref (o 0))] dX4_digest_10 rfl (by decide) rfl ?_
  have loop11 : ∀ (n11 : Nat) (i : Nat), 11 - i < n11 → i ≤ 11 → KJ l G D ({ frames := 4, cells := 0, slots := 0, locals := 86 } : Room) 7 0 0 [((o 0), .inr (4, [.int (nI 0), .ref (o 1), .ref (o 2), .ref (o 3), .ref (o 4)])), ((o 1), .inl (D.1 5, 160, .inl fj)), ((o 2), .inl (D.1 5, 24, .inl fs)), ((o 3), .inl (D.1 5, 26, .inl fl)), ((o 4), .inl (D.1 5, 10, .inl fn))] [(3, .int (nI i)), (1, .long (dgN (N, T, A, B, to, pi, fe, pl, go, hi, mi, re, lo) i)), (0, .ref (o 0))] 11 [] := by
    intro n11
    induction n11 with
    | zero => intro i h; exact absurd h (Nat.not_lt_zero _)
    | succ n11 ih11 =>
      intro i hn11 hi2
      refine k_iload_n hC 11 dX4_digest_11 rfl ?_
      refine k_bipush hC 12 dX4_digest_12 (nI 11) (by decide) ?_
      refine n_icmp_ge hC 14 36 dX4_digest_14 (by decide) (by omega) (by omega) (fun h14 => ?_) (fun h14 => ?_)
      · skip
        obtain rfl : i = 11 := by omega
        obtain ⟨d0, hd0⟩ : ∃ z, dgN (N, T, A, B, to, pi, fe, pl, go, hi, mi, re, lo) 11 = z := ⟨_, rfl⟩
        rw [hd0]
        refine k_iconst hC 36 dX4_digest_36 (nI 0) (by decide) ?_
        refine k_istore_n hC 37 3 [(3, .int (nI 0)), (1, .long d0), (0, .ref (o 0))] dX4_digest_37 rfl (by decide) rfl ?_
        refine k_iload_n hC 38 dX4_digest_38 rfl ?_
        refine k_iconst hC 39 dX4_digest_39 (nI 2) (by decide) ?_
        refine n_icmp_ge hC 40 152 dX4_digest_40 (by decide) (by omega) (by omega) (fun h40 => ?_) (fun h40 => ?_)
        · skip
          exact absurd h40 (by decide)
        · skip
          refine k_iconst hC 43 dX4_digest_43 (nI 0) (by decide) ?_
          refine k_istore hC 44 4 [(4, .int (nI 0)), (3, .int (nI 0)), (1, .long d0), (0, .ref (o 0))] dX4_digest_44 (by decide) rfl ?_
          have loop46 : ∀ (n46 : Nat) (i : Nat), N.length - i < n46 → i ≤ N.length → KJ l G D ({ frames := 4, cells := 0, slots := 0, locals := 86 } : Room) 7 0 0 [((o 0), .inr (4, [.int (nI 0), .ref (o 1), .ref (o 2), .ref (o 3), .ref (o 4)])), ((o 1), .inl (D.1 5, 160, .inl fj)), ((o 2), .inl (D.1 5, 24, .inl fs)), ((o 3), .inl (D.1 5, 26, .inl fl)), ((o 4), .inl (D.1 5, 10, .inl fn))] [(4, .int (nI i)), (1, .long (djs to pi fe d0 (N.take i))), (3, .int (nI 0)), (0, .ref (o 0))] 46 [] := by
            intro n46
            induction n46 with
            | zero => intro i h; exact absurd h (Nat.not_lt_zero _)
            | succ n46 ih46 =>
              intro i hn46 hi2
              have hg := kN.g i
              refine k_iload hC 46 dX4_digest_46 rfl ?_
              refine k_aload_n hC 48 dX4_digest_48 rfl ?_
              refine k_iload_n hC 49 dX4_digest_49 rfl ?_
              refine k_callVr hC 50 0 [0, 1, 2, 3, 4] (m_many l D o (nI 0) fj fs fl fn 0 (by decide)) cw_RX4_34 dX4_digest_50 ⟨Nat.le_of_ble_eq_true rfl, Nat.le_of_ble_eq_true rfl, Nat.le_of_ble_eq_true rfl, Nat.le_of_ble_eq_true rfl⟩ rfl (Nat.le_of_ble_eq_true rfl) rfl rfl rfl (by decide) rfl (fun _ => Nat.le_of_ble_eq_true rfl) (fun _ => rfl) _ rfl (fun v u hp => ?_)
              obtain rfl := hp
              refine KJ.eqs (st' := .int (fn (6 + 0)) :: .int (nI i) :: []) rfl ?_
              refine KJ.topi (y := (nI N.length)) n6 ?_
              refine n_icmp_ge hC 53 112 dX4_digest_53 (by decide) (by omega) (by omega) (fun h53 => ?_) (fun h53 => ?_)
              · skip
                have ei : N.take i = N := List.take_of_length_le h53
                rw [ei]
                obtain ⟨da0, ha0⟩ : ∃ z, djs to pi fe d0 N = z := ⟨_, rfl⟩
                rw [ha0]
                refine k_iconst hC 112 dX4_digest_112 (nI 0) (by decide) ?_
                refine k_istore hC 113 4 [(4, .int (nI 0)), (1, .long da0), (3, .int (nI 0)), (0, .ref (o 0))] dX4_digest_113 (by decide) rfl ?_
                have loop115 : ∀ (n115 : Nat) (i : Nat), A.length - i < n115 → i ≤ A.length → KJ l G D ({ frames := 4, cells := 0, slots := 0, locals := 86 } : Room) 7 0 0 [((o 0), .inr (4, [.int (nI 0), .ref (o 1), .ref (o 2), .ref (o 3), .ref (o 4)])), ((o 1), .inl (D.1 5, 160, .inl fj)), ((o 2), .inl (D.1 5, 24, .inl fs)), ((o 3), .inl (D.1 5, 26, .inl fl)), ((o 4), .inl (D.1 5, 10, .inl fn))] [(4, .int (nI i)), (1, .long (dks da0 (A.take i))), (3, .int (nI 0)), (0, .ref (o 0))] 115 [] := by
                  intro n115
                  induction n115 with
                  | zero => intro i h; exact absurd h (Nat.not_lt_zero _)
                  | succ n115 ih115 =>
                    intro i hn115 hi2
                    refine k_iload hC 115 dX4_digest_115 rfl ?_
                    refine k_aload_n hC 117 dX4_digest_117 rfl ?_
                    refine k_iload_n hC 118 dX4_digest_118 rfl ?_
                    refine k_callVr hC 119 0 [0, 1, 2, 3, 4] (m_listed l D o (nI 0) fj fs fl fn 0 (by decide)) cw_RX4_44 dX4_digest_119 ⟨Nat.le_of_ble_eq_true rfl, Nat.le_of_ble_eq_true rfl, Nat.le_of_ble_eq_true rfl, Nat.le_of_ble_eq_true rfl⟩ rfl (Nat.le_of_ble_eq_true rfl) rfl rfl rfl (by decide) rfl (fun _ => Nat.le_of_ble_eq_true rfl) (fun _ => rfl) _ rfl (fun v u hp => ?_)
                    obtain rfl := hp
                    refine KJ.eqs (st' := .int (fn (8 + 0)) :: .int (nI i) :: []) rfl ?_
                    refine KJ.topi (y := (nI A.length)) n8 ?_
                    refine n_icmp_ge hC 122 146 dX4_digest_122 (by decide) (by omega) (by omega) (fun h122 => ?_) (fun h122 => ?_)
                    · skip
                      have ei : A.take i = A := List.take_of_length_le h122
                      rw [ei]
                      obtain ⟨db0, hb0⟩ : ∃ z, dks da0 A = z := ⟨_, rfl⟩
                      rw [hb0]
                      refine k_iinc hC 146 2 (nI 1) [(3, .int (nI 1)), (4, .int (nI i)), (1, .long db0), (0, .ref (o 0))] dX4_digest_146 rfl (nI_1 0) (by decide) rfl ?_
                      refine k_goto hC 149 38 dX4_digest_149 (by decide) ?_
                      refine k_iload_n hC 38 dX4_digest_38 rfl ?_
                      refine k_iconst hC 39 dX4_digest_39 (nI 2) (by decide) ?_
                      refine n_icmp_ge hC 40 152 dX4_digest_40 (by decide) (by omega) (by omega) (fun h40 => ?_) (fun h40 => ?_)
                      · skip
                        exact absurd h40 (by decide)
                      · skip
                        refine k_iconst hC 43 dX4_digest_43 (nI 0) (by decide) ?_
                        refine k_istore hC 44 4 [(4, .int (nI 0)), (3, .int (nI 1)), (1, .long db0), (0, .ref (o 0))] dX4_digest_44 (by decide) rfl ?_
                        have loop46 : ∀ (n46 : Nat) (i : Nat), T.length - i < n46 → i ≤ T.length → KJ l G D ({ frames := 4, cells := 0, slots := 0, locals := 86 } : Room) 7 0 0 [((o 0), .inr (4, [.int (nI 0), .ref (o 1), .ref (o 2), .ref (o 3), .ref (o 4)])), ((o 1), .inl (D.1 5, 160, .inl fj)), ((o 2), .inl (D.1 5, 24, .inl fs)), ((o 3), .inl (D.1 5, 26, .inl fl)), ((o 4), .inl (D.1 5, 10, .inl fn))] [(4, .int (nI i)), (1, .long (djs to pi fe db0 (T.take i))), (3, .int (nI 1)), (0, .ref (o 0))] 46 [] := by
                          intro n46
                          induction n46 with
                          | zero => intro i h; exact absurd h (Nat.not_lt_zero _)
                          | succ n46 ih46 =>
                            intro i hn46 hi2
                            have hg := kT.g i
                            refine k_iload hC 46 dX4_digest_46 rfl ?_
                            refine k_aload_n hC 48 dX4_digest_48 rfl ?_
                            refine k_iload_n hC 49 dX4_digest_49 rfl ?_
                            refine k_callVr hC 50 0 [0, 1, 2, 3, 4] (m_many l D o (nI 0) fj fs fl fn 1 (by decide)) cw_RX4_34 dX4_digest_50 ⟨Nat.le_of_ble_eq_true rfl, Nat.le_of_ble_eq_true rfl, Nat.le_of_ble_eq_true rfl, Nat.le_of_ble_eq_true rfl⟩ rfl (Nat.le_of_ble_eq_true rfl) rfl rfl rfl (by decide) rfl (fun _ => Nat.le_of_ble_eq_true rfl) (fun _ => rfl) _ rfl (fun v u hp => ?_)
                            obtain rfl := hp
                            refine KJ.eqs (st' := .int (fn (6 + 1)) :: .int (nI i) :: []) rfl ?_
                            refine KJ.topi (y := (nI T.length)) n7 ?_
                            refine n_icmp_ge hC 53 112 dX4_digest_53 (by decide) (by omega) (by omega) (fun h53 => ?_) (fun h53 => ?_)
                            · skip
                              have ei : T.take i = T := List.take_of_length_le h53
                              rw [ei]
                              obtain ⟨da1, ha1⟩ : ∃ z, djs to pi fe db0 T = z := ⟨_, rfl⟩
                              rw [ha1]
                              refine k_iconst hC 112 dX4_digest_112 (nI 0) (by decide) ?_
                              refine k_istore hC 113 4 [(4, .int (nI 0)), (1, .long da1), (3, .int (nI 1)), (0, .ref (o 0))] dX4_digest_113 (by decide) rfl ?_
                              have loop115 : ∀ (n115 : Nat) (i : Nat), B.length - i < n115 → i ≤ B.length → KJ l G D ({ frames := 4, cells := 0, slots := 0, locals := 86 } : Room) 7 0 0 [((o 0), .inr (4, [.int (nI 0), .ref (o 1), .ref (o 2), .ref (o 3), .ref (o 4)])), ((o 1), .inl (D.1 5, 160, .inl fj)), ((o 2), .inl (D.1 5, 24, .inl fs)), ((o 3), .inl (D.1 5, 26, .inl fl)), ((o 4), .inl (D.1 5, 10, .inl fn))] [(4, .int (nI i)), (1, .long (dks da1 (B.take i))), (3, .int (nI 1)), (0, .ref (o 0))] 115 [] := by
                                intro n115
                                induction n115 with
                                | zero => intro i h; exact absurd h (Nat.not_lt_zero _)
                                | succ n115 ih115 =>
                                  intro i hn115 hi2
                                  refine k_iload hC 115 dX4_digest_115 rfl ?_
                                  refine k_aload_n hC 117 dX4_digest_117 rfl ?_
                                  refine k_iload_n hC 118 dX4_digest_118 rfl ?_
                                  refine k_callVr hC 119 0 [0, 1, 2, 3, 4] (m_listed l D o (nI 0) fj fs fl fn 1 (by decide)) cw_RX4_44 dX4_digest_119 ⟨Nat.le_of_ble_eq_true rfl, Nat.le_of_ble_eq_true rfl, Nat.le_of_ble_eq_true rfl, Nat.le_of_ble_eq_true rfl⟩ rfl (Nat.le_of_ble_eq_true rfl) rfl rfl rfl (by decide) rfl (fun _ => Nat.le_of_ble_eq_true rfl) (fun _ => rfl) _ rfl (fun v u hp => ?_)
                                  obtain rfl := hp
                                  refine KJ.eqs (st' := .int (fn (8 + 1)) :: .int (nI i) :: []) rfl ?_
                                  refine KJ.topi (y := (nI B.length)) n9 ?_
                                  refine n_icmp_ge hC 122 146 dX4_digest_122 (by decide) (by omega) (by omega) (fun h122 => ?_) (fun h122 => ?_)
                                  · skip
                                    have ei : B.take i = B := List.take_of_length_le h122
                                    rw [ei]
                                    obtain ⟨db1, hb1⟩ : ∃ z, dks da1 B = z := ⟨_, rfl⟩
                                    rw [hb1]
                                    refine k_iinc hC 146 2 (nI 2) [(3, .int (nI 2)), (4, .int (nI i)), (1, .long db1), (0, .ref (o 0))] dX4_digest_146 rfl (nI_1 1) (by decide) rfl ?_
                                    refine k_goto hC 149 38 dX4_digest_149 (by decide) ?_
                                    refine k_iload_n hC 38 dX4_digest_38 rfl ?_
                                    refine k_iconst hC 39 dX4_digest_39 (nI 2) (by decide) ?_
                                    refine n_icmp_ge hC 40 152 dX4_digest_40 (by decide) (by omega) (by omega) (fun h40 => ?_) (fun h40 => ?_)
                                    · skip
                                      refine k_lload_n hC 152 dX4_digest_152 rfl ?_
                                      exact k_lret hC hE 153 () dX4_digest_153 (by rw [← hb1, ← ha1, ← hb0, ← ha0, ← hd0]; rfl) rfl ⟨Nat.zero_le _, Nat.zero_le _⟩
                                    · skip
                                      exact absurd h40 (by decide)
                                  · skip
                                    refine k_lload_n hC 125 dX4_digest_125 rfl ?_
                                    refine k_ldc2 hC 126 31 dX4_digest_126 wq_24_6 ?_
                                    refine k_lmul hC 129 dX4_digest_129 ?_
                                    refine k_aload_n hC 130 dX4_digest_130 rfl ?_
                                    refine k_iload_n hC 131 dX4_digest_131 rfl ?_
                                    refine k_iload hC 132 dX4_digest_132 rfl ?_
                                    refine k_callVr hC 134 0 [0, 1, 2, 3, 4] (m_listedAt l D o (nI 0) fj fs fl fn 1 i (by omega)) cw_RX4_55 dX4_digest_134 ⟨Nat.le_of_ble_eq_true rfl, Nat.le_of_ble_eq_true rfl, Nat.le_of_ble_eq_true rfl, Nat.le_of_ble_eq_true rfl⟩ rfl (Nat.le_of_ble_eq_true rfl) rfl rfl rfl (by decide) rfl (fun _ => Nat.le_of_ble_eq_true rfl) (fun _ => rfl) _ rfl (fun v u hp => ?_)
                                    obtain rfl := hp
                                    refine KJ.eqs (st' := .int (fl (13 * 1 + i)) :: .long ((dks da1 (B.take i)) * 31) :: []) rfl ?_
                                    refine KJ.topi (y := (nI (B.getD i 0))) (r3 i h122) ?_
                                    refine k_i2l hC 137 dX4_digest_137 ((nI (B.getD i 0)).toInt64) rfl ?_
                                    refine k_ladd hC 138 dX4_digest_138 ?_
                                    refine KJ.topl (y := dks da1 (B.take (i + 1))) (dks_s da1 h122).symm ?_
                                    refine k_lstore_n hC 139 1 [(1, .long (dks da1 (B.take (i + 1)))), (4, .int (nI i)), (3, .int (nI 1)), (0, .ref (o 0))] dX4_digest_139 rfl (by decide) rfl ?_
                                    refine k_iinc hC 140 1 (nI (i + 1)) [(4, .int (nI (i + 1))), (1, .long (dks da1 (B.take (i + 1)))), (3, .int (nI 1)), (0, .ref (o 0))] dX4_digest_140 rfl (nI_1 _) (by decide) rfl ?_
                                    refine k_goto hC 143 115 dX4_digest_143 (by decide) ?_
                                    exact ih115 (i + 1) (by omega) (by omega)
                              exact loop115 (B.length + 1) 0 (by omega) (by omega)
                            · skip
                              refine k_aload_n hC 56 dX4_digest_56 rfl ?_
                              refine k_iload_n hC 57 dX4_digest_57 rfl ?_
                              refine k_iload hC 58 dX4_digest_58 rfl ?_
                              refine k_callVr hC 60 0 [0, 1, 2, 3, 4] (m_kindAt l D o (nI 0) fj fs fl fn 1 i (by omega)) cw_RX4_58 dX4_digest_60 ⟨Nat.le_of_ble_eq_true rfl, Nat.le_of_ble_eq_true rfl, Nat.le_of_ble_eq_true rfl, Nat.le_of_ble_eq_true rfl⟩ rfl (Nat.le_of_ble_eq_true rfl) rfl rfl rfl (by decide) rfl (fun _ => Nat.le_of_ble_eq_true rfl) (fun _ => rfl) _ rfl (fun v u hp => ?_)
                              obtain rfl := hp
                              refine KJ.eqs (st' := .int (fs (12 * 1 + i)) :: []) rfl ?_
                              refine KJ.topi (y := (nI (T.getD i 0))) (r1 i h53) ?_
                              refine k_istore hC 63 5 [(5, .int (nI (T.getD i 0))), (4, .int (nI i)), (1, .long (djs to pi fe db0 (T.take i))), (3, .int (nI 1)), (0, .ref (o 0))] dX4_digest_63 (by decide) rfl ?_
                              refine k_lload_n hC 65 dX4_digest_65 rfl ?_
                              refine k_ldc2 hC 66 31 dX4_digest_66 wq_24_6 ?_
                              refine k_lmul hC 69 dX4_digest_69 ?_
                              refine k_iload hC 70 dX4_digest_70 rfl ?_
                              refine k_i2l hC 72 dX4_digest_72 ((nI (T.getD i 0)).toInt64) rfl ?_
                              refine k_ladd hC 73 dX4_digest_73 ?_
                              refine k_lstore_n hC 74 1 [(1, .long (((djs to pi fe db0 (T.take i)) * 31) + ((nI (T.getD i 0)).toInt64))), (5, .int (nI (T.getD i 0))), (4, .int (nI i)), (3, .int (nI 1)), (0, .ref (o 0))] dX4_digest_74 rfl (by decide) rfl ?_
                              refine k_iconst hC 75 dX4_digest_75 (nI 1) (by decide) ?_
                              refine k_istore hC 76 6 [(6, .int (nI 1)), (1, .long (((djs to pi fe db0 (T.take i)) * 31) + ((nI (T.getD i 0)).toInt64))), (5, .int (nI (T.getD i 0))), (4, .int (nI i)), (3, .int (nI 1)), (0, .ref (o 0))] dX4_digest_76 (by decide) rfl ?_
                              refine k_iload hC 78 dX4_digest_78 rfl ?_
                              refine k_iconst hC 80 dX4_digest_80 (nI 4) (by decide) ?_
                              refine n_icmp_ge hC 81 106 dX4_digest_81 (by decide) (by omega) (by omega) (fun h81 => ?_) (fun h81 => ?_)
                              · skip
                                exact absurd h81 (by decide)
                              · skip
                                refine k_lload_n hC 84 dX4_digest_84 rfl ?_
                                refine k_ldc2 hC 85 31 dX4_digest_85 wq_24_6 ?_
                                refine k_lmul hC 88 dX4_digest_88 ?_
                                refine k_aload_n hC 89 dX4_digest_89 rfl ?_
                                refine k_iload hC 90 dX4_digest_90 rfl ?_
                                refine k_iload hC 92 dX4_digest_92 rfl ?_
                                refine k_callVr hC 94 0 [0, 1, 2, 3, 4] (m_ja l D o (nI 0) fj fs fl fn (T.getD i 0) 1 hg (by decide)) cw_RX4_30 dX4_digest_94 ⟨Nat.le_of_ble_eq_true rfl, Nat.le_of_ble_eq_true rfl, Nat.le_of_ble_eq_true rfl, Nat.le_of_ble_eq_true rfl⟩ rfl (Nat.le_of_ble_eq_true rfl) rfl rfl rfl (by decide) rfl (fun _ => Nat.le_of_ble_eq_true rfl) (fun _ => rfl) _ rfl (fun v u hp => ?_)
                                obtain rfl := hp
                                refine KJ.eqs (st' := .int (fj (4 * (T.getD i 0) + 1)) :: .long ((((djs to pi fe db0 (T.take i)) * 31) + ((nI (T.getD i 0)).toInt64)) * 31) :: []) rfl ?_
                                refine KJ.topi (y := (nI (to (T.getD i 0)))) (hj _ hg).2.1 ?_
                                refine k_i2l hC 97 dX4_digest_97 ((nI (to (T.getD i 0))).toInt64) rfl ?_
                                refine k_ladd hC 98 dX4_digest_98 ?_
                                refine k_lstore_n hC 99 1 [(1, .long (((((djs to pi fe db0 (T.take i)) * 31) + ((nI (T.getD i 0)).toInt64)) * 31) + ((nI (to (T.getD i 0))).toInt64))), (6, .int (nI 1)), (5, .int (nI (T.getD i 0))), (4, .int (nI i)), (3, .int (nI 1)), (0, .ref (o 0))] dX4_digest_99 rfl (by decide) rfl ?_
                                refine k_iinc hC 100 1 (nI 2) [(6, .int (nI 2)), (1, .long (((((djs to pi fe db0 (T.take i)) * 31) + ((nI (T.getD i 0)).toInt64)) * 31) + ((nI (to (T.getD i 0))).toInt64))), (5, .int (nI (T.getD i 0))), (4, .int (nI i)), (3, .int (nI 1)), (0, .ref (o 0))] dX4_digest_100 rfl (nI_1 1) (by decide) rfl ?_
                                refine k_goto hC 103 78 dX4_digest_103 (by decide) ?_
                                refine k_iload hC 78 dX4_digest_78 rfl ?_
                                refine k_iconst hC 80 dX4_digest_80 (nI 4) (by decide) ?_
                                refine n_icmp_ge hC 81 106 dX4_digest_81 (by decide) (by omega) (by omega) (fun h81 => ?_) (fun h81 => ?_)
                                · skip
                                  exact absurd h81 (by decide)
                                · skip
                                  refine k_lload_n hC 84 dX4_digest_84 rfl ?_
                                  refine k_ldc2 hC 85 31 dX4_digest_85 wq_24_6 ?_
                                  refine k_lmul hC 88 dX4_digest_88 ?_
                                  refine k_aload_n hC 89 dX4_digest_89 rfl ?_
                                  refine k_iload hC 90 dX4_digest_90 rfl ?_
                                  refine k_iload hC 92 dX4_digest_92 rfl ?_
                                  refine k_callVr hC 94 0 [0, 1, 2, 3, 4] (m_ja l D o (nI 0) fj fs fl fn (T.getD i 0) 2 hg (by decide)) cw_RX4_30 dX4_digest_94 ⟨Nat.le_of_ble_eq_true rfl, Nat.le_of_ble_eq_true rfl, Nat.le_of_ble_eq_true rfl, Nat.le_of_ble_eq_true rfl⟩ rfl (Nat.le_of_ble_eq_true rfl) rfl rfl rfl (by decide) rfl (fun _ => Nat.le_of_ble_eq_true rfl) (fun _ => rfl) _ rfl (fun v u hp => ?_)
                                  obtain rfl := hp
                                  refine KJ.eqs (st' := .int (fj (4 * (T.getD i 0) + 2)) :: .long ((((((djs to pi fe db0 (T.take i)) * 31) + ((nI (T.getD i 0)).toInt64)) * 31) + ((nI (to (T.getD i 0))).toInt64)) * 31) :: []) rfl ?_
                                  refine KJ.topi (y := (nI (pi (T.getD i 0)))) (hj _ hg).2.2.1 ?_
                                  refine k_i2l hC 97 dX4_digest_97 ((nI (pi (T.getD i 0))).toInt64) rfl ?_
                                  refine k_ladd hC 98 dX4_digest_98 ?_
                                  refine k_lstore_n hC 99 1 [(1, .long (((((((djs to pi fe db0 (T.take i)) * 31) + ((nI (T.getD i 0)).toInt64)) * 31) + ((nI (to (T.getD i 0))).toInt64)) * 31) + ((nI (pi (T.getD i 0))).toInt64))), (6, .int (nI 2)), (5, .int (nI (T.getD i 0))), (4, .int (nI i)), (3, .int (nI 1)), (0, .ref (o 0))] dX4_digest_99 rfl (by decide) rfl ?_
                                  refine k_iinc hC 100 1 (nI 3) [(6, .int (nI 3)), (1, .long (((((((djs to pi fe db0 (T.take i)) * 31) + ((nI (T.getD i 0)).toInt64)) * 31) + ((nI (to (T.getD i 0))).toInt64)) * 31) + ((nI (pi (T.getD i 0))).toInt64))), (5, .int (nI (T.getD i 0))), (4, .int (nI i)), (3, .int (nI 1)), (0, .ref (o 0))] dX4_digest_100 rfl (nI_1 2) (by decide) rfl ?_
                                  refine k_goto hC 103 78 dX4_digest_103 (by decide) ?_
                                  refine k_iload hC 78 dX4_digest_78 rfl ?_
                                  refine k_iconst hC 80 dX4_digest_80 (nI 4) (by decide) ?_
                                  refine n_icmp_ge hC 81 106 dX4_digest_81 (by decide) (by omega) (by omega) (fun h81 => ?_) (fun h81 => ?_)
                                  · skip
                                    exact absurd h81 (by decide)
                                  · skip
                                    refine k_lload_n hC 84 dX4_digest_84 rfl ?_
                                    refine k_ldc2 hC 85 31 dX4_digest_85 wq_24_6 ?_
                                    refine k_lmul hC 88 dX4_digest_88 ?_
                                    refine k_aload_n hC 89 dX4_digest_89 rfl ?_
                                    refine k_iload hC 90 dX4_digest_90 rfl ?_
                                    refine k_iload hC 92 dX4_digest_92 rfl ?_
                                    refine k_callVr hC 94 0 [0, 1, 2, 3, 4] (m_ja l D o (nI 0) fj fs fl fn (T.getD i 0) 3 hg (by decide)) cw_RX4_30 dX4_digest_94 ⟨Nat.le_of_ble_eq_true rfl, Nat.le_of_ble_eq_true rfl, Nat.le_of_ble_eq_true rfl, Nat.le_of_ble_eq_true rfl⟩ rfl (Nat.le_of_ble_eq_true rfl) rfl rfl rfl (by decide) rfl (fun _ => Nat.le_of_ble_eq_true rfl) (fun _ => rfl) _ rfl (fun v u hp => ?_)
                                    obtain rfl := hp
                                    refine KJ.eqs (st' := .int (fj (4 * (T.getD i 0) + 3)) :: .long ((((((((djs to pi fe db0 (T.take i)) * 31) + ((nI (T.getD i 0)).toInt64)) * 31) + ((nI (to (T.getD i 0))).toInt64)) * 31) + ((nI (pi (T.getD i 0))).toInt64)) * 31) :: []) rfl ?_
                                    refine KJ.topi (y := (fe (T.getD i 0))) (hj _ hg).2.2.2 ?_
                                    refine k_i2l hC 97 dX4_digest_97 ((fe (T.getD i 0)).toInt64) rfl ?_
                                    refine k_ladd hC 98 dX4_digest_98 ?_
                                    refine KJ.topl (y := djs to pi fe db0 (T.take (i + 1))) (djs_s db0 h53).symm ?_
                                    refine k_lstore_n hC 99 1 [(1, .long (djs to pi fe db0 (T.take (i + 1)))), (6, .int (nI 3)), (5, .int (nI (T.getD i 0))), (4, .int (nI i)), (3, .int (nI 1)), (0, .ref (o 0))] dX4_digest_99 rfl (by decide) rfl ?_
                                    refine k_iinc hC 100 1 (nI 4) [(6, .int (nI 4)), (1, .long (djs to pi fe db0 (T.take (i + 1)))), (5, .int (nI (T.getD i 0))), (4, .int (nI i)), (3, .int (nI 1)), (0, .ref (o 0))] dX4_digest_100 rfl (nI_1 3) (by decide) rfl ?_
                                    refine k_goto hC 103 78 dX4_digest_103 (by decide) ?_
                                    refine k_iload hC 78 dX4_digest_78 rfl ?_
                                    refine k_iconst hC 80 dX4_digest_80 (nI 4) (by decide) ?_
                                    refine n_icmp_ge hC 81 106 dX4_digest_81 (by decide) (by omega) (by omega) (fun h81 => ?_) (fun h81 => ?_)
                                    · skip
                                      refine k_iinc hC 106 3 (nI (i + 1)) [(4, .int (nI (i + 1))), (6, .int (nI 4)), (1, .long (djs to pi fe db0 (T.take (i + 1)))), (5, .int (nI (T.getD i 0))), (3, .int (nI 1)), (0, .ref (o 0))] dX4_digest_106 rfl (nI_1 _) (by decide) rfl ?_
                                      refine k_goto hC 109 46 dX4_digest_109 (by decide) ?_
                                      refine KJ.lvp [0, 2, 4, 5] rfl ?_
                                      exact ih46 (i + 1) (by omega) (by omega)
                                    · skip
                                      exact absurd h81 (by decide)
                        refine KJ.lvp [0, 2, 1, 3] rfl ?_
                        exact loop46 (T.length + 1) 0 (by omega) (by omega)
                    · skip
                      refine k_lload_n hC 125 dX4_digest_125 rfl ?_
                      refine k_ldc2 hC 126 31 dX4_digest_126 wq_24_6 ?_
                      refine k_lmul hC 129 dX4_digest_129 ?_
                      refine k_aload_n hC 130 dX4_digest_130 rfl ?_
                      refine k_iload_n hC 131 dX4_digest_131 rfl ?_
                      refine k_iload hC 132 dX4_digest_132 rfl ?_
                      refine k_callVr hC 134 0 [0, 1, 2, 3, 4] (m_listedAt l D o (nI 0) fj fs fl fn 0 i (by omega)) cw_RX4_55 dX4_digest_134 ⟨Nat.le_of_ble_eq_true rfl, Nat.le_of_ble_eq_true rfl, Nat.le_of_ble_eq_true rfl, Nat.le_of_ble_eq_true rfl⟩ rfl (Nat.le_of_ble_eq_true rfl) rfl rfl rfl (by decide) rfl (fun _ => Nat.le_of_ble_eq_true rfl) (fun _ => rfl) _ rfl (fun v u hp => ?_)
                      obtain rfl := hp
                      refine KJ.eqs (st' := .int (fl (13 * 0 + i)) :: .long ((dks da0 (A.take i)) * 31) :: []) rfl ?_
                      refine KJ.topi (y := (nI (A.getD i 0))) (r2 i h122) ?_
                      refine k_i2l hC 137 dX4_digest_137 ((nI (A.getD i 0)).toInt64) rfl ?_
                      refine k_ladd hC 138 dX4_digest_138 ?_
                      refine KJ.topl (y := dks da0 (A.take (i + 1))) (dks_s da0 h122).symm ?_
                      refine k_lstore_n hC 139 1 [(1, .long (dks da0 (A.take (i + 1)))), (4, .int (nI i)), (3, .int (nI 0)), (0, .ref (o 0))] dX4_digest_139 rfl (by decide) rfl ?_
                      refine k_iinc hC 140 1 (nI (i + 1)) [(4, .int (nI (i + 1))), (1, .long (dks da0 (A.take (i + 1)))), (3, .int (nI 0)), (0, .ref (o 0))] dX4_digest_140 rfl (nI_1 _) (by decide) rfl ?_
                      refine k_goto hC 143 115 dX4_digest_143 (by decide) ?_
                      exact ih115 (i + 1) (by omega) (by omega)
                exact loop115 (A.length + 1) 0 (by omega) (by omega)
              · skip
                refine k_aload_n hC 56 dX4_digest_56 rfl ?_
                refine k_iload_n hC 57 dX4_digest_57 rfl ?_
                refine k_iload hC 58 dX4_digest_58 rfl ?_
                refine k_callVr hC 60 0 [0, 1, 2, 3, 4] (m_kindAt l D o (nI 0) fj fs fl fn 0 i (by omega)) cw_RX4_58 dX4_digest_60 ⟨Nat.le_of_ble_eq_true rfl, Nat.le_of_ble_eq_true rfl, Nat.le_of_ble_eq_true rfl, Nat.le_of_ble_eq_true rfl⟩ rfl (Nat.le_of_ble_eq_true rfl) rfl rfl rfl (by decide) rfl (fun _ => Nat.le_of_ble_eq_true rfl) (fun _ => rfl) _ rfl (fun v u hp => ?_)
                obtain rfl := hp
                refine KJ.eqs (st' := .int (fs (12 * 0 + i)) :: []) rfl ?_
                refine KJ.topi (y := (nI (N.getD i 0))) (r0 i h53) ?_
                refine k_istore hC 63 5 [(5, .int (nI (N.getD i 0))), (4, .int (nI i)), (1, .long (djs to pi fe d0 (N.take i))), (3, .int (nI 0)), (0, .ref (o 0))] dX4_digest_63 (by decide) rfl ?_
                refine k_lload_n hC 65 dX4_digest_65 rfl ?_
                refine k_ldc2 hC 66 31 dX4_digest_66 wq_24_6 ?_
                refine k_lmul hC 69 dX4_digest_69 ?_
                refine k_iload hC 70 dX4_digest_70 rfl ?_
                refine k_i2l hC 72 dX4_digest_72 ((nI (N.getD i 0)).toInt64) rfl ?_
                refine k_ladd hC 73 dX4_digest_73 ?_
                refine k_lstore_n hC 74 1 [(1, .long (((djs to pi fe d0 (N.take i)) * 31) + ((nI (N.getD i 0)).toInt64))), (5, .int (nI (N.getD i 0))), (4, .int (nI i)), (3, .int (nI 0)), (0, .ref (o 0))] dX4_digest_74 rfl (by decide) rfl ?_
                refine k_iconst hC 75 dX4_digest_75 (nI 1) (by decide) ?_
                refine k_istore hC 76 6 [(6, .int (nI 1)), (1, .long (((djs to pi fe d0 (N.take i)) * 31) + ((nI (N.getD i 0)).toInt64))), (5, .int (nI (N.getD i 0))), (4, .int (nI i)), (3, .int (nI 0)), (0, .ref (o 0))] dX4_digest_76 (by decide) rfl ?_
                refine k_iload hC 78 dX4_digest_78 rfl ?_
                refine k_iconst hC 80 dX4_digest_80 (nI 4) (by decide) ?_
                refine n_icmp_ge hC 81 106 dX4_digest_81 (by decide) (by omega) (by omega) (fun h81 => ?_) (fun h81 => ?_)
                · skip
                  exact absurd h81 (by decide)
                · skip
                  refine k_lload_n hC 84 dX4_digest_84 rfl ?_
                  refine k_ldc2 hC 85 31 dX4_digest_85 wq_24_6 ?_
                  refine k_lmul hC 88 dX4_digest_88 ?_
                  refine k_aload_n hC 89 dX4_digest_89 rfl ?_
                  refine k_iload hC 90 dX4_digest_90 rfl ?_
                  refine k_iload hC 92 dX4_digest_92 rfl ?_
                  refine k_callVr hC 94 0 [0, 1, 2, 3, 4] (m_ja l D o (nI 0) fj fs fl fn (N.getD i 0) 1 hg (by decide)) cw_RX4_30 dX4_digest_94 ⟨Nat.le_of_ble_eq_true rfl, Nat.le_of_ble_eq_true rfl, Nat.le_of_ble_eq_true rfl, Nat.le_of_ble_eq_true rfl⟩ rfl (Nat.le_of_ble_eq_true rfl) rfl rfl rfl (by decide) rfl (fun _ => Nat.le_of_ble_eq_true rfl) (fun _ => rfl) _ rfl (fun v u hp => ?_)
                  obtain rfl := hp
                  refine KJ.eqs (st' := .int (fj (4 * (N.getD i 0) + 1)) :: .long ((((djs to pi fe d0 (N.take i)) * 31) + ((nI (N.getD i 0)).toInt64)) * 31) :: []) rfl ?_
                  refine KJ.topi (y := (nI (to (N.getD i 0)))) (hj _ hg).2.1 ?_
                  refine k_i2l hC 97 dX4_digest_97 ((nI (to (N.getD i 0))).toInt64) rfl ?_
                  refine k_ladd hC 98 dX4_digest_98 ?_
                  refine k_lstore_n hC 99 1 [(1, .long (((((djs to pi fe d0 (N.take i)) * 31) + ((nI (N.getD i 0)).toInt64)) * 31) + ((nI (to (N.getD i 0))).toInt64))), (6, .int (nI 1)), (5, .int (nI (N.getD i 0))), (4, .int (nI i)), (3, .int (nI 0)), (0, .ref (o 0))] dX4_digest_99 rfl (by decide) rfl ?_
                  refine k_iinc hC 100 1 (nI 2) [(6, .int (nI 2)), (1, .long (((((djs to pi fe d0 (N.take i)) * 31) + ((nI (N.getD i 0)).toInt64)) * 31) + ((nI (to (N.getD i 0))).toInt64))), (5, .int (nI (N.getD i 0))), (4, .int (nI i)), (3, .int (nI 0)), (0, .ref (o 0))] dX4_digest_100 rfl (nI_1 1) (by decide) rfl ?_
                  refine k_goto hC 103 78 dX4_digest_103 (by decide) ?_
                  refine k_iload hC 78 dX4_digest_78 rfl ?_
                  refine k_iconst hC 80 dX4_digest_80 (nI 4) (by decide) ?_
                  refine n_icmp_ge hC 81 106 dX4_digest_81 (by decide) (by omega) (by omega) (fun h81 => ?_) (fun h81 => ?_)
                  · skip
                    exact absurd h81 (by decide)
                  · skip
                    refine k_lload_n hC 84 dX4_digest_84 rfl ?_
                    refine k_ldc2 hC 85 31 dX4_digest_85 wq_24_6 ?_
                    refine k_lmul hC 88 dX4_digest_88 ?_
                    refine k_aload_n hC 89 dX4_digest_89 rfl ?_
                    refine k_iload hC 90 dX4_digest_90 rfl ?_
                    refine k_iload hC 92 dX4_digest_92 rfl ?_
                    refine k_callVr hC 94 0 [0, 1, 2, 3, 4] (m_ja l D o (nI 0) fj fs fl fn (N.getD i 0) 2 hg (by decide)) cw_RX4_30 dX4_digest_94 ⟨Nat.le_of_ble_eq_true rfl, Nat.le_of_ble_eq_true rfl, Nat.le_of_ble_eq_true rfl, Nat.le_of_ble_eq_true rfl⟩ rfl (Nat.le_of_ble_eq_true rfl) rfl rfl rfl (by decide) rfl (fun _ => Nat.le_of_ble_eq_true rfl) (fun _ => rfl) _ rfl (fun v u hp => ?_)
                    obtain rfl := hp
                    refine KJ.eqs (st' := .int (fj (4 * (N.getD i 0) + 2)) :: .long ((((((djs to pi fe d0 (N.take i)) * 31) + ((nI (N.getD i 0)).toInt64)) * 31) + ((nI (to (N.getD i 0))).toInt64)) * 31) :: []) rfl ?_
                    refine KJ.topi (y := (nI (pi (N.getD i 0)))) (hj _ hg).2.2.1 ?_
                    refine k_i2l hC 97 dX4_digest_97 ((nI (pi (N.getD i 0))).toInt64) rfl ?_
                    refine k_ladd hC 98 dX4_digest_98 ?_
                    refine k_lstore_n hC 99 1 [(1, .long (((((((djs to pi fe d0 (N.take i)) * 31) + ((nI (N.getD i 0)).toInt64)) * 31) + ((nI (to (N.getD i 0))).toInt64)) * 31) + ((nI (pi (N.getD i 0))).toInt64))), (6, .int (nI 2)), (5, .int (nI (N.getD i 0))), (4, .int (nI i)), (3, .int (nI 0)), (0, .ref (o 0))] dX4_digest_99 rfl (by decide) rfl ?_
                    refine k_iinc hC 100 1 (nI 3) [(6, .int (nI 3)), (1, .long (((((((djs to pi fe d0 (N.take i)) * 31) + ((nI (N.getD i 0)).toInt64)) * 31) + ((nI (to (N.getD i 0))).toInt64)) * 31) + ((nI (pi (N.getD i 0))).toInt64))), (5, .int (nI (N.getD i 0))), (4, .int (nI i)), (3, .int (nI 0)), (0, .ref (o 0))] dX4_digest_100 rfl (nI_1 2) (by decide) rfl ?_
                    refine k_goto hC 103 78 dX4_digest_103 (by decide) ?_
                    refine k_iload hC 78 dX4_digest_78 rfl ?_
                    refine k_iconst hC 80 dX4_digest_80 (nI 4) (by decide) ?_
                    refine n_icmp_ge hC 81 106 dX4_digest_81 (by decide) (by omega) (by omega) (fun h81 => ?_) (fun h81 => ?_)
                    · skip
                      exact absurd h81 (by decide)
                    · skip
                      refine k_lload_n hC 84 dX4_digest_84 rfl ?_
                      refine k_ldc2 hC 85 31 dX4_digest_85 wq_24_6 ?_
                      refine k_lmul hC 88 dX4_digest_88 ?_
                      refine k_aload_n hC 89 dX4_digest_89 rfl ?_
                      refine k_iload hC 90 dX4_digest_90 rfl ?_
                      refine k_iload hC 92 dX4_digest_92 rfl ?_
                      refine k_callVr hC 94 0 [0, 1, 2, 3, 4] (m_ja l D o (nI 0) fj fs fl fn (N.getD i 0) 3 hg (by decide)) cw_RX4_30 dX4_digest_94 ⟨Nat.le_of_ble_eq_true rfl, Nat.le_of_ble_eq_true rfl, Nat.le_of_ble_eq_true rfl, Nat.le_of_ble_eq_true rfl⟩ rfl (Nat.le_of_ble_eq_true rfl) rfl rfl rfl (by decide) rfl (fun _ => Nat.le_of_ble_eq_true rfl) (fun _ => rfl) _ rfl (fun v u hp => ?_)
                      obtain rfl := hp
                      refine KJ.eqs (st' := .int (fj (4 * (N.getD i 0) + 3)) :: .long ((((((((djs to pi fe d0 (N.take i)) * 31) + ((nI (N.getD i 0)).toInt64)) * 31) + ((nI (to (N.getD i 0))).toInt64)) * 31) + ((nI (pi (N.getD i 0))).toInt64)) * 31) :: []) rfl ?_
                      refine KJ.topi (y := (fe (N.getD i 0))) (hj _ hg).2.2.2 ?_
                      refine k_i2l hC 97 dX4_digest_97 ((fe (N.getD i 0)).toInt64) rfl ?_
                      refine k_ladd hC 98 dX4_digest_98 ?_
                      refine KJ.topl (y := djs to pi fe d0 (N.take (i + 1))) (djs_s d0 h53).symm ?_
                      refine k_lstore_n hC 99 1 [(1, .long (djs to pi fe d0 (N.take (i + 1)))), (6, .int (nI 3)), (5, .int (nI (N.getD i 0))), (4, .int (nI i)), (3, .int (nI 0)), (0, .ref (o 0))] dX4_digest_99 rfl (by decide) rfl ?_
                      refine k_iinc hC 100 1 (nI 4) [(6, .int (nI 4)), (1, .long (djs to pi fe d0 (N.take (i + 1)))), (5, .int (nI (N.getD i 0))), (4, .int (nI i)), (3, .int (nI 0)), (0, .ref (o 0))] dX4_digest_100 rfl (nI_1 3) (by decide) rfl ?_
                      refine k_goto hC 103 78 dX4_digest_103 (by decide) ?_
                      refine k_iload hC 78 dX4_digest_78 rfl ?_
                      refine k_iconst hC 80 dX4_digest_80 (nI 4) (by decide) ?_
                      refine n_icmp_ge hC 81 106 dX4_digest_81 (by decide) (by omega) (by omega) (fun h81 => ?_) (fun h81 => ?_)
                      · skip
                        refine k_iinc hC 106 3 (nI (i + 1)) [(4, .int (nI (i + 1))), (6, .int (nI 4)), (1, .long (djs to pi fe d0 (N.take (i + 1)))), (5, .int (nI (N.getD i 0))), (3, .int (nI 0)), (0, .ref (o 0))] dX4_digest_106 rfl (nI_1 _) (by decide) rfl ?_
                        refine k_goto hC 109 46 dX4_digest_109 (by decide) ?_
                        refine KJ.lvp [0, 2, 4, 5] rfl ?_
                        exact ih46 (i + 1) (by omega) (by omega)
                      · skip
                        exact absurd h81 (by decide)
          refine KJ.lvp [0, 2, 1, 3] rfl ?_
          exact loop46 (N.length + 1) 0 (by omega) (by omega)
      · skip
        refine k_lload_n hC 17 dX4_digest_17 rfl ?_
        refine k_ldc2 hC 18 31 dX4_digest_18 wq_24_6 ?_
        refine k_lmul hC 21 dX4_digest_21 ?_
        refine k_aload_n hC 22 dX4_digest_22 rfl ?_
        refine k_iload_n hC 23 dX4_digest_23 rfl ?_
        refine k_callVr hC 24 0 [0, 1, 2, 3, 4] (m_counted l D o (nI 0) fj fs fl fn N T A B to pi fe pl go hi mi re lo i hM0 hW0 (by omega)) cw_RX4_126 dX4_digest_24 ⟨Nat.le_of_ble_eq_true rfl, Nat.le_of_ble_eq_true rfl, Nat.le_of_ble_eq_true rfl, Nat.le_of_ble_eq_true rfl⟩ rfl (Nat.le_of_ble_eq_true rfl) rfl rfl rfl (by decide) rfl (fun _ => Nat.le_of_ble_eq_true rfl) (fun _ => rfl) _ rfl (fun v u hp => ?_)
        obtain rfl := hp
        refine KJ.eqs (st' := .int (ct (N, T, A, B, to, pi, fe, pl, go, hi, mi, re, lo) i) :: .long ((dgN (N, T, A, B, to, pi, fe, pl, go, hi, mi, re, lo) i) * 31) :: []) rfl ?_
        refine k_i2l hC 27 dX4_digest_27 ((ct (N, T, A, B, to, pi, fe, pl, go, hi, mi, re, lo) i).toInt64) rfl ?_
        refine k_ladd hC 28 dX4_digest_28 ?_
        refine KJ.topl (y := dgN (N, T, A, B, to, pi, fe, pl, go, hi, mi, re, lo) (i + 1)) (dgN_s _ i) ?_
        refine k_lstore_n hC 29 1 [(1, .long (dgN (N, T, A, B, to, pi, fe, pl, go, hi, mi, re, lo) (i + 1))), (3, .int (nI i)), (0, .ref (o 0))] dX4_digest_29 rfl (by decide) rfl ?_
        refine k_iinc hC 30 1 (nI (i + 1)) [(3, .int (nI (i + 1))), (1, .long (dgN (N, T, A, B, to, pi, fe, pl, go, hi, mi, re, lo) (i + 1))), (0, .ref (o 0))] dX4_digest_30 rfl (nI_1 _) (by decide) rfl ?_
        refine k_goto hC 33 11 dX4_digest_33 (by decide) ?_
        exact ih11 (i + 1) (by omega) (by omega)
  exact loop11 12 0 (by omega) (by omega)
