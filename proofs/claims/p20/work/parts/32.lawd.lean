/-! The law: its run from the entry to the end -/
set_option maxHeartbeats 4000000 in
set_option maxRecDepth 100000 in
theorem law_run (l : Launch) (hfl : l.stackTraces = false) (G : KX) (D : va_G) (bb LS : Nat) (xs : Nat → Int32) (hLS : LS ≤ 260) (hC : CX G D cL_law RL 16) (hX : XF l G) (hZ : SCR G bb LS xs) (hend : ∀ (ce sl : Nat) (ws : va_W) (lv : List (Nat × Value)), ce ≤ 600130 → sl ≤ 7301080 → KJ l G D room_1 16 ce sl ws lv 537 [.int (nI 1)]) : KJ l G D room_1 16 0 0 [] [(0, .ref bb)] 0 [] := by
  refine k_new hC 0 3 [.null, .null] dL_law_0 rfl inlX3 tyX3_ok wq_1_0 wq_1_1 wq_1_2 (fun j hj => by rcases (show j = 0 ∨ j = 1 by omega) with rfl | rfl <;> rfl) ⟨Nat.le_of_ble_eq_true rfl, Nat.le_of_ble_eq_true rfl⟩ (fun q0 => ?_)
  refine KJ.eqw (ws' := [(q0, .inr (3, [.null, .null]))]) rfl ?_
  refine k_dup hC 3 dL_law_3 rfl ?_
  refine f_callIe hC 4 ([]) (fun (u : (Nat → Nat) × (Nat → Nat)) => ((q0, .inr (3, [.ref (u.1 0), .ref (u.2 0)])) :: (wSt D u.1 initS zeroG ++ wSt D u.2 initS zeroG))) (c_X3_init l D q0) cw_RL_92 dL_law_4 ⟨Nat.le_of_ble_eq_true rfl, Nat.le_of_ble_eq_true rfl, Nat.le_of_ble_eq_true rfl, Nat.le_of_ble_eq_true rfl⟩ rfl (Nat.le_of_ble_eq_true rfl) (List.append_nil _).symm (fun _ => Nat.le_of_ble_eq_true rfl) (fun _ => List.append_nil _) _ rfl (fun v (u : (Nat → Nat) × (Nat → Nat)) hp => ?_)
  obtain rfl := hp
  refine KJ.eqs (st' := .ref q0 :: []) rfl ?_
  obtain ⟨a, b⟩ := u
  refine KJ.eqw (ws' := ((q0, .inr (3, [.ref (a 0), .ref (b 0)])) :: (wSt D a initS zeroG ++ wSt D b initS zeroG))) rfl ?_
  refine k_astore_n hC 7 1 [(1, .ref q0), (0, .ref bb)] dL_law_7 rfl (by decide) rfl ?_
  refine k_aload_n hC 8 dL_law_8 rfl ?_
  refine k_aload_n hC 9 dL_law_9 rfl ?_
  refine fs_callS hC hX hZ 10 ([]) (fun (u : Nat × Nat × Nat × PS × PG × PS × PG × SX) => ((q0, .inr (3, [.ref (a 0), .ref (b 0)])) :: (wSt D a u.2.2.2.1 u.2.2.2.2.1 ++ (wSt D b u.2.2.2.2.2.1 u.2.2.2.2.2.2.1 ++ (wSm D u.1 u.2.1 u.2.2.1 u.2.2.2.1 u.2.2.2.2.2.2.2))))) (c_L_build l hfl D bb LS xs q0 a b initS zeroG zeroG hLS init_SR) cw_RL_93 dL_law_10 ⟨Nat.le_of_ble_eq_true rfl, Nat.le_of_ble_eq_true rfl, Nat.le_of_ble_eq_true rfl, Nat.le_of_ble_eq_true rfl⟩ rfl (Nat.le_of_ble_eq_true rfl) (List.append_nil _).symm (fun _ u _ => lw_le0) (fun _ => List.append_nil _) _ rfl (fun v (u : Nat × Nat × Nat × PS × PG × PS × PG × SX) hp => ?_)
  obtain ⟨rfl, hO⟩ := hp
  refine KJ.eqs (st' := .ref u.1 :: []) rfl ?_
  obtain ⟨m, pp, rr, s, g, s2, g2, x⟩ := u
  dsimp only at hO
  refine KJ.eqw (ws' := ((q0, .inr (3, [.ref (a 0), .ref (b 0)])) :: (wSt D a s g ++ (wSt D b s2 g2 ++ (wSm D m pp rr s x))))) rfl ?_
  refine KJ.eqs (st' := .ref m :: []) rfl ?_
  refine k_astore_n hC 13 2 [(2, .ref m), (1, .ref q0), (0, .ref bb)] dL_law_13 rfl (by decide) rfl ?_
  refine k_aload_n hC 14 dL_law_14 rfl ?_
  refine k_ifnonnull hC 15 20 dL_law_15 (by decide) ?_
  refine k_iconst hC 20 dL_law_20 (nI 0) (by decide) ?_
  refine k_istore_n hC 21 3 [(3, .int (nI 0)), (2, .ref m), (1, .ref q0), (0, .ref bb)] dL_law_21 rfl (by decide) rfl ?_
  have loop22 : ∀ (nn22 : Nat) (i : Nat) (s : PS) (g : PG) (s2 : PS) (g2 : PG) (x : SX), 60 - i < nn22 → i ≤ 60 → OKs s g x → KJ l G D room_1 16 (205028 + 3170 * i) (2665372 + 39010 * i) ((q0, .inr (3, [.ref (a 0), .ref (b 0)])) :: (wSt D a s g ++ (wSt D b s2 g2 ++ (wSm D m pp rr s x)))) [(3, .int (nI i)), (2, .ref m), (1, .ref q0), (0, .ref bb)] 22 ([]) := by
    intro nn22
    induction nn22 with
    | zero => intro i s g s2 g2 x h; exact absurd h (Nat.not_lt_zero _)
    | succ nn22 ih22 =>
      intro i s g s2 g2 x hn22 hi hO
      refine k_iload_n hC 22 dL_law_22 rfl ?_
      refine k_bipush hC 23 dL_law_23 (nI 60) (by decide) ?_
      refine n_icmp_ge hC 25 532 dL_law_25 (by decide) (by omega) (by omega) (fun h25 => ?_) (fun h25 => ?_)
      · skip
        refine k_aload_n hC 532 dL_law_532 rfl ?_
        refine k_aload_n hC 533 dL_law_533 rfl ?_
        refine fs_callV hC hX hZ 534 31 [] (fun (u : PG × PS × PG) => ((q0, .inr (3, [.ref (a 0), .ref (b 0)])) :: (wSt D a s u.1 ++ (wSt D b u.2.1 u.2.2 ++ (wSm D m pp rr s x))))) (s_isSame l hfl D bb LS xs q0 m pp rr a b s s2 g g2 x hLS hO) cw_RL_106 dL_law_534 ⟨Nat.le_of_ble_eq_true rfl, Nat.le_of_ble_eq_true rfl, (show 205028 + 3170 * i + 13000 ≤ 600130 by omega), (show 2665372 + 39010 * i + 77000 ≤ 7301080 by omega)⟩ rfl (Nat.le_of_ble_eq_true rfl) rfl rfl rfl (List.append_nil _).symm (fun _ u _ => lw_le (Nat.le_refl _)) (fun _ => List.append_nil _) _ rfl (fun v (u : PG × PS × PG) hp => ?_)
        obtain ⟨rfl, hSe⟩ := hp
        refine KJ.eqs (st' := .int (nI 1) :: []) rfl ?_
        exact hend _ _ _ _ (by omega) (by omega)
      · skip
        refine k_aload_n hC 28 dL_law_28 rfl ?_
        refine k_iload_n hC 29 dL_law_29 rfl ?_
        refine k_bipush hC 30 dL_law_30 (nI 16) (by decide) ?_
        refine k_irem hC 32 dL_law_32 (by decide) (KJ.topi (y := (nI (i % 16))) (pk_rem (by omega) (by decide) (by decide)) ?_)
        refine fs_callS hC hX hZ 33 ((q0, .inr (3, [.ref (a 0), .ref (b 0)])) :: (wSt D a s g ++ (wSt D b s2 g2 ++ (wSm D m pp rr s x)))) (fun (cv : Int32) => ((q0, .inr (3, [.ref (a 0), .ref (b 0)])) :: (wSt D a s g ++ (wSt D b s2 g2 ++ (wSm D m pp rr s x))))) (c_L_cell l hfl D bb LS xs (i % 16) hLS (by omega)) cw_RL_84 dL_law_33 ⟨Nat.le_of_ble_eq_true rfl, Nat.le_of_ble_eq_true rfl, (show 205028 + 3170 * i + 0 ≤ 600130 by omega), (show 2665372 + 39010 * i + 0 ≤ 7301080 by omega)⟩ rfl (Nat.le_of_ble_eq_true rfl) (by simp only [List.append_assoc, List.cons_append, List.nil_append, List.append_nil]) (fun _ _ _ => Nat.le_refl _) (fun _ => by simp only [List.append_assoc, List.cons_append, List.nil_append, List.append_nil]) _ rfl (fun v (cv : Int32) hp => ?_)
        obtain rfl := hp
        refine KJ.eqs (st' := .int cv :: []) rfl ?_
        refine k_iload_n hC 36 dL_law_36 rfl ?_
        refine k_bipush hC 37 dL_law_37 (nI 16) (by decide) ?_
        refine k_idiv hC 39 dL_law_39 (by decide) (KJ.topi (y := (nI (i / 16))) (pk_div (by omega) (by decide) (by decide)) ?_)
        refine k_iconst hC 40 dL_law_40 (nI 3) (by decide) ?_
        refine n_imul hC 41 ((i / 16) * 3) dL_law_41 rfl ?_
        refine k_ishr hC 42 dL_law_42 (KJ.topi (y := (cv >>> ((nI ((i / 16) * 3)) &&& 31))) rfl ?_)
        refine k_sipush hC 43 dL_law_43 (nI 373) (by decide) ?_
        refine k_iload_n hC 46 dL_law_46 rfl ?_
        refine n_imul hC 47 (373 * i) dL_law_47 rfl ?_
        refine k_iadd hC 48 dL_law_48 ?_
        refine k_istore hC 49 4 [(4, .int ((cv >>> ((nI ((i / 16) * 3)) &&& 31)) + (nI (373 * i)))), (3, .int (nI i)), (2, .ref m), (1, .ref q0), (0, .ref bb)] dL_law_49 (by decide) rfl ?_
        refine k_aload_n hC 51 dL_law_51 rfl ?_
        refine k_aload_n hC 52 dL_law_52 rfl ?_
        refine k_iload hC 53 dL_law_53 rfl ?_
        refine fs_callS hC hX hZ 55 ([]) (fun u => ((q0, .inr (3, [.ref (a 0), .ref (b 0)])) :: (wSt D a u.1 u.2.1 ++ (wSt D b u.2.2.1 u.2.2.2.1 ++ (wSm D m pp rr u.1 u.2.2.2.2))))) (c_L_act l hfl D bb LS xs q0 m pp rr a b s s2 g g2 x _ hLS hO) cw_RL_88 dL_law_55 ⟨Nat.le_of_ble_eq_true rfl, Nat.le_of_ble_eq_true rfl, (show 205028 + 3170 * i + 0 + 2770 ≤ 600130 by omega), (show 2665372 + 39010 * i + 0 + 36010 ≤ 7301080 by omega)⟩ rfl (Nat.le_of_ble_eq_true rfl) (List.append_nil _).symm (fun _ u hp => lw_le hp.2.2) (fun _ => List.append_nil _) _ rfl (fun v u hp => ?_)
        obtain ⟨rfl, hO1, hL1⟩ := hp
        refine KJ.eqs (st' := .int (nI 1) :: []) rfl ?_
        obtain ⟨s1, g1, sb1, gb1, x1⟩ := u
        dsimp only at hO1 hL1
        obtain ⟨hSa, hW1, hJ1, hI1⟩ := id hO1
        refine KJ.eqw (ws' := ((q0, .inr (3, [.ref (a 0), .ref (b 0)])) :: (wSt D a s1 g1 ++ (wSt D b sb1 gb1 ++ (wSm D m pp rr s1 x1))))) rfl ?_
        refine n_if_ne hC 58 63 dL_law_58 (by decide) (by omega) (fun h58 => ?_) (fun h58 => ?_)
        · skip
          refine k_iload hC 63 dL_law_63 rfl ?_
          refine k_iconst hC 65 dL_law_65 (nI 1) (by decide) ?_
          refine k_ishr hC 66 dL_law_66 (KJ.topi (y := (((cv >>> ((nI ((i / 16) * 3)) &&& 31)) + (nI (373 * i))) >>> ((nI 1) &&& 31))) rfl ?_)
          refine k_bipush hC 67 dL_law_67 (nI 40) (by decide) ?_
          refine f_callS hC 69 ([]) ((q0, .inr (3, [.ref (a 0), .ref (b 0)])) :: (wSt D a s1 g1 ++ (wSt D b sb1 gb1 ++ (wSm D m pp rr s1 x1)))) (fun (kd : Nat) => ((q0, .inr (3, [.ref (a 0), .ref (b 0)])) :: (wSt D a s1 g1 ++ (wSt D b sb1 gb1 ++ (wSm D m pp rr s1 x1))))) (c_L_below l D _ 40 (by decide) (by decide)) cw_RL_19 dL_law_69 ⟨Nat.le_of_ble_eq_true rfl, Nat.le_of_ble_eq_true rfl, (show 205028 + 3170 * i + 0 + 2770 + 0 ≤ 600130 by omega), (show 2665372 + 39010 * i + 0 + 36010 + 0 ≤ 7301080 by omega)⟩ rfl (Nat.le_of_ble_eq_true rfl) rfl (fun _ => rfl) (fun _ => rfl) _ rfl (fun v (kd : Nat) hp => ?_)
          obtain ⟨rfl, hkd⟩ := hp
          refine KJ.eqs (st' := .int (nI kd) :: []) rfl ?_
          refine k_istore hC 72 5 [(5, .int (nI kd)), (4, .int ((cv >>> ((nI ((i / 16) * 3)) &&& 31)) + (nI (373 * i)))), (3, .int (nI i)), (2, .ref m), (1, .ref q0), (0, .ref bb)] dL_law_72 (by decide) rfl ?_
          refine k_aload_n hC 74 dL_law_74 rfl ?_
          refine k_iconst hC 75 dL_law_75 (nI 1) (by decide) ?_
          refine g_callV hC hX 76 0 ([]) (wSm D m pp rr s1 x1) (fun uq => ((q0, .inr (3, [.ref (a 0), .ref (b 0)])) :: (wSt D a uq.1.1 uq.1.2 ++ (wSt D b uq.2.1 uq.2.2 ++ (wSm D m pp rr s1 x1))))) (c_X3_count l hfl D q0 a b s1 sb1 g1 gb1 (nI 1) hSa hW1) cw_RL_97 dL_law_76 ⟨Nat.le_of_ble_eq_true rfl, Nat.le_of_ble_eq_true rfl, (show 205028 + 3170 * i + 0 + 2770 + 0 + 1 ≤ 600130 by omega), (show 2665372 + 39010 * i + 0 + 36010 + 0 + 6 ≤ 7301080 by omega)⟩ rfl (Nat.le_of_ble_eq_true rfl) rfl rfl rfl (by simp only [List.append_assoc, List.cons_append, List.nil_append, List.append_nil]) (fun _ => rfl) (fun _ => by simp only [List.append_assoc, List.cons_append, List.nil_append, List.append_nil]) _ rfl (fun v uq hp => ?_) (fun E hx => absurd hx (no_x (countK0 (by decide))))
          obtain ⟨-, rfl, euq, hSq⟩ := hp
          refine KJ.eqs (st' := .int (ct s1 (kn (nI 1))) :: []) rfl ?_
          refine KJ.topi (y := (nI s1.1.length)) (by rw [kn_ek (by decide)]; rfl) ?_
          obtain ⟨⟨saq, gaq⟩, sbq, gbq⟩ := uq
          dsimp only at euq hSq
          have euq2 := euq.symm
          subst euq2
          refine KJ.eqw (ws' := ((q0, .inr (3, [.ref (a 0), .ref (b 0)])) :: (wSt D a s1 gaq ++ (wSt D b sbq gbq ++ (wSm D m pp rr s1 x1))))) rfl ?_
          have hSa := hSq
          refine k_aload_n hC 79 dL_law_79 rfl ?_
          refine k_iconst hC 80 dL_law_80 (nI 2) (by decide) ?_
          refine g_callV hC hX 81 0 ([]) (wSm D m pp rr s1 x1) (fun uq => ((q0, .inr (3, [.ref (a 0), .ref (b 0)])) :: (wSt D a uq.1.1 uq.1.2 ++ (wSt D b uq.2.1 uq.2.2 ++ (wSm D m pp rr s1 x1))))) (c_X3_count l hfl D q0 a b s1 sbq gaq gbq (nI 2) hSa hW1) cw_RL_97 dL_law_81 ⟨Nat.le_of_ble_eq_true rfl, Nat.le_of_ble_eq_true rfl, (show 205028 + 3170 * i + 0 + 2770 + 0 + 1 + 1 ≤ 600130 by omega), (show 2665372 + 39010 * i + 0 + 36010 + 0 + 6 + 6 ≤ 7301080 by omega)⟩ rfl (Nat.le_of_ble_eq_true rfl) rfl rfl rfl (by simp only [List.append_assoc, List.cons_append, List.nil_append, List.append_nil]) (fun _ => rfl) (fun _ => by simp only [List.append_assoc, List.cons_append, List.nil_append, List.append_nil]) _ rfl (fun v uq hp => ?_) (fun E hx => absurd hx (no_x (countK0 (by decide))))
          obtain ⟨-, rfl, euq, hSq⟩ := hp
          refine KJ.eqs (st' := .int (ct s1 (kn (nI 2))) :: .int (nI s1.1.length) :: []) rfl ?_
          refine KJ.topi (y := (nI s1.2.1.length)) (by rw [kn_ek (by decide)]; rfl) ?_
          obtain ⟨⟨saq, gaq⟩, sbq, gbq⟩ := uq
          dsimp only at euq hSq
          have euq2 := euq.symm
          subst euq2
          refine KJ.eqw (ws' := ((q0, .inr (3, [.ref (a 0), .ref (b 0)])) :: (wSt D a s1 gaq ++ (wSt D b sbq gbq ++ (wSm D m pp rr s1 x1))))) rfl ?_
          have hSa := hSq
          have hj12 : s1.1.length + s1.2.1.length ≤ 12 := jrs_12 hW1
          have hpl12 := hW1.pl12
          refine n_iadd hC 84 (s1.1.length + s1.2.1.length) dL_law_84 rfl ?_
          refine k_istore hC 85 6 [(6, .int (nI (s1.1.length + s1.2.1.length))), (5, .int (nI kd)), (4, .int ((cv >>> ((nI ((i / 16) * 3)) &&& 31)) + (nI (373 * i)))), (3, .int (nI i)), (2, .ref m), (1, .ref q0), (0, .ref bb)] dL_law_85 (by decide) rfl ?_
          refine k_aload_n hC 87 dL_law_87 rfl ?_
          refine k_iconst hC 88 dL_law_88 (nI 0) (by decide) ?_
          refine g_callV hC hX 89 0 ([]) (wSm D m pp rr s1 x1) (fun uq => ((q0, .inr (3, [.ref (a 0), .ref (b 0)])) :: (wSt D a uq.1.1 uq.1.2 ++ (wSt D b uq.2.1 uq.2.2 ++ (wSm D m pp rr s1 x1))))) (c_X3_count l hfl D q0 a b s1 sbq gaq gbq (nI 0) hSa hW1) cw_RL_97 dL_law_89 ⟨Nat.le_of_ble_eq_true rfl, Nat.le_of_ble_eq_true rfl, (show 205028 + 3170 * i + 0 + 2770 + 0 + 1 + 1 + 1 ≤ 600130 by omega), (show 2665372 + 39010 * i + 0 + 36010 + 0 + 6 + 6 + 6 ≤ 7301080 by omega)⟩ rfl (Nat.le_of_ble_eq_true rfl) rfl rfl rfl (by simp only [List.append_assoc, List.cons_append, List.nil_append, List.append_nil]) (fun _ => rfl) (fun _ => by simp only [List.append_assoc, List.cons_append, List.nil_append, List.append_nil]) _ rfl (fun v uq hp => ?_) (fun E hx => absurd hx (no_x (countK0 (by decide))))
          obtain ⟨-, rfl, euq, hSq⟩ := hp
          refine KJ.eqs (st' := .int (ct s1 (kn (nI 0))) :: []) rfl ?_
          refine KJ.topi (y := (nI (plS s1))) (by rw [kn_ek (by decide)]; rfl) ?_
          obtain ⟨⟨saq, gaq⟩, sbq, gbq⟩ := uq
          dsimp only at euq hSq
          have euq2 := euq.symm
          subst euq2
          refine KJ.eqw (ws' := ((q0, .inr (3, [.ref (a 0), .ref (b 0)])) :: (wSt D a s1 gaq ++ (wSt D b sbq gbq ++ (wSm D m pp rr s1 x1))))) rfl ?_
          have hSa := hSq
          refine k_istore hC 92 7 [(7, .int (nI (plS s1))), (6, .int (nI (s1.1.length + s1.2.1.length))), (5, .int (nI kd)), (4, .int ((cv >>> ((nI ((i / 16) * 3)) &&& 31)) + (nI (373 * i)))), (3, .int (nI i)), (2, .ref m), (1, .ref q0), (0, .ref bb)] dL_law_92 (by decide) rfl ?_
          refine k_aload_n hC 94 dL_law_94 rfl ?_
          refine k_bipush hC 95 dL_law_95 (nI 6) (by decide) ?_
          refine g_callV hC hX 97 0 ([]) (wSm D m pp rr s1 x1) (fun uq => ((q0, .inr (3, [.ref (a 0), .ref (b 0)])) :: (wSt D a uq.1.1 uq.1.2 ++ (wSt D b uq.2.1 uq.2.2 ++ (wSm D m pp rr s1 x1))))) (c_X3_count l hfl D q0 a b s1 sbq gaq gbq (nI 6) hSa hW1) cw_RL_97 dL_law_97 ⟨Nat.le_of_ble_eq_true rfl, Nat.le_of_ble_eq_true rfl, (show 205028 + 3170 * i + 0 + 2770 + 0 + 1 + 1 + 1 + 1 ≤ 600130 by omega), (show 2665372 + 39010 * i + 0 + 36010 + 0 + 6 + 6 + 6 + 6 ≤ 7301080 by omega)⟩ rfl (Nat.le_of_ble_eq_true rfl) rfl rfl rfl (by simp only [List.append_assoc, List.cons_append, List.nil_append, List.append_nil]) (fun _ => rfl) (fun _ => by simp only [List.append_assoc, List.cons_append, List.nil_append, List.append_nil]) _ rfl (fun v uq hp => ?_) (fun E hx => absurd hx (no_x (countK0 (by decide))))
          obtain ⟨-, rfl, euq, hSq⟩ := hp
          refine KJ.eqs (st' := .int (ct s1 (kn (nI 6))) :: []) rfl ?_
          refine KJ.topi (y := (hiS s1)) (by rw [kn_ek (by decide)]; rfl) ?_
          obtain ⟨⟨saq, gaq⟩, sbq, gbq⟩ := uq
          dsimp only at euq hSq
          have euq2 := euq.symm
          subst euq2
          refine KJ.eqw (ws' := ((q0, .inr (3, [.ref (a 0), .ref (b 0)])) :: (wSt D a s1 gaq ++ (wSt D b sbq gbq ++ (wSm D m pp rr s1 x1))))) rfl ?_
          have hSa := hSq
          refine k_aload_n hC 100 dL_law_100 rfl ?_
          refine k_bipush hC 101 dL_law_101 (nI 7) (by decide) ?_
          refine g_callV hC hX 103 0 ([]) (wSm D m pp rr s1 x1) (fun uq => ((q0, .inr (3, [.ref (a 0), .ref (b 0)])) :: (wSt D a uq.1.1 uq.1.2 ++ (wSt D b uq.2.1 uq.2.2 ++ (wSm D m pp rr s1 x1))))) (c_X3_count l hfl D q0 a b s1 sbq gaq gbq (nI 7) hSa hW1) cw_RL_97 dL_law_103 ⟨Nat.le_of_ble_eq_true rfl, Nat.le_of_ble_eq_true rfl, (show 205028 + 3170 * i + 0 + 2770 + 0 + 1 + 1 + 1 + 1 + 1 ≤ 600130 by omega), (show 2665372 + 39010 * i + 0 + 36010 + 0 + 6 + 6 + 6 + 6 + 6 ≤ 7301080 by omega)⟩ rfl (Nat.le_of_ble_eq_true rfl) rfl rfl rfl (by simp only [List.append_assoc, List.cons_append, List.nil_append, List.append_nil]) (fun _ => rfl) (fun _ => by simp only [List.append_assoc, List.cons_append, List.nil_append, List.append_nil]) _ rfl (fun v uq hp => ?_) (fun E hx => absurd hx (no_x (countK0 (by decide))))
          obtain ⟨-, rfl, euq, hSq⟩ := hp
          refine KJ.eqs (st' := .int (ct s1 (kn (nI 7))) :: .int (hiS s1) :: []) rfl ?_
          refine KJ.topi (y := (miS s1)) (by rw [kn_ek (by decide)]; rfl) ?_
          obtain ⟨⟨saq, gaq⟩, sbq, gbq⟩ := uq
          dsimp only at euq hSq
          have euq2 := euq.symm
          subst euq2
          refine KJ.eqw (ws' := ((q0, .inr (3, [.ref (a 0), .ref (b 0)])) :: (wSt D a s1 gaq ++ (wSt D b sbq gbq ++ (wSm D m pp rr s1 x1))))) rfl ?_
          have hSa := hSq
          refine k_iadd hC 106 dL_law_106 ?_
          refine k_istore hC 107 8 [(8, .int ((hiS s1) + (miS s1))), (7, .int (nI (plS s1))), (6, .int (nI (s1.1.length + s1.2.1.length))), (5, .int (nI kd)), (4, .int ((cv >>> ((nI ((i / 16) * 3)) &&& 31)) + (nI (373 * i)))), (3, .int (nI i)), (2, .ref m), (1, .ref q0), (0, .ref bb)] dL_law_107 (by decide) rfl ?_
          refine k_aload_n hC 109 dL_law_109 rfl ?_
          refine k_bipush hC 110 dL_law_110 (nI 9) (by decide) ?_
          refine g_callV hC hX 112 0 ([]) (wSm D m pp rr s1 x1) (fun uq => ((q0, .inr (3, [.ref (a 0), .ref (b 0)])) :: (wSt D a uq.1.1 uq.1.2 ++ (wSt D b uq.2.1 uq.2.2 ++ (wSm D m pp rr s1 x1))))) (c_X3_count l hfl D q0 a b s1 sbq gaq gbq (nI 9) hSa hW1) cw_RL_97 dL_law_112 ⟨Nat.le_of_ble_eq_true rfl, Nat.le_of_ble_eq_true rfl, (show 205028 + 3170 * i + 0 + 2770 + 0 + 1 + 1 + 1 + 1 + 1 + 1 ≤ 600130 by omega), (show 2665372 + 39010 * i + 0 + 36010 + 0 + 6 + 6 + 6 + 6 + 6 + 6 ≤ 7301080 by omega)⟩ rfl (Nat.le_of_ble_eq_true rfl) rfl rfl rfl (by simp only [List.append_assoc, List.cons_append, List.nil_append, List.append_nil]) (fun _ => rfl) (fun _ => by simp only [List.append_assoc, List.cons_append, List.nil_append, List.append_nil]) _ rfl (fun v uq hp => ?_) (fun E hx => absurd hx (no_x (countK0 (by decide))))
          obtain ⟨-, rfl, euq, hSq⟩ := hp
          refine KJ.eqs (st' := .int (ct s1 (kn (nI 9))) :: []) rfl ?_
          refine KJ.topi (y := (loS s1)) (by rw [kn_ek (by decide)]; rfl) ?_
          obtain ⟨⟨saq, gaq⟩, sbq, gbq⟩ := uq
          dsimp only at euq hSq
          have euq2 := euq.symm
          subst euq2
          refine KJ.eqw (ws' := ((q0, .inr (3, [.ref (a 0), .ref (b 0)])) :: (wSt D a s1 gaq ++ (wSt D b sbq gbq ++ (wSm D m pp rr s1 x1))))) rfl ?_
          have hSa := hSq
          refine k_istore hC 115 9 [(9, .int (loS s1)), (8, .int ((hiS s1) + (miS s1))), (7, .int (nI (plS s1))), (6, .int (nI (s1.1.length + s1.2.1.length))), (5, .int (nI kd)), (4, .int ((cv >>> ((nI ((i / 16) * 3)) &&& 31)) + (nI (373 * i)))), (3, .int (nI i)), (2, .ref m), (1, .ref q0), (0, .ref bb)] dL_law_115 (by decide) rfl ?_
          refine k_bipush hC 117 dL_law_117 (nI 40) (by decide) ?_
          refine k_newarrZ hC 119 40 wq_1_3 dL_law_119 (by decide) (by decide) ⟨(show 205028 + 3170 * i + 0 + 2770 + 0 + 1 + 1 + 1 + 1 + 1 + 1 + 1 ≤ 600130 by omega), (show 2665372 + 39010 * i + 0 + 36010 + 0 + 6 + 6 + 6 + 6 + 6 + 6 + (40) ≤ 7301080 by omega)⟩ (fun q119 => ?_)
          refine KJ.eqw (ws' := ((q0, .inr (3, [.ref (a 0), .ref (b 0)])) :: (wSt D a s1 gaq ++ (wSt D b sbq gbq ++ (wSm D m pp rr s1 x1 ++ ((q119, .inl (D.1 21, 40, .inl (fun _ => 0))) :: [])))))) rfl ?_
          refine KJ.mv ((q0, .inr (3, [.ref (a 0), .ref (b 0)])) :: (wSt D a s1 gaq ++ wSt D b sbq gbq)) (wSm D m pp rr s1 x1) (q119, .inl (D.1 21, 40, .inl (fun _ => 0))) (by simp only [List.append_assoc, List.cons_append, List.nil_append]) (by simp only [List.append_assoc, List.cons_append, List.nil_append]) (ws' := ((q0, .inr (3, [.ref (a 0), .ref (b 0)])) :: (wSt D a s1 gaq ++ (wSt D b sbq gbq ++ ((q119, .inl (D.1 21, 40, .inl (fun _ => 0))) :: (wSm D m pp rr s1 x1)))))) ?_
          refine k_astore hC 121 10 [(10, .ref q119), (9, .int (loS s1)), (8, .int ((hiS s1) + (miS s1))), (7, .int (nI (plS s1))), (6, .int (nI (s1.1.length + s1.2.1.length))), (5, .int (nI kd)), (4, .int ((cv >>> ((nI ((i / 16) * 3)) &&& 31)) + (nI (373 * i)))), (3, .int (nI i)), (2, .ref m), (1, .ref q0), (0, .ref bb)] dL_law_121 (by decide) rfl ?_
          refine k_bipush hC 123 dL_law_123 (nI 40) (by decide) ?_
          refine k_newarrZ hC 125 40 wq_1_3 dL_law_125 (by decide) (by decide) ⟨(show 205028 + 3170 * i + 0 + 2770 + 0 + 1 + 1 + 1 + 1 + 1 + 1 + 1 + 1 ≤ 600130 by omega), (show 2665372 + 39010 * i + 0 + 36010 + 0 + 6 + 6 + 6 + 6 + 6 + 6 + 40 + (40) ≤ 7301080 by omega)⟩ (fun q125 => ?_)
          refine KJ.eqw (ws' := ((q0, .inr (3, [.ref (a 0), .ref (b 0)])) :: (wSt D a s1 gaq ++ (wSt D b sbq gbq ++ ((q119, .inl (D.1 21, 40, .inl (fun _ => 0))) :: (wSm D m pp rr s1 x1 ++ ((q125, .inl (D.1 21, 40, .inl (fun _ => 0))) :: []))))))) rfl ?_
          refine KJ.mv ((q0, .inr (3, [.ref (a 0), .ref (b 0)])) :: (wSt D a s1 gaq ++ (wSt D b sbq gbq ++ ((q119, .inl (D.1 21, 40, .inl (fun _ => 0))) :: [])))) (wSm D m pp rr s1 x1) (q125, .inl (D.1 21, 40, .inl (fun _ => 0))) (by simp only [List.append_assoc, List.cons_append, List.nil_append]) (by simp only [List.append_assoc, List.cons_append, List.nil_append]) (ws' := ((q0, .inr (3, [.ref (a 0), .ref (b 0)])) :: (wSt D a s1 gaq ++ (wSt D b sbq gbq ++ ((q119, .inl (D.1 21, 40, .inl (fun _ => 0))) :: ((q125, .inl (D.1 21, 40, .inl (fun _ => 0))) :: (wSm D m pp rr s1 x1))))))) ?_
          refine k_astore hC 127 11 [(11, .ref q125), (10, .ref q119), (9, .int (loS s1)), (8, .int ((hiS s1) + (miS s1))), (7, .int (nI (plS s1))), (6, .int (nI (s1.1.length + s1.2.1.length))), (5, .int (nI kd)), (4, .int ((cv >>> ((nI ((i / 16) * 3)) &&& 31)) + (nI (373 * i)))), (3, .int (nI i)), (2, .ref m), (1, .ref q0), (0, .ref bb)] dL_law_127 (by decide) rfl ?_
          refine k_iconst hC 129 dL_law_129 (nI 0) (by decide) ?_
          refine k_istore hC 130 12 [(12, .int (nI 0)), (11, .ref q125), (10, .ref q119), (9, .int (loS s1)), (8, .int ((hiS s1) + (miS s1))), (7, .int (nI (plS s1))), (6, .int (nI (s1.1.length + s1.2.1.length))), (5, .int (nI kd)), (4, .int ((cv >>> ((nI ((i / 16) * 3)) &&& 31)) + (nI (373 * i)))), (3, .int (nI i)), (2, .ref m), (1, .ref q0), (0, .ref bb)] dL_law_130 (by decide) rfl ?_
          refine KJ.eqw (ws' := ((q0, .inr (3, [.ref (a 0), .ref (b 0)])) :: (wSt D a s1 gaq ++ (wSt D b sbq gbq ++ ((q119, .inl (D.1 21, 40, .inl (cpf (wB s1) (fun _ => 0) 0))) :: ((q125, .inl (D.1 21, 40, .inl (cpf (pB s1) (fun _ => 0) 0))) :: (wSm D m pp rr s1 x1))))))) (by rw [cpf_0, cpf_0]) ?_
          have loop132 : ∀ (nn132 : Nat) (k : Nat) (ga : PG) (sb : PS) (gb : PG), 40 - k < nn132 → k ≤ 40 → SR s1 ga → KJ l G D room_1 16 (205028 + 3170 * i + 0 + 2770 + 0 + 1 + 1 + 1 + 1 + 1 + 1 + 1 + 1 + 4 * k) (2665372 + 39010 * i + 0 + 36010 + 0 + 6 + 6 + 6 + 6 + 6 + 6 + 40 + 40 + 24 * k) ((q0, .inr (3, [.ref (a 0), .ref (b 0)])) :: (wSt D a s1 ga ++ (wSt D b sb gb ++ ((q119, .inl (D.1 21, 40, .inl (cpf (wB s1) (fun _ => 0) k))) :: ((q125, .inl (D.1 21, 40, .inl (cpf (pB s1) (fun _ => 0) k))) :: (wSm D m pp rr s1 x1)))))) [(12, .int (nI k)), (11, .ref q125), (10, .ref q119), (9, .int (loS s1)), (8, .int ((hiS s1) + (miS s1))), (7, .int (nI (plS s1))), (6, .int (nI (s1.1.length + s1.2.1.length))), (5, .int (nI kd)), (4, .int ((cv >>> ((nI ((i / 16) * 3)) &&& 31)) + (nI (373 * i)))), (3, .int (nI i)), (2, .ref m), (1, .ref q0), (0, .ref bb)] 132 ([]) := by
            intro nn132
            induction nn132 with
            | zero => intro k ga sb gb h; exact absurd h (Nat.not_lt_zero _)
            | succ nn132 ih132 =>
              intro k ga sb gb hn132 hk40 hSa
              refine k_iload hC 132 dL_law_132 rfl ?_
              refine k_bipush hC 134 dL_law_134 (nI 40) (by decide) ?_
              refine n_icmp_ge hC 136 185 dL_law_136 (by decide) (by omega) (by omega) (fun h136 => ?_) (fun h136 => ?_)
              · skip
                obtain rfl : k = 40 := by omega
                refine KJ.lvp [1, 2, 3, 4, 5, 6, 7, 8, 9, 10, 11, 12] rfl ?_
                obtain ⟨gx, fA, fB, fC, fD, hc⟩ := fetch_f hW1 hI1 kd
                have hWT := br_wf hW1 hkd
                have hIT := br_ij hW1 kd hI1
                have hj12T : (br s1 kd).1.length + (br s1 kd).2.1.length ≤ 12 := jrs_12 hWT
                have hpT : pnd (br s1 kd) ≤ (br s1 kd).1.length + (br s1 kd).2.1.length := pnd_jr _
                rcases hc with ⟨h0, hin, hT, hsum, hlo, hjr, hgx⟩ | ⟨h4, hin, hsum, hlo, hjr, hgx⟩ | ⟨h0, h4, hin, hT, hsum, ⟨hful, hlo, hjr, hgx⟩ | ⟨hful, ⟨i0, hi1, hi3, hlo⟩, hjr, hgx⟩⟩
                · skip
                  have hjT : (br s1 kd).1.length + (br s1 kd).2.1.length = s1.1.length + s1.2.1.length := hjr
                  refine k_aload_n hC 185 dL_law_185 rfl ?_
                  refine k_iload hC 186 dL_law_186 rfl ?_
                  refine hf_callS (n := 2) hC hX 188 [] ((q119, .inl (D.1 21, 40, .inl (cpf (wB s1) (fun _ => 0) 40))) :: ((q125, .inl (D.1 21, 40, .inl (cpf (pB s1) (fun _ => 0) 40))) :: (wSm D m pp rr s1 x1))) (fun u => ((q0, .inr (3, [.ref (a 0), .ref (b 0)])) :: (wSt D a u.1.1 u.1.2 ++ (wSt D b u.2.1 u.2.2 ++ ((q119, .inl (D.1 21, 40, .inl (cpf (wB s1) (fun _ => 0) 40))) :: ((q125, .inl (D.1 21, 40, .inl (cpf (pB s1) (fun _ => 0) 40))) :: (wSm D m pp rr s1 x1))))))) (h_fetch l hfl D q0 a b s1 sb ga gb kd hSa hW1 hkd) wq_13_11 wq_13_12 wq_2_23 wq_13_13 ⟨by decide, by decide, by decide +kernel⟩ dL_law_188 ⟨Nat.le_of_ble_eq_true rfl, Nat.le_of_ble_eq_true rfl, (show 205028 + 3170 * i + 0 + 2770 + 0 + 1 + 1 + 1 + 1 + 1 + 1 + 1 + 1 + 4 * 40 + 2 ≤ 600130 by omega), (show 2665372 + 39010 * i + 0 + 36010 + 0 + 6 + 6 + 6 + 6 + 6 + 6 + 40 + 40 + 24 * 40 + 12 ≤ 7301080 by omega)⟩ rfl (Nat.le_of_ble_eq_true rfl) (by simp only [List.append_assoc, List.cons_append, List.nil_append]) (fun _ => rfl) (fun _ => by simp only [List.append_assoc, List.cons_append, List.nil_append]) _ rfl (fun v u hp => ?_)
                  obtain ⟨rfl, eu, hSu⟩ := hp
                  refine KJ.eqs (st' := .int (ocI (oc s1 kd)) :: []) rfl ?_
                  refine KJ.topi (y := (nI 0)) (by rw [h0]; rfl) ?_
                  obtain ⟨⟨saq, gaq⟩, sbq, gbq⟩ := u
                  dsimp only at eu hSu
                  subst eu
                  have hSa := hSu
                  refine KJ.eqw (ws' := ((q0, .inr (3, [.ref (a 0), .ref (b 0)])) :: (wSt D a (br s1 kd) gaq ++ (wSt D b sbq gbq ++ ((q119, .inl (D.1 21, 40, .inl (cpf (wB s1) (fun _ => 0) 40))) :: ((q125, .inl (D.1 21, 40, .inl (cpf (pB s1) (fun _ => 0) 40))) :: (wSm D m pp rr s1 x1))))))) rfl ?_
                  refine k_istore hC 191 12 [(12, .int (nI 0)), (11, .ref q125), (10, .ref q119), (9, .int (loS s1)), (8, .int ((hiS s1) + (miS s1))), (7, .int (nI (plS s1))), (6, .int (nI (s1.1.length + s1.2.1.length))), (5, .int (nI kd)), (4, .int ((cv >>> ((nI ((i / 16) * 3)) &&& 31)) + (nI (373 * i)))), (3, .int (nI i)), (2, .ref m), (1, .ref q0), (0, .ref bb)] dL_law_191 (by decide) rfl ?_
                  refine k_aload_n hC 193 dL_law_193 rfl ?_
                  refine k_iload hC 194 dL_law_194 rfl ?_
                  refine fp_callVe hC 196 33 ((q0, .inr (3, [.ref (a 0), .ref (b 0)])) :: (wSt D a (br s1 kd) gaq ++ (wSt D b sbq gbq ++ ((q119, .inl (D.1 21, 40, .inl (cpf (wB s1) (fun _ => 0) 40))) :: ((q125, .inl (D.1 21, 40, .inl (cpf (pB s1) (fun _ => 0) 40))) :: []))))) (fun u3 => ((q0, .inr (3, [.ref (a 0), .ref (b 0)])) :: (wSt D a (br s1 kd) gaq ++ (wSt D b sbq gbq ++ ((q119, .inl (D.1 21, 40, .inl (cpf (wB s1) (fun _ => 0) 40))) :: ((q125, .inl (D.1 21, 40, .inl (cpf (pB s1) (fun _ => 0) 40))) :: (wSm D m pp rr (br s1 kd) u3))))))) (f_sim_fetch l D m pp rr s1 x1 kd hW1 hJ1 hI1 hkd) cw_RL_82 dL_law_196 ⟨Nat.le_of_ble_eq_true rfl, Nat.le_of_ble_eq_true rfl, (show 205028 + 3170 * i + 0 + 2770 + 0 + 1 + 1 + 1 + 1 + 1 + 1 + 1 + 1 + 4 * 40 + 2 + 92 ≤ 600130 by omega), (show 2665372 + 39010 * i + 0 + 36010 + 0 + 6 + 6 + 6 + 6 + 6 + 6 + 40 + 40 + 24 * 40 + 12 + 1196 ≤ 7301080 by omega)⟩ rfl (Nat.le_of_ble_eq_true rfl) rfl rfl rfl (by simp only [List.append_assoc, List.cons_append, List.nil_append, List.append_nil]) (fun _ u hp => wSm_le hp.2.2) (fun _ => by simp only [List.append_assoc, List.cons_append, List.nil_append, List.append_nil]) _ rfl (fun v u3 hp => ?_)
                  obtain ⟨rfl, hJ3, hL3⟩ := hp
                  refine KJ.eqs (st' := .int (ocI (oc s1 kd)) :: []) rfl ?_
                  refine KJ.topi (y := (nI 0)) (by rw [h0]; rfl) ?_
                  refine k_iload hC 199 dL_law_199 rfl ?_
                  refine n_icmp_ne hC 201 251 dL_law_201 (by decide) (by omega) (by omega) (fun h201 => ?_) (fun h201 => ?_)
                  · skip
                    exact absurd rfl h201
                  · skip
                    refine k_iload hC 204 dL_law_204 rfl ?_
                    refine n_if_ne hC 206 213 dL_law_206 (by decide) (by omega) (fun h206 => ?_) (fun h206 => ?_)
                    · skip
                      exact absurd h206 (by decide)
                    · skip
                      refine k_iconst hC 209 dL_law_209 (nI 1) (by decide) ?_
                      refine k_goto hC 210 214 dL_law_210 (by decide) ?_
                      refine k_aload hC 214 dL_law_214 rfl ?_
                      refine k_iload hC 216 dL_law_216 rfl ?_
                      refine n_zald hC 218 31 (nI 1) dL_law_218 rfl (by omega) (by decide) ((cpf_in hkd).trans (wB_in hin)) ?_
                      refine n_icmp_ne hC 219 251 dL_law_219 (by decide) (by omega) (by omega) (fun h219 => ?_) (fun h219 => ?_)
                      · skip
                        exact absurd h219 (by decide)
                      · skip
                        refine k_aload_n hC 222 dL_law_222 rfl ?_
                        refine k_bipush hC 223 dL_law_223 (nI 6) (by decide) ?_
                        refine g_callV hC hX 225 0 ([]) ((q119, .inl (D.1 21, 40, .inl (cpf (wB s1) (fun _ => 0) 40))) :: ((q125, .inl (D.1 21, 40, .inl (cpf (pB s1) (fun _ => 0) 40))) :: (wSm D m pp rr (br s1 kd) u3))) (fun uq => ((q0, .inr (3, [.ref (a 0), .ref (b 0)])) :: (wSt D a uq.1.1 uq.1.2 ++ (wSt D b uq.2.1 uq.2.2 ++ ((q119, .inl (D.1 21, 40, .inl (cpf (wB s1) (fun _ => 0) 40))) :: ((q125, .inl (D.1 21, 40, .inl (cpf (pB s1) (fun _ => 0) 40))) :: (wSm D m pp rr (br s1 kd) u3))))))) (c_X3_count l hfl D q0 a b (br s1 kd) sbq gaq gbq (nI 6) hSa hWT) cw_RL_97 dL_law_225 ⟨Nat.le_of_ble_eq_true rfl, Nat.le_of_ble_eq_true rfl, (show 205028 + 3170 * i + 0 + 2770 + 0 + 1 + 1 + 1 + 1 + 1 + 1 + 1 + 1 + 4 * 40 + 2 + 92 + 1 ≤ 600130 by omega), (show 2665372 + 39010 * i + 0 + 36010 + 0 + 6 + 6 + 6 + 6 + 6 + 6 + 40 + 40 + 24 * 40 + 12 + 1196 + 6 ≤ 7301080 by omega)⟩ rfl (Nat.le_of_ble_eq_true rfl) rfl rfl rfl (by simp only [List.append_assoc, List.cons_append, List.nil_append, List.append_nil]) (fun _ => rfl) (fun _ => by simp only [List.append_assoc, List.cons_append, List.nil_append, List.append_nil]) _ rfl (fun v uq hp => ?_) (fun E hx => absurd hx (no_x (countK0 (by decide))))
                        obtain ⟨-, rfl, euq, hSq⟩ := hp
                        refine KJ.eqs (st' := .int (ct (br s1 kd) (kn (nI 6))) :: []) rfl ?_
                        refine KJ.topi (y := (hiS (br s1 kd))) (by rw [kn_ek (by decide)]; rfl) ?_
                        obtain ⟨⟨saq, gaq⟩, sbq, gbq⟩ := uq
                        dsimp only at euq hSq
                        have euq2 := euq.symm
                        subst euq2
                        refine KJ.eqw (ws' := ((q0, .inr (3, [.ref (a 0), .ref (b 0)])) :: (wSt D a (br s1 kd) gaq ++ (wSt D b sbq gbq ++ ((q119, .inl (D.1 21, 40, .inl (cpf (wB s1) (fun _ => 0) 40))) :: ((q125, .inl (D.1 21, 40, .inl (cpf (pB s1) (fun _ => 0) 40))) :: (wSm D m pp rr (br s1 kd) u3))))))) rfl ?_
                        have hSa := hSq
                        refine k_aload_n hC 228 dL_law_228 rfl ?_
                        refine k_bipush hC 229 dL_law_229 (nI 7) (by decide) ?_
                        refine g_callV hC hX 231 0 ([]) ((q119, .inl (D.1 21, 40, .inl (cpf (wB s1) (fun _ => 0) 40))) :: ((q125, .inl (D.1 21, 40, .inl (cpf (pB s1) (fun _ => 0) 40))) :: (wSm D m pp rr (br s1 kd) u3))) (fun uq => ((q0, .inr (3, [.ref (a 0), .ref (b 0)])) :: (wSt D a uq.1.1 uq.1.2 ++ (wSt D b uq.2.1 uq.2.2 ++ ((q119, .inl (D.1 21, 40, .inl (cpf (wB s1) (fun _ => 0) 40))) :: ((q125, .inl (D.1 21, 40, .inl (cpf (pB s1) (fun _ => 0) 40))) :: (wSm D m pp rr (br s1 kd) u3))))))) (c_X3_count l hfl D q0 a b (br s1 kd) sbq gaq gbq (nI 7) hSa hWT) cw_RL_97 dL_law_231 ⟨Nat.le_of_ble_eq_true rfl, Nat.le_of_ble_eq_true rfl, (show 205028 + 3170 * i + 0 + 2770 + 0 + 1 + 1 + 1 + 1 + 1 + 1 + 1 + 1 + 4 * 40 + 2 + 92 + 1 + 1 ≤ 600130 by omega), (show 2665372 + 39010 * i + 0 + 36010 + 0 + 6 + 6 + 6 + 6 + 6 + 6 + 40 + 40 + 24 * 40 + 12 + 1196 + 6 + 6 ≤ 7301080 by omega)⟩ rfl (Nat.le_of_ble_eq_true rfl) rfl rfl rfl (by simp only [List.append_assoc, List.cons_append, List.nil_append, List.append_nil]) (fun _ => rfl) (fun _ => by simp only [List.append_assoc, List.cons_append, List.nil_append, List.append_nil]) _ rfl (fun v uq hp => ?_) (fun E hx => absurd hx (no_x (countK0 (by decide))))
                        obtain ⟨-, rfl, euq, hSq⟩ := hp
                        refine KJ.eqs (st' := .int (ct (br s1 kd) (kn (nI 7))) :: .int (hiS (br s1 kd)) :: []) rfl ?_
                        refine KJ.topi (y := (miS (br s1 kd))) (by rw [kn_ek (by decide)]; rfl) ?_
                        obtain ⟨⟨saq, gaq⟩, sbq, gbq⟩ := uq
                        dsimp only at euq hSq
                        have euq2 := euq.symm
                        subst euq2
                        refine KJ.eqw (ws' := ((q0, .inr (3, [.ref (a 0), .ref (b 0)])) :: (wSt D a (br s1 kd) gaq ++ (wSt D b sbq gbq ++ ((q119, .inl (D.1 21, 40, .inl (cpf (wB s1) (fun _ => 0) 40))) :: ((q125, .inl (D.1 21, 40, .inl (cpf (pB s1) (fun _ => 0) 40))) :: (wSm D m pp rr (br s1 kd) u3))))))) rfl ?_
                        have hSa := hSq
                        refine k_iadd hC 234 dL_law_234 ?_
                        refine k_iload hC 235 dL_law_235 rfl ?_
                        refine k_iload hC 237 dL_law_237 rfl ?_
                        refine n_if_ge hC 239 246 dL_law_239 (by decide) (by omega) (fun h239 => ?_) (fun h239 => ?_)
                        · skip
                          refine k_iconst hC 246 dL_law_246 (nI 1) (by decide) ?_
                          refine k_iadd hC 247 dL_law_247 ?_
                          refine KJ.topi (y := hiS (br s1 kd) + miS (br s1 kd)) (by rw [hsum]; rfl) ?_
                          refine k_icmp_eq hC 248 253 dL_law_248 (by decide) (fun h248 => ?_) (fun h248 => ?_)
                          · skip
                            refine k_iload hC 253 dL_law_253 rfl ?_
                            refine n_if_ge hC 255 269 dL_law_255 (by decide) (by omega) (fun h255 => ?_) (fun h255 => ?_)
                            · skip
                              refine k_iload hC 269 dL_law_269 rfl ?_
                              refine n_if_lt hC 271 286 dL_law_271 (by decide) (by omega) (fun h271 => ?_) (fun h271 => ?_)
                              · skip
                                exact absurd h271 (by decide)
                              · skip
                                refine k_aload_n hC 274 dL_law_274 rfl ?_
                                refine k_iload hC 275 dL_law_275 rfl ?_
                                refine k_iconst hC 277 dL_law_277 (nI 0) (by decide) ?_
                                refine g_callV hC hX 278 0 ([]) ((q119, .inl (D.1 21, 40, .inl (cpf (wB s1) (fun _ => 0) 40))) :: ((q125, .inl (D.1 21, 40, .inl (cpf (pB s1) (fun _ => 0) 40))) :: (wSm D m pp rr (br s1 kd) u3))) (fun uq => ((q0, .inr (3, [.ref (a 0), .ref (b 0)])) :: (wSt D a uq.1.1 uq.1.2 ++ (wSt D b uq.2.1 uq.2.2 ++ ((q119, .inl (D.1 21, 40, .inl (cpf (wB s1) (fun _ => 0) 40))) :: ((q125, .inl (D.1 21, 40, .inl (cpf (pB s1) (fun _ => 0) 40))) :: (wSm D m pp rr (br s1 kd) u3))))))) (c_X3_jar l hfl D q0 a b (br s1 kd) sbq gaq gbq (nI kd) (nI 0) hSa hWT) cw_RL_100 dL_law_278 ⟨Nat.le_of_ble_eq_true rfl, Nat.le_of_ble_eq_true rfl, (show 205028 + 3170 * i + 0 + 2770 + 0 + 1 + 1 + 1 + 1 + 1 + 1 + 1 + 1 + 4 * 40 + 2 + 92 + 1 + 1 + 2 ≤ 600130 by omega), (show 2665372 + 39010 * i + 0 + 36010 + 0 + 6 + 6 + 6 + 6 + 6 + 6 + 40 + 40 + 24 * 40 + 12 + 1196 + 6 + 6 + 12 ≤ 7301080 by omega)⟩ rfl (Nat.le_of_ble_eq_true rfl) rfl rfl rfl (by simp only [List.append_assoc, List.cons_append, List.nil_append, List.append_nil]) (fun _ => rfl) (fun _ => by simp only [List.append_assoc, List.cons_append, List.nil_append, List.append_nil]) _ rfl (fun v uq hp => ?_) (fun E hx => absurd hx (no_x (jarK0 hkd (by decide))))
                                obtain ⟨-, rfl, euq, hSq⟩ := hp
                                refine KJ.eqs (st' := .int (dtl (br s1 kd) (kn (nI kd)) (kn (nI 0))) :: []) rfl ?_
                                refine KJ.topi (y := (dtl (br s1 kd) kd 0)) (by rw [kn_ek hkd, kn_ek (by decide)]) ?_
                                obtain ⟨⟨saq, gaq⟩, sbq, gbq⟩ := uq
                                dsimp only at euq hSq
                                have euq2 := euq.symm
                                subst euq2
                                refine KJ.eqw (ws' := ((q0, .inr (3, [.ref (a 0), .ref (b 0)])) :: (wSt D a (br s1 kd) gaq ++ (wSt D b sbq gbq ++ ((q119, .inl (D.1 21, 40, .inl (cpf (wB s1) (fun _ => 0) 40))) :: ((q125, .inl (D.1 21, 40, .inl (cpf (pB s1) (fun _ => 0) 40))) :: (wSm D m pp rr (br s1 kd) u3))))))) rfl ?_
                                have hSa := hSq
                                refine k_if_ge hC 281 286 dL_law_281 (by decide) (fun h281 => ?_) (fun h281 => ?_)
                                · skip
                                  refine k_iconst hC 286 dL_law_286 (nI 0) (by decide) ?_
                                  refine k_istore hC 287 13 [(13, .int (nI 0)), (12, .int (nI 0)), (11, .ref q125), (10, .ref q119), (9, .int (loS s1)), (8, .int ((hiS s1) + (miS s1))), (7, .int (nI (plS s1))), (6, .int (nI (s1.1.length + s1.2.1.length))), (5, .int (nI kd)), (4, .int ((cv >>> ((nI ((i / 16) * 3)) &&& 31)) + (nI (373 * i)))), (3, .int (nI i)), (2, .ref m), (1, .ref q0), (0, .ref bb)] dL_law_287 (by decide) rfl ?_
                                  refine k_iconst hC 289 dL_law_289 (nI 0) (by decide) ?_
                                  refine k_istore hC 290 14 [(14, .int (nI 0)), (13, .int (nI 0)), (12, .int (nI 0)), (11, .ref q125), (10, .ref q119), (9, .int (loS s1)), (8, .int ((hiS s1) + (miS s1))), (7, .int (nI (plS s1))), (6, .int (nI (s1.1.length + s1.2.1.length))), (5, .int (nI kd)), (4, .int ((cv >>> ((nI ((i / 16) * 3)) &&& 31)) + (nI (373 * i)))), (3, .int (nI i)), (2, .ref m), (1, .ref q0), (0, .ref bb)] dL_law_290 (by decide) rfl ?_
                                  refine KJ.eql (lv' := [(14, .int (nI 0)), (13, .int (nI (if gx < 0 then 1 else 0))), (12, .int (nI 0)), (11, .ref q125), (10, .ref q119), (9, .int (loS s1)), (8, .int ((hiS s1) + (miS s1))), (7, .int (nI (plS s1))), (6, .int (nI (s1.1.length + s1.2.1.length))), (5, .int (nI kd)), (4, .int ((cv >>> ((nI ((i / 16) * 3)) &&& 31)) + (nI (373 * i)))), (3, .int (nI i)), (2, .ref m), (1, .ref q0), (0, .ref bb)]) (by rw [if_neg (Nat.not_lt_zero gx)]) ?_
                                  have loop292 : ∀ (nn292 : Nat) (k : Nat) (ga : PG) (sb : PS) (gb : PG), 40 - k < nn292 → k ≤ 40 → SR (br s1 kd) ga → KJ l G D room_1 16 (205028 + 3170 * i + 0 + 2770 + 0 + 1 + 1 + 1 + 1 + 1 + 1 + 1 + 1 + 4 * 40 + 2 + 92 + 1 + 1 + 2 + 2 * k) (2665372 + 39010 * i + 0 + 36010 + 0 + 6 + 6 + 6 + 6 + 6 + 6 + 40 + 40 + 24 * 40 + 12 + 1196 + 6 + 6 + 12 + 12 * k) ((q0, .inr (3, [.ref (a 0), .ref (b 0)])) :: (wSt D a (br s1 kd) ga ++ (wSt D b sb gb ++ ((q119, .inl (D.1 21, 40, .inl (cpf (wB s1) (fun _ => 0) 40))) :: ((q125, .inl (D.1 21, 40, .inl (cpf (pB s1) (fun _ => 0) 40))) :: (wSm D m pp rr (br s1 kd) u3)))))) [(14, .int (nI k)), (13, .int (nI (if gx < k then 1 else 0))), (12, .int (nI 0)), (11, .ref q125), (10, .ref q119), (9, .int (loS s1)), (8, .int ((hiS s1) + (miS s1))), (7, .int (nI (plS s1))), (6, .int (nI (s1.1.length + s1.2.1.length))), (5, .int (nI kd)), (4, .int ((cv >>> ((nI ((i / 16) * 3)) &&& 31)) + (nI (373 * i)))), (3, .int (nI i)), (2, .ref m), (1, .ref q0), (0, .ref bb)] 292 ([]) := by
                                    intro nn292
                                    induction nn292 with
                                    | zero => intro k ga sb gb h; exact absurd h (Nat.not_lt_zero _)
                                    | succ nn292 ih292 =>
                                      intro k ga sb gb hn292 hk40 hSa
                                      refine k_iload hC 292 dL_law_292 rfl ?_
                                      refine k_bipush hC 294 dL_law_294 (nI 40) (by decide) ?_
                                      refine n_icmp_ge hC 296 373 dL_law_296 (by decide) (by omega) (by omega) (fun h296 => ?_) (fun h296 => ?_)
                                      · skip
                                        obtain rfl : k = 40 := by omega
                                        refine KJ.eql (lv' := [(14, .int (nI 40)), (13, .int (nI 0)), (12, .int (nI 0)), (11, .ref q125), (10, .ref q119), (9, .int (loS s1)), (8, .int ((hiS s1) + (miS s1))), (7, .int (nI (plS s1))), (6, .int (nI (s1.1.length + s1.2.1.length))), (5, .int (nI kd)), (4, .int ((cv >>> ((nI ((i / 16) * 3)) &&& 31)) + (nI (373 * i)))), (3, .int (nI i)), (2, .ref m), (1, .ref q0), (0, .ref bb)]) (by rw [if_neg (by omega)]) ?_
                                        refine k_iload hC 373 dL_law_373 rfl ?_
                                        refine n_if_le hC 375 389 dL_law_375 (by decide) (by omega) (fun h375 => ?_) (fun h375 => ?_)
                                        · skip
                                          refine k_iconst hC 389 dL_law_389 (nI 0) (by decide) ?_
                                          refine k_istore hC 390 14 [(14, .int (nI 0)), (13, .int (nI 0)), (12, .int (nI 0)), (11, .ref q125), (10, .ref q119), (9, .int (loS s1)), (8, .int ((hiS s1) + (miS s1))), (7, .int (nI (plS s1))), (6, .int (nI (s1.1.length + s1.2.1.length))), (5, .int (nI kd)), (4, .int ((cv >>> ((nI ((i / 16) * 3)) &&& 31)) + (nI (373 * i)))), (3, .int (nI i)), (2, .ref m), (1, .ref q0), (0, .ref bb)] dL_law_390 (by decide) rfl ?_
                                          refine k_iload hC 392 dL_law_392 rfl ?_
                                          refine k_iload hC 394 dL_law_394 rfl ?_
                                          refine n_if_eq hC 396 403 dL_law_396 (by decide) (by omega) (fun h396 => ?_) (fun h396 => ?_)
                                          · skip
                                            refine k_iconst hC 403 dL_law_403 (nI 0) (by decide) ?_
                                            refine n_icmp_ne hC 404 448 dL_law_404 (by decide) (by omega) (by omega) (fun h404 => ?_) (fun h404 => ?_)
                                            · skip
                                              exact absurd h404 (by decide)
                                            · skip
                                              refine k_aload_n hC 407 dL_law_407 rfl ?_
                                              refine k_bipush hC 408 dL_law_408 (nI 9) (by decide) ?_
                                              refine g_callV hC hX 410 0 ([]) ((q119, .inl (D.1 21, 40, .inl (cpf (wB s1) (fun _ => 0) 40))) :: ((q125, .inl (D.1 21, 40, .inl (cpf (pB s1) (fun _ => 0) 40))) :: (wSm D m pp rr (br s1 kd) u3))) (fun uq => ((q0, .inr (3, [.ref (a 0), .ref (b 0)])) :: (wSt D a uq.1.1 uq.1.2 ++ (wSt D b uq.2.1 uq.2.2 ++ ((q119, .inl (D.1 21, 40, .inl (cpf (wB s1) (fun _ => 0) 40))) :: ((q125, .inl (D.1 21, 40, .inl (cpf (pB s1) (fun _ => 0) 40))) :: (wSm D m pp rr (br s1 kd) u3))))))) (c_X3_count l hfl D q0 a b (br s1 kd) sb ga gb (nI 9) hSa hWT) cw_RL_97 dL_law_410 ⟨Nat.le_of_ble_eq_true rfl, Nat.le_of_ble_eq_true rfl, (show 205028 + 3170 * i + 0 + 2770 + 0 + 1 + 1 + 1 + 1 + 1 + 1 + 1 + 1 + 4 * 40 + 2 + 92 + 1 + 1 + 2 + 2 * 40 + 1 ≤ 600130 by omega), (show 2665372 + 39010 * i + 0 + 36010 + 0 + 6 + 6 + 6 + 6 + 6 + 6 + 40 + 40 + 24 * 40 + 12 + 1196 + 6 + 6 + 12 + 12 * 40 + 6 ≤ 7301080 by omega)⟩ rfl (Nat.le_of_ble_eq_true rfl) rfl rfl rfl (by simp only [List.append_assoc, List.cons_append, List.nil_append, List.append_nil]) (fun _ => rfl) (fun _ => by simp only [List.append_assoc, List.cons_append, List.nil_append, List.append_nil]) _ rfl (fun v uq hp => ?_) (fun E hx => absurd hx (no_x (countK0 (by decide))))
                                              obtain ⟨-, rfl, euq, hSq⟩ := hp
                                              refine KJ.eqs (st' := .int (ct (br s1 kd) (kn (nI 9))) :: []) rfl ?_
                                              refine KJ.topi (y := (loS (br s1 kd))) (by rw [kn_ek (by decide)]; rfl) ?_
                                              obtain ⟨⟨saq, gaq⟩, sbq, gbq⟩ := uq
                                              dsimp only at euq hSq
                                              have euq2 := euq.symm
                                              subst euq2
                                              refine KJ.eqw (ws' := ((q0, .inr (3, [.ref (a 0), .ref (b 0)])) :: (wSt D a (br s1 kd) gaq ++ (wSt D b sbq gbq ++ ((q119, .inl (D.1 21, 40, .inl (cpf (wB s1) (fun _ => 0) 40))) :: ((q125, .inl (D.1 21, 40, .inl (cpf (pB s1) (fun _ => 0) 40))) :: (wSm D m pp rr (br s1 kd) u3))))))) rfl ?_
                                              have hSa := hSq
                                              refine k_iload hC 413 dL_law_413 rfl ?_
                                              refine k_isub hC 415 dL_law_415 (KJ.topi (y := (nI 0)) (by rw [hlo, Int32.sub_self, nI_0]) ?_)
                                              refine k_iload hC 416 dL_law_416 rfl ?_
                                              refine n_if_eq hC 418 428 dL_law_418 (by decide) (by omega) (fun h418 => ?_) (fun h418 => ?_)
                                              · skip
                                                refine k_iconst hC 428 dL_law_428 (nI 0) (by decide) ?_
                                                refine n_icmp_gt hC 429 448 dL_law_429 (by decide) (by omega) (by omega) (fun h429 => ?_) (fun h429 => ?_)
                                                · skip
                                                  exact absurd h429 (by decide)
                                                · skip
                                                  refine k_iload hC 432 dL_law_432 rfl ?_
                                                  refine n_if_eq hC 434 450 dL_law_434 (by decide) (by omega) (fun h434 => ?_) (fun h434 => ?_)
                                                  · skip
                                                    refine k_aload_n hC 450 dL_law_450 rfl ?_
                                                    refine k_iconst hC 451 dL_law_451 (nI 1) (by decide) ?_
                                                    refine g_callV hC hX 452 0 ([]) ((q119, .inl (D.1 21, 40, .inl (cpf (wB s1) (fun _ => 0) 40))) :: ((q125, .inl (D.1 21, 40, .inl (cpf (pB s1) (fun _ => 0) 40))) :: (wSm D m pp rr (br s1 kd) u3))) (fun uq => ((q0, .inr (3, [.ref (a 0), .ref (b 0)])) :: (wSt D a uq.1.1 uq.1.2 ++ (wSt D b uq.2.1 uq.2.2 ++ ((q119, .inl (D.1 21, 40, .inl (cpf (wB s1) (fun _ => 0) 40))) :: ((q125, .inl (D.1 21, 40, .inl (cpf (pB s1) (fun _ => 0) 40))) :: (wSm D m pp rr (br s1 kd) u3))))))) (c_X3_count l hfl D q0 a b (br s1 kd) sbq gaq gbq (nI 1) hSa hWT) cw_RL_97 dL_law_452 ⟨Nat.le_of_ble_eq_true rfl, Nat.le_of_ble_eq_true rfl, (show 205028 + 3170 * i + 0 + 2770 + 0 + 1 + 1 + 1 + 1 + 1 + 1 + 1 + 1 + 4 * 40 + 2 + 92 + 1 + 1 + 2 + 2 * 40 + 1 + 1 ≤ 600130 by omega), (show 2665372 + 39010 * i + 0 + 36010 + 0 + 6 + 6 + 6 + 6 + 6 + 6 + 40 + 40 + 24 * 40 + 12 + 1196 + 6 + 6 + 12 + 12 * 40 + 6 + 6 ≤ 7301080 by omega)⟩ rfl (Nat.le_of_ble_eq_true rfl) rfl rfl rfl (by simp only [List.append_assoc, List.cons_append, List.nil_append, List.append_nil]) (fun _ => rfl) (fun _ => by simp only [List.append_assoc, List.cons_append, List.nil_append, List.append_nil]) _ rfl (fun v uq hp => ?_) (fun E hx => absurd hx (no_x (countK0 (by decide))))
                                                    obtain ⟨-, rfl, euq, hSq⟩ := hp
                                                    refine KJ.eqs (st' := .int (ct (br s1 kd) (kn (nI 1))) :: []) rfl ?_
                                                    refine KJ.topi (y := (nI ((br s1 kd).1.length))) (by rw [kn_ek (by decide)]; rfl) ?_
                                                    obtain ⟨⟨saq, gaq⟩, sbq, gbq⟩ := uq
                                                    dsimp only at euq hSq
                                                    have euq2 := euq.symm
                                                    subst euq2
                                                    refine KJ.eqw (ws' := ((q0, .inr (3, [.ref (a 0), .ref (b 0)])) :: (wSt D a (br s1 kd) gaq ++ (wSt D b sbq gbq ++ ((q119, .inl (D.1 21, 40, .inl (cpf (wB s1) (fun _ => 0) 40))) :: ((q125, .inl (D.1 21, 40, .inl (cpf (pB s1) (fun _ => 0) 40))) :: (wSm D m pp rr (br s1 kd) u3))))))) rfl ?_
                                                    have hSa := hSq
                                                    refine k_aload_n hC 455 dL_law_455 rfl ?_
                                                    refine k_iconst hC 456 dL_law_456 (nI 2) (by decide) ?_
                                                    refine g_callV hC hX 457 0 ([]) ((q119, .inl (D.1 21, 40, .inl (cpf (wB s1) (fun _ => 0) 40))) :: ((q125, .inl (D.1 21, 40, .inl (cpf (pB s1) (fun _ => 0) 40))) :: (wSm D m pp rr (br s1 kd) u3))) (fun uq => ((q0, .inr (3, [.ref (a 0), .ref (b 0)])) :: (wSt D a uq.1.1 uq.1.2 ++ (wSt D b uq.2.1 uq.2.2 ++ ((q119, .inl (D.1 21, 40, .inl (cpf (wB s1) (fun _ => 0) 40))) :: ((q125, .inl (D.1 21, 40, .inl (cpf (pB s1) (fun _ => 0) 40))) :: (wSm D m pp rr (br s1 kd) u3))))))) (c_X3_count l hfl D q0 a b (br s1 kd) sbq gaq gbq (nI 2) hSa hWT) cw_RL_97 dL_law_457 ⟨Nat.le_of_ble_eq_true rfl, Nat.le_of_ble_eq_true rfl, (show 205028 + 3170 * i + 0 + 2770 + 0 + 1 + 1 + 1 + 1 + 1 + 1 + 1 + 1 + 4 * 40 + 2 + 92 + 1 + 1 + 2 + 2 * 40 + 1 + 1 + 1 ≤ 600130 by omega), (show 2665372 + 39010 * i + 0 + 36010 + 0 + 6 + 6 + 6 + 6 + 6 + 6 + 40 + 40 + 24 * 40 + 12 + 1196 + 6 + 6 + 12 + 12 * 40 + 6 + 6 + 6 ≤ 7301080 by omega)⟩ rfl (Nat.le_of_ble_eq_true rfl) rfl rfl rfl (by simp only [List.append_assoc, List.cons_append, List.nil_append, List.append_nil]) (fun _ => rfl) (fun _ => by simp only [List.append_assoc, List.cons_append, List.nil_append, List.append_nil]) _ rfl (fun v uq hp => ?_) (fun E hx => absurd hx (no_x (countK0 (by decide))))
                                                    obtain ⟨-, rfl, euq, hSq⟩ := hp
                                                    refine KJ.eqs (st' := .int (ct (br s1 kd) (kn (nI 2))) :: .int (nI ((br s1 kd).1.length)) :: []) rfl ?_
                                                    refine KJ.topi (y := (nI ((br s1 kd).2.1.length))) (by rw [kn_ek (by decide)]; rfl) ?_
                                                    obtain ⟨⟨saq, gaq⟩, sbq, gbq⟩ := uq
                                                    dsimp only at euq hSq
                                                    have euq2 := euq.symm
                                                    subst euq2
                                                    refine KJ.eqw (ws' := ((q0, .inr (3, [.ref (a 0), .ref (b 0)])) :: (wSt D a (br s1 kd) gaq ++ (wSt D b sbq gbq ++ ((q119, .inl (D.1 21, 40, .inl (cpf (wB s1) (fun _ => 0) 40))) :: ((q125, .inl (D.1 21, 40, .inl (cpf (pB s1) (fun _ => 0) 40))) :: (wSm D m pp rr (br s1 kd) u3))))))) rfl ?_
                                                    have hSa := hSq
                                                    refine n_iadd hC 460 (((br s1 kd).1.length) + ((br s1 kd).2.1.length)) dL_law_460 rfl ?_
                                                    refine k_iload hC 461 dL_law_461 rfl ?_
                                                    refine k_iload hC 463 dL_law_463 rfl ?_
                                                    refine n_if_le hC 465 477 dL_law_465 (by decide) (by omega) (fun h465 => ?_) (fun h465 => ?_)
                                                    · skip
                                                      refine k_iconst hC 477 dL_law_477 (nI 0) (by decide) ?_
                                                      refine n_iadd hC 478 ((s1.1.length + s1.2.1.length) + 0) dL_law_478 rfl ?_
                                                      refine n_icmp_eq hC 479 484 dL_law_479 (by decide) (by omega) (by omega) (fun h479 => ?_) (fun h479 => ?_)
                                                      · skip
                                                        by_cases hpj : pnd (br s1 kd) < jrs (br s1 kd)
                                                        · skip
                                                          have hpj2 : pnd (br s1 kd) < (br s1 kd).1.length + (br s1 kd).2.1.length := hpj
                                                          have hsl : (sw (br s1 kd)).2 < 40 := inn_lt hWT (((sw_f hWT hpj).2.2.2.2.2.1 _).mp (Or.inr rfl))
                                                          refine k_aload_n hC 484 dL_law_484 rfl ?_
                                                          refine f_callV hC 485 0 ([]) ((q119, .inl (D.1 21, 40, .inl (cpf (wB s1) (fun _ => 0) 40))) :: ((q125, .inl (D.1 21, 40, .inl (cpf (pB s1) (fun _ => 0) 40))) :: (wSm D m pp rr (br s1 kd) u3))) (fun (uN : PS × PG) => ((q0, .inr (3, [.ref (a 0), .ref (b 0)])) :: (wSt D a (br s1 kd) gaq ++ (wSt D b uN.1 uN.2 ++ ((q119, .inl (D.1 21, 40, .inl (cpf (wB s1) (fun _ => 0) 40))) :: ((q125, .inl (D.1 21, 40, .inl (cpf (pB s1) (fun _ => 0) 40))) :: (wSm D m pp rr (br s1 kd) u3))))))) (c_X3_next l D q0 a b (br s1 kd) sbq gaq gbq hSa hWT) cw_RL_103 dL_law_485 ⟨Nat.le_of_ble_eq_true rfl, Nat.le_of_ble_eq_true rfl, (show 205028 + 3170 * i + 0 + 2770 + 0 + 1 + 1 + 1 + 1 + 1 + 1 + 1 + 1 + 4 * 40 + 2 + 92 + 1 + 1 + 2 + 2 * 40 + 1 + 1 + 1 + 0 ≤ 600130 by omega), (show 2665372 + 39010 * i + 0 + 36010 + 0 + 6 + 6 + 6 + 6 + 6 + 6 + 40 + 40 + 24 * 40 + 12 + 1196 + 6 + 6 + 12 + 12 * 40 + 6 + 6 + 6 + 0 ≤ 7301080 by omega)⟩ rfl (Nat.le_of_ble_eq_true rfl) rfl rfl rfl (by simp only [List.append_assoc, List.cons_append, List.nil_append, List.append_nil]) (fun _ => rfl) (fun _ => by simp only [List.append_assoc, List.cons_append, List.nil_append, List.append_nil]) _ rfl (fun v (uN : PS × PG) hp => ?_)
                                                          obtain rfl := hp
                                                          refine KJ.eqs (st' := .int (nextV (br s1 kd)) :: []) rfl ?_
                                                          refine KJ.topi (y := (nI ((sw (br s1 kd)).2))) (if_pos hpj) ?_
                                                          refine n_if_ge hC 488 495 dL_law_488 (by decide) (by omega) (fun h488 => ?_) (fun h488 => ?_)
                                                          · skip
                                                            refine k_iconst hC 495 dL_law_495 (nI 0) (by decide) ?_
                                                            refine k_aload_n hC 496 dL_law_496 rfl ?_
                                                            refine k_bipush hC 497 dL_law_497 (nI 10) (by decide) ?_
                                                            refine g_callV hC hX 499 0 ([]) ((q119, .inl (D.1 21, 40, .inl (cpf (wB s1) (fun _ => 0) 40))) :: ((q125, .inl (D.1 21, 40, .inl (cpf (pB s1) (fun _ => 0) 40))) :: (wSm D m pp rr (br s1 kd) u3))) (fun uq => ((q0, .inr (3, [.ref (a 0), .ref (b 0)])) :: (wSt D a uq.1.1 uq.1.2 ++ (wSt D b uq.2.1 uq.2.2 ++ ((q119, .inl (D.1 21, 40, .inl (cpf (wB s1) (fun _ => 0) 40))) :: ((q125, .inl (D.1 21, 40, .inl (cpf (pB s1) (fun _ => 0) 40))) :: (wSm D m pp rr (br s1 kd) u3))))))) (c_X3_count l hfl D q0 a b (br s1 kd) uN.1 gaq uN.2 (nI 10) hSa hWT) cw_RL_97 dL_law_499 ⟨Nat.le_of_ble_eq_true rfl, Nat.le_of_ble_eq_true rfl, (show 205028 + 3170 * i + 0 + 2770 + 0 + 1 + 1 + 1 + 1 + 1 + 1 + 1 + 1 + 4 * 40 + 2 + 92 + 1 + 1 + 2 + 2 * 40 + 1 + 1 + 1 + 0 + 1 ≤ 600130 by omega), (show 2665372 + 39010 * i + 0 + 36010 + 0 + 6 + 6 + 6 + 6 + 6 + 6 + 40 + 40 + 24 * 40 + 12 + 1196 + 6 + 6 + 12 + 12 * 40 + 6 + 6 + 6 + 0 + 6 ≤ 7301080 by omega)⟩ rfl (Nat.le_of_ble_eq_true rfl) rfl rfl rfl (by simp only [List.append_assoc, List.cons_append, List.nil_append, List.append_nil]) (fun _ => rfl) (fun _ => by simp only [List.append_assoc, List.cons_append, List.nil_append, List.append_nil]) _ rfl (fun v uq hp => ?_) (fun E hx => absurd hx (no_x (countK0 (by decide))))
                                                            obtain ⟨-, rfl, euq, hSq⟩ := hp
                                                            refine KJ.eqs (st' := .int (ct (br s1 kd) (kn (nI 10))) :: .int (nI 0) :: []) rfl ?_
                                                            refine KJ.topi (y := (nI (pnd (br s1 kd)))) (by rw [kn_ek (by decide)]; rfl) ?_
                                                            obtain ⟨⟨saq, gaq⟩, sbq, gbq⟩ := uq
                                                            dsimp only at euq hSq
                                                            have euq2 := euq.symm
                                                            subst euq2
                                                            refine KJ.eqw (ws' := ((q0, .inr (3, [.ref (a 0), .ref (b 0)])) :: (wSt D a (br s1 kd) gaq ++ (wSt D b sbq gbq ++ ((q119, .inl (D.1 21, 40, .inl (cpf (wB s1) (fun _ => 0) 40))) :: ((q125, .inl (D.1 21, 40, .inl (cpf (pB s1) (fun _ => 0) 40))) :: (wSm D m pp rr (br s1 kd) u3))))))) rfl ?_
                                                            have hSa := hSq
                                                            refine k_aload_n hC 502 dL_law_502 rfl ?_
                                                            refine k_iconst hC 503 dL_law_503 (nI 1) (by decide) ?_
                                                            refine g_callV hC hX 504 0 ([]) ((q119, .inl (D.1 21, 40, .inl (cpf (wB s1) (fun _ => 0) 40))) :: ((q125, .inl (D.1 21, 40, .inl (cpf (pB s1) (fun _ => 0) 40))) :: (wSm D m pp rr (br s1 kd) u3))) (fun uq => ((q0, .inr (3, [.ref (a 0), .ref (b 0)])) :: (wSt D a uq.1.1 uq.1.2 ++ (wSt D b uq.2.1 uq.2.2 ++ ((q119, .inl (D.1 21, 40, .inl (cpf (wB s1) (fun _ => 0) 40))) :: ((q125, .inl (D.1 21, 40, .inl (cpf (pB s1) (fun _ => 0) 40))) :: (wSm D m pp rr (br s1 kd) u3))))))) (c_X3_count l hfl D q0 a b (br s1 kd) sbq gaq gbq (nI 1) hSa hWT) cw_RL_97 dL_law_504 ⟨Nat.le_of_ble_eq_true rfl, Nat.le_of_ble_eq_true rfl, (show 205028 + 3170 * i + 0 + 2770 + 0 + 1 + 1 + 1 + 1 + 1 + 1 + 1 + 1 + 4 * 40 + 2 + 92 + 1 + 1 + 2 + 2 * 40 + 1 + 1 + 1 + 0 + 1 + 1 ≤ 600130 by omega), (show 2665372 + 39010 * i + 0 + 36010 + 0 + 6 + 6 + 6 + 6 + 6 + 6 + 40 + 40 + 24 * 40 + 12 + 1196 + 6 + 6 + 12 + 12 * 40 + 6 + 6 + 6 + 0 + 6 + 6 ≤ 7301080 by omega)⟩ rfl (Nat.le_of_ble_eq_true rfl) rfl rfl rfl (by simp only [List.append_assoc, List.cons_append, List.nil_append, List.append_nil]) (fun _ => rfl) (fun _ => by simp only [List.append_assoc, List.cons_append, List.nil_append, List.append_nil]) _ rfl (fun v uq hp => ?_) (fun E hx => absurd hx (no_x (countK0 (by decide))))
                                                            obtain ⟨-, rfl, euq, hSq⟩ := hp
                                                            refine KJ.eqs (st' := .int (ct (br s1 kd) (kn (nI 1))) :: .int (nI (pnd (br s1 kd))) :: .int (nI 0) :: []) rfl ?_
                                                            refine KJ.topi (y := (nI ((br s1 kd).1.length))) (by rw [kn_ek (by decide)]; rfl) ?_
                                                            obtain ⟨⟨saq, gaq⟩, sbq, gbq⟩ := uq
                                                            dsimp only at euq hSq
                                                            have euq2 := euq.symm
                                                            subst euq2
                                                            refine KJ.eqw (ws' := ((q0, .inr (3, [.ref (a 0), .ref (b 0)])) :: (wSt D a (br s1 kd) gaq ++ (wSt D b sbq gbq ++ ((q119, .inl (D.1 21, 40, .inl (cpf (wB s1) (fun _ => 0) 40))) :: ((q125, .inl (D.1 21, 40, .inl (cpf (pB s1) (fun _ => 0) 40))) :: (wSm D m pp rr (br s1 kd) u3))))))) rfl ?_
                                                            have hSa := hSq
                                                            refine k_aload_n hC 507 dL_law_507 rfl ?_
                                                            refine k_iconst hC 508 dL_law_508 (nI 2) (by decide) ?_
                                                            refine g_callV hC hX 509 0 ([]) ((q119, .inl (D.1 21, 40, .inl (cpf (wB s1) (fun _ => 0) 40))) :: ((q125, .inl (D.1 21, 40, .inl (cpf (pB s1) (fun _ => 0) 40))) :: (wSm D m pp rr (br s1 kd) u3))) (fun uq => ((q0, .inr (3, [.ref (a 0), .ref (b 0)])) :: (wSt D a uq.1.1 uq.1.2 ++ (wSt D b uq.2.1 uq.2.2 ++ ((q119, .inl (D.1 21, 40, .inl (cpf (wB s1) (fun _ => 0) 40))) :: ((q125, .inl (D.1 21, 40, .inl (cpf (pB s1) (fun _ => 0) 40))) :: (wSm D m pp rr (br s1 kd) u3))))))) (c_X3_count l hfl D q0 a b (br s1 kd) sbq gaq gbq (nI 2) hSa hWT) cw_RL_97 dL_law_509 ⟨Nat.le_of_ble_eq_true rfl, Nat.le_of_ble_eq_true rfl, (show 205028 + 3170 * i + 0 + 2770 + 0 + 1 + 1 + 1 + 1 + 1 + 1 + 1 + 1 + 4 * 40 + 2 + 92 + 1 + 1 + 2 + 2 * 40 + 1 + 1 + 1 + 0 + 1 + 1 + 1 ≤ 600130 by omega), (show 2665372 + 39010 * i + 0 + 36010 + 0 + 6 + 6 + 6 + 6 + 6 + 6 + 40 + 40 + 24 * 40 + 12 + 1196 + 6 + 6 + 12 + 12 * 40 + 6 + 6 + 6 + 0 + 6 + 6 + 6 ≤ 7301080 by omega)⟩ rfl (Nat.le_of_ble_eq_true rfl) rfl rfl rfl (by simp only [List.append_assoc, List.cons_append, List.nil_append, List.append_nil]) (fun _ => rfl) (fun _ => by simp only [List.append_assoc, List.cons_append, List.nil_append, List.append_nil]) _ rfl (fun v uq hp => ?_) (fun E hx => absurd hx (no_x (countK0 (by decide))))
                                                            obtain ⟨-, rfl, euq, hSq⟩ := hp
                                                            refine KJ.eqs (st' := .int (ct (br s1 kd) (kn (nI 2))) :: .int (nI ((br s1 kd).1.length)) :: .int (nI (pnd (br s1 kd))) :: .int (nI 0) :: []) rfl ?_
                                                            refine KJ.topi (y := (nI ((br s1 kd).2.1.length))) (by rw [kn_ek (by decide)]; rfl) ?_
                                                            obtain ⟨⟨saq, gaq⟩, sbq, gbq⟩ := uq
                                                            dsimp only at euq hSq
                                                            have euq2 := euq.symm
                                                            subst euq2
                                                            refine KJ.eqw (ws' := ((q0, .inr (3, [.ref (a 0), .ref (b 0)])) :: (wSt D a (br s1 kd) gaq ++ (wSt D b sbq gbq ++ ((q119, .inl (D.1 21, 40, .inl (cpf (wB s1) (fun _ => 0) 40))) :: ((q125, .inl (D.1 21, 40, .inl (cpf (pB s1) (fun _ => 0) 40))) :: (wSm D m pp rr (br s1 kd) u3))))))) rfl ?_
                                                            have hSa := hSq
                                                            refine n_iadd hC 512 (((br s1 kd).1.length) + ((br s1 kd).2.1.length)) dL_law_512 rfl ?_
                                                            refine n_icmp_ne hC 513 520 dL_law_513 (by decide) (by omega) (by omega) (fun h513 => ?_) (fun h513 => ?_)
                                                            · skip
                                                              refine k_iconst hC 520 dL_law_520 (nI 0) (by decide) ?_
                                                              refine n_icmp_eq hC 521 526 dL_law_521 (by decide) (by omega) (by omega) (fun h521 => ?_) (fun h521 => ?_)
                                                              · skip
                                                                refine k_iinc hC 526 11 (nI (i + 1)) [(3, .int (nI (i + 1))), (14, .int (nI 0)), (13, .int (nI 0)), (12, .int (nI 0)), (11, .ref q125), (10, .ref q119), (9, .int (loS s1)), (8, .int ((hiS s1) + (miS s1))), (7, .int (nI (plS s1))), (6, .int (nI (s1.1.length + s1.2.1.length))), (5, .int (nI kd)), (4, .int ((cv >>> ((nI ((i / 16) * 3)) &&& 31)) + (nI (373 * i)))), (2, .ref m), (1, .ref q0), (0, .ref bb)] dL_law_526 rfl (nI_1 _) (by decide) rfl ?_
                                                                refine k_goto hC 529 22 dL_law_529 (by decide) ?_
                                                                refine KJ.lvp [0, 12, 13, 14] rfl ?_
                                                                refine KJ.dr ((q0, .inr (3, [.ref (a 0), .ref (b 0)])) :: (wSt D a (br s1 kd) gaq ++ wSt D b sbq gbq)) ((q125, .inl (D.1 21, 40, .inl (cpf (pB s1) (fun _ => 0) 40))) :: (wSm D m pp rr (br s1 kd) u3)) (q119, .inl (D.1 21, 40, .inl (cpf (wB s1) (fun _ => 0) 40))) (by simp only [List.append_assoc, List.cons_append, List.nil_append]) (by simp only [List.append_assoc, List.cons_append, List.nil_append]) (ws' := ((q0, .inr (3, [.ref (a 0), .ref (b 0)])) :: (wSt D a (br s1 kd) gaq ++ (wSt D b sbq gbq ++ ((q125, .inl (D.1 21, 40, .inl (cpf (pB s1) (fun _ => 0) 40))) :: (wSm D m pp rr (br s1 kd) u3)))))) ?_
                                                                refine KJ.dr ((q0, .inr (3, [.ref (a 0), .ref (b 0)])) :: (wSt D a (br s1 kd) gaq ++ wSt D b sbq gbq)) (wSm D m pp rr (br s1 kd) u3) (q125, .inl (D.1 21, 40, .inl (cpf (pB s1) (fun _ => 0) 40))) (by simp only [List.append_assoc, List.cons_append, List.nil_append]) (by simp only [List.append_assoc, List.cons_append, List.nil_append]) (ws' := ((q0, .inr (3, [.ref (a 0), .ref (b 0)])) :: (wSt D a (br s1 kd) gaq ++ (wSt D b sbq gbq ++ (wSm D m pp rr (br s1 kd) u3))))) ?_
                                                                exact KJ.wide (by omega) (by omega) (ih22 (i + 1) (br s1 kd) gaq sbq gbq u3 (by omega) (by omega) ⟨hSa, hWT, hJ3, hIT⟩)
                                                              · skip
                                                                exact absurd h521 (by decide)
                                                            · skip
                                                              exact absurd h513 (by omega)
                                                          · skip
                                                            exact h488.elim
                                                        · skip
                                                          have hpj2 : ¬ pnd (br s1 kd) < (br s1 kd).1.length + (br s1 kd).2.1.length := hpj
                                                          refine k_aload_n hC 484 dL_law_484 rfl ?_
                                                          refine f_callV hC 485 0 ([]) ((q119, .inl (D.1 21, 40, .inl (cpf (wB s1) (fun _ => 0) 40))) :: ((q125, .inl (D.1 21, 40, .inl (cpf (pB s1) (fun _ => 0) 40))) :: (wSm D m pp rr (br s1 kd) u3))) (fun (uN : PS × PG) => ((q0, .inr (3, [.ref (a 0), .ref (b 0)])) :: (wSt D a (br s1 kd) gaq ++ (wSt D b uN.1 uN.2 ++ ((q119, .inl (D.1 21, 40, .inl (cpf (wB s1) (fun _ => 0) 40))) :: ((q125, .inl (D.1 21, 40, .inl (cpf (pB s1) (fun _ => 0) 40))) :: (wSm D m pp rr (br s1 kd) u3))))))) (c_X3_next l D q0 a b (br s1 kd) sbq gaq gbq hSa hWT) cw_RL_103 dL_law_485 ⟨Nat.le_of_ble_eq_true rfl, Nat.le_of_ble_eq_true rfl, (show 205028 + 3170 * i + 0 + 2770 + 0 + 1 + 1 + 1 + 1 + 1 + 1 + 1 + 1 + 4 * 40 + 2 + 92 + 1 + 1 + 2 + 2 * 40 + 1 + 1 + 1 + 0 ≤ 600130 by omega), (show 2665372 + 39010 * i + 0 + 36010 + 0 + 6 + 6 + 6 + 6 + 6 + 6 + 40 + 40 + 24 * 40 + 12 + 1196 + 6 + 6 + 12 + 12 * 40 + 6 + 6 + 6 + 0 ≤ 7301080 by omega)⟩ rfl (Nat.le_of_ble_eq_true rfl) rfl rfl rfl (by simp only [List.append_assoc, List.cons_append, List.nil_append, List.append_nil]) (fun _ => rfl) (fun _ => by simp only [List.append_assoc, List.cons_append, List.nil_append, List.append_nil]) _ rfl (fun v (uN : PS × PG) hp => ?_)
                                                          obtain rfl := hp
                                                          refine KJ.eqs (st' := .int (nextV (br s1 kd)) :: []) rfl ?_
                                                          refine KJ.topi (y := (-1)) (if_neg hpj) ?_
                                                          refine k_if_ge hC 488 495 dL_law_488 (by decide) (fun h488 => ?_) (fun h488 => ?_)
                                                          · skip
                                                            exact absurd h488 (by decide)
                                                          · skip
                                                            refine k_iconst hC 491 dL_law_491 (nI 1) (by decide) ?_
                                                            refine k_goto hC 492 496 dL_law_492 (by decide) ?_
                                                            refine k_aload_n hC 496 dL_law_496 rfl ?_
                                                            refine k_bipush hC 497 dL_law_497 (nI 10) (by decide) ?_
                                                            refine g_callV hC hX 499 0 ([]) ((q119, .inl (D.1 21, 40, .inl (cpf (wB s1) (fun _ => 0) 40))) :: ((q125, .inl (D.1 21, 40, .inl (cpf (pB s1) (fun _ => 0) 40))) :: (wSm D m pp rr (br s1 kd) u3))) (fun uq => ((q0, .inr (3, [.ref (a 0), .ref (b 0)])) :: (wSt D a uq.1.1 uq.1.2 ++ (wSt D b uq.2.1 uq.2.2 ++ ((q119, .inl (D.1 21, 40, .inl (cpf (wB s1) (fun _ => 0) 40))) :: ((q125, .inl (D.1 21, 40, .inl (cpf (pB s1) (fun _ => 0) 40))) :: (wSm D m pp rr (br s1 kd) u3))))))) (c_X3_count l hfl D q0 a b (br s1 kd) uN.1 gaq uN.2 (nI 10) hSa hWT) cw_RL_97 dL_law_499 ⟨Nat.le_of_ble_eq_true rfl, Nat.le_of_ble_eq_true rfl, (show 205028 + 3170 * i + 0 + 2770 + 0 + 1 + 1 + 1 + 1 + 1 + 1 + 1 + 1 + 4 * 40 + 2 + 92 + 1 + 1 + 2 + 2 * 40 + 1 + 1 + 1 + 0 + 1 ≤ 600130 by omega), (show 2665372 + 39010 * i + 0 + 36010 + 0 + 6 + 6 + 6 + 6 + 6 + 6 + 40 + 40 + 24 * 40 + 12 + 1196 + 6 + 6 + 12 + 12 * 40 + 6 + 6 + 6 + 0 + 6 ≤ 7301080 by omega)⟩ rfl (Nat.le_of_ble_eq_true rfl) rfl rfl rfl (by simp only [List.append_assoc, List.cons_append, List.nil_append, List.append_nil]) (fun _ => rfl) (fun _ => by simp only [List.append_assoc, List.cons_append, List.nil_append, List.append_nil]) _ rfl (fun v uq hp => ?_) (fun E hx => absurd hx (no_x (countK0 (by decide))))
                                                            obtain ⟨-, rfl, euq, hSq⟩ := hp
                                                            refine KJ.eqs (st' := .int (ct (br s1 kd) (kn (nI 10))) :: .int (nI 1) :: []) rfl ?_
                                                            refine KJ.topi (y := (nI (pnd (br s1 kd)))) (by rw [kn_ek (by decide)]; rfl) ?_
                                                            obtain ⟨⟨saq, gaq⟩, sbq, gbq⟩ := uq
                                                            dsimp only at euq hSq
                                                            have euq2 := euq.symm
                                                            subst euq2
                                                            refine KJ.eqw (ws' := ((q0, .inr (3, [.ref (a 0), .ref (b 0)])) :: (wSt D a (br s1 kd) gaq ++ (wSt D b sbq gbq ++ ((q119, .inl (D.1 21, 40, .inl (cpf (wB s1) (fun _ => 0) 40))) :: ((q125, .inl (D.1 21, 40, .inl (cpf (pB s1) (fun _ => 0) 40))) :: (wSm D m pp rr (br s1 kd) u3))))))) rfl ?_
                                                            have hSa := hSq
                                                            refine k_aload_n hC 502 dL_law_502 rfl ?_
                                                            refine k_iconst hC 503 dL_law_503 (nI 1) (by decide) ?_
                                                            refine g_callV hC hX 504 0 ([]) ((q119, .inl (D.1 21, 40, .inl (cpf (wB s1) (fun _ => 0) 40))) :: ((q125, .inl (D.1 21, 40, .inl (cpf (pB s1) (fun _ => 0) 40))) :: (wSm D m pp rr (br s1 kd) u3))) (fun uq => ((q0, .inr (3, [.ref (a 0), .ref (b 0)])) :: (wSt D a uq.1.1 uq.1.2 ++ (wSt D b uq.2.1 uq.2.2 ++ ((q119, .inl (D.1 21, 40, .inl (cpf (wB s1) (fun _ => 0) 40))) :: ((q125, .inl (D.1 21, 40, .inl (cpf (pB s1) (fun _ => 0) 40))) :: (wSm D m pp rr (br s1 kd) u3))))))) (c_X3_count l hfl D q0 a b (br s1 kd) sbq gaq gbq (nI 1) hSa hWT) cw_RL_97 dL_law_504 ⟨Nat.le_of_ble_eq_true rfl, Nat.le_of_ble_eq_true rfl, (show 205028 + 3170 * i + 0 + 2770 + 0 + 1 + 1 + 1 + 1 + 1 + 1 + 1 + 1 + 4 * 40 + 2 + 92 + 1 + 1 + 2 + 2 * 40 + 1 + 1 + 1 + 0 + 1 + 1 ≤ 600130 by omega), (show 2665372 + 39010 * i + 0 + 36010 + 0 + 6 + 6 + 6 + 6 + 6 + 6 + 40 + 40 + 24 * 40 + 12 + 1196 + 6 + 6 + 12 + 12 * 40 + 6 + 6 + 6 + 0 + 6 + 6 ≤ 7301080 by omega)⟩ rfl (Nat.le_of_ble_eq_true rfl) rfl rfl rfl (by simp only [List.append_assoc, List.cons_append, List.nil_append, List.append_nil]) (fun _ => rfl) (fun _ => by simp only [List.append_assoc, List.cons_append, List.nil_append, List.append_nil]) _ rfl (fun v uq hp => ?_) (fun E hx => absurd hx (no_x (countK0 (by decide))))
                                                            obtain ⟨-, rfl, euq, hSq⟩ := hp
                                                            refine KJ.eqs (st' := .int (ct (br s1 kd) (kn (nI 1))) :: .int (nI (pnd (br s1 kd))) :: .int (nI 1) :: []) rfl ?_
                                                            refine KJ.topi (y := (nI ((br s1 kd).1.length))) (by rw [kn_ek (by decide)]; rfl) ?_
                                                            obtain ⟨⟨saq, gaq⟩, sbq, gbq⟩ := uq
                                                            dsimp only at euq hSq
                                                            have euq2 := euq.symm
                                                            subst euq2
                                                            refine KJ.eqw (ws' := ((q0, .inr (3, [.ref (a 0), .ref (b 0)])) :: (wSt D a (br s1 kd) gaq ++ (wSt D b sbq gbq ++ ((q119, .inl (D.1 21, 40, .inl (cpf (wB s1) (fun _ => 0) 40))) :: ((q125, .inl (D.1 21, 40, .inl (cpf (pB s1) (fun _ => 0) 40))) :: (wSm D m pp rr (br s1 kd) u3))))))) rfl ?_
                                                            have hSa := hSq
                                                            refine k_aload_n hC 507 dL_law_507 rfl ?_
                                                            refine k_iconst hC 508 dL_law_508 (nI 2) (by decide) ?_
                                                            refine g_callV hC hX 509 0 ([]) ((q119, .inl (D.1 21, 40, .inl (cpf (wB s1) (fun _ => 0) 40))) :: ((q125, .inl (D.1 21, 40, .inl (cpf (pB s1) (fun _ => 0) 40))) :: (wSm D m pp rr (br s1 kd) u3))) (fun uq => ((q0, .inr (3, [.ref (a 0), .ref (b 0)])) :: (wSt D a uq.1.1 uq.1.2 ++ (wSt D b uq.2.1 uq.2.2 ++ ((q119, .inl (D.1 21, 40, .inl (cpf (wB s1) (fun _ => 0) 40))) :: ((q125, .inl (D.1 21, 40, .inl (cpf (pB s1) (fun _ => 0) 40))) :: (wSm D m pp rr (br s1 kd) u3))))))) (c_X3_count l hfl D q0 a b (br s1 kd) sbq gaq gbq (nI 2) hSa hWT) cw_RL_97 dL_law_509 ⟨Nat.le_of_ble_eq_true rfl, Nat.le_of_ble_eq_true rfl, (show 205028 + 3170 * i + 0 + 2770 + 0 + 1 + 1 + 1 + 1 + 1 + 1 + 1 + 1 + 4 * 40 + 2 + 92 + 1 + 1 + 2 + 2 * 40 + 1 + 1 + 1 + 0 + 1 + 1 + 1 ≤ 600130 by omega), (show 2665372 + 39010 * i + 0 + 36010 + 0 + 6 + 6 + 6 + 6 + 6 + 6 + 40 + 40 + 24 * 40 + 12 + 1196 + 6 + 6 + 12 + 12 * 40 + 6 + 6 + 6 + 0 + 6 + 6 + 6 ≤ 7301080 by omega)⟩ rfl (Nat.le_of_ble_eq_true rfl) rfl rfl rfl (by simp only [List.append_assoc, List.cons_append, List.nil_append, List.append_nil]) (fun _ => rfl) (fun _ => by simp only [List.append_assoc, List.cons_append, List.nil_append, List.append_nil]) _ rfl (fun v uq hp => ?_) (fun E hx => absurd hx (no_x (countK0 (by decide))))
                                                            obtain ⟨-, rfl, euq, hSq⟩ := hp
                                                            refine KJ.eqs (st' := .int (ct (br s1 kd) (kn (nI 2))) :: .int (nI ((br s1 kd).1.length)) :: .int (nI (pnd (br s1 kd))) :: .int (nI 1) :: []) rfl ?_
                                                            refine KJ.topi (y := (nI ((br s1 kd).2.1.length))) (by rw [kn_ek (by decide)]; rfl) ?_
                                                            obtain ⟨⟨saq, gaq⟩, sbq, gbq⟩ := uq
                                                            dsimp only at euq hSq
                                                            have euq2 := euq.symm
                                                            subst euq2
                                                            refine KJ.eqw (ws' := ((q0, .inr (3, [.ref (a 0), .ref (b 0)])) :: (wSt D a (br s1 kd) gaq ++ (wSt D b sbq gbq ++ ((q119, .inl (D.1 21, 40, .inl (cpf (wB s1) (fun _ => 0) 40))) :: ((q125, .inl (D.1 21, 40, .inl (cpf (pB s1) (fun _ => 0) 40))) :: (wSm D m pp rr (br s1 kd) u3))))))) rfl ?_
                                                            have hSa := hSq
                                                            refine n_iadd hC 512 (((br s1 kd).1.length) + ((br s1 kd).2.1.length)) dL_law_512 rfl ?_
                                                            refine n_icmp_ne hC 513 520 dL_law_513 (by decide) (by omega) (by omega) (fun h513 => ?_) (fun h513 => ?_)
                                                            · skip
                                                              exact absurd (by omega) h513
                                                            · skip
                                                              refine k_iconst hC 516 dL_law_516 (nI 1) (by decide) ?_
                                                              refine k_goto hC 517 521 dL_law_517 (by decide) ?_
                                                              refine n_icmp_eq hC 521 526 dL_law_521 (by decide) (by omega) (by omega) (fun h521 => ?_) (fun h521 => ?_)
                                                              · skip
                                                                refine k_iinc hC 526 11 (nI (i + 1)) [(3, .int (nI (i + 1))), (14, .int (nI 0)), (13, .int (nI 0)), (12, .int (nI 0)), (11, .ref q125), (10, .ref q119), (9, .int (loS s1)), (8, .int ((hiS s1) + (miS s1))), (7, .int (nI (plS s1))), (6, .int (nI (s1.1.length + s1.2.1.length))), (5, .int (nI kd)), (4, .int ((cv >>> ((nI ((i / 16) * 3)) &&& 31)) + (nI (373 * i)))), (2, .ref m), (1, .ref q0), (0, .ref bb)] dL_law_526 rfl (nI_1 _) (by decide) rfl ?_
                                                                refine k_goto hC 529 22 dL_law_529 (by decide) ?_
                                                                refine KJ.lvp [0, 12, 13, 14] rfl ?_
                                                                refine KJ.dr ((q0, .inr (3, [.ref (a 0), .ref (b 0)])) :: (wSt D a (br s1 kd) gaq ++ wSt D b sbq gbq)) ((q125, .inl (D.1 21, 40, .inl (cpf (pB s1) (fun _ => 0) 40))) :: (wSm D m pp rr (br s1 kd) u3)) (q119, .inl (D.1 21, 40, .inl (cpf (wB s1) (fun _ => 0) 40))) (by simp only [List.append_assoc, List.cons_append, List.nil_append]) (by simp only [List.append_assoc, List.cons_append, List.nil_append]) (ws' := ((q0, .inr (3, [.ref (a 0), .ref (b 0)])) :: (wSt D a (br s1 kd) gaq ++ (wSt D b sbq gbq ++ ((q125, .inl (D.1 21, 40, .inl (cpf (pB s1) (fun _ => 0) 40))) :: (wSm D m pp rr (br s1 kd) u3)))))) ?_
                                                                refine KJ.dr ((q0, .inr (3, [.ref (a 0), .ref (b 0)])) :: (wSt D a (br s1 kd) gaq ++ wSt D b sbq gbq)) (wSm D m pp rr (br s1 kd) u3) (q125, .inl (D.1 21, 40, .inl (cpf (pB s1) (fun _ => 0) 40))) (by simp only [List.append_assoc, List.cons_append, List.nil_append]) (by simp only [List.append_assoc, List.cons_append, List.nil_append]) (ws' := ((q0, .inr (3, [.ref (a 0), .ref (b 0)])) :: (wSt D a (br s1 kd) gaq ++ (wSt D b sbq gbq ++ (wSm D m pp rr (br s1 kd) u3))))) ?_
                                                                exact KJ.wide (by omega) (by omega) (ih22 (i + 1) (br s1 kd) gaq sbq gbq u3 (by omega) (by omega) ⟨hSa, hWT, hJ3, hIT⟩)
                                                              · skip
                                                                exact absurd h521 (by decide)
                                                      · skip
                                                        exact absurd (by omega) h479
                                                    · skip
                                                      exact absurd h465 (by decide)
                                                  · skip
                                                    exact absurd h434 (by decide)
                                              · skip
                                                exact absurd h418 (by decide)
                                          · skip
                                            exact absurd h396 (by decide)
                                        · skip
                                          exact absurd h375 (by decide)
                                      · skip
                                        by_cases hw : inn s1 k
                                        · skip
                                          by_cases hs : inn (br s1 kd) k
                                          · skip
                                            have hne : k ≠ gx := fun z => (fB (by omega)).2 (z ▸ hs)
                                            by_cases hp : inn s1 k ∧ 0 < piS s1 k
                                            · skip
                                              refine k_aload_n hC 299 dL_law_299 rfl ?_
                                              refine k_iload hC 300 dL_law_300 rfl ?_
                                              refine k_iconst hC 302 dL_law_302 (nI 0) (by decide) ?_
                                              refine g_callV hC hX 303 0 ([]) ((q119, .inl (D.1 21, 40, .inl (cpf (wB s1) (fun _ => 0) 40))) :: ((q125, .inl (D.1 21, 40, .inl (cpf (pB s1) (fun _ => 0) 40))) :: (wSm D m pp rr (br s1 kd) u3))) (fun uq => ((q0, .inr (3, [.ref (a 0), .ref (b 0)])) :: (wSt D a uq.1.1 uq.1.2 ++ (wSt D b uq.2.1 uq.2.2 ++ ((q119, .inl (D.1 21, 40, .inl (cpf (wB s1) (fun _ => 0) 40))) :: ((q125, .inl (D.1 21, 40, .inl (cpf (pB s1) (fun _ => 0) 40))) :: (wSm D m pp rr (br s1 kd) u3))))))) (c_X3_jar l hfl D q0 a b (br s1 kd) sb ga gb (nI k) (nI 0) hSa hWT) cw_RL_100 dL_law_303 ⟨Nat.le_of_ble_eq_true rfl, Nat.le_of_ble_eq_true rfl, (show 205028 + 3170 * i + 0 + 2770 + 0 + 1 + 1 + 1 + 1 + 1 + 1 + 1 + 1 + 4 * 40 + 2 + 92 + 1 + 1 + 2 + 2 * k + 2 ≤ 600130 by omega), (show 2665372 + 39010 * i + 0 + 36010 + 0 + 6 + 6 + 6 + 6 + 6 + 6 + 40 + 40 + 24 * 40 + 12 + 1196 + 6 + 6 + 12 + 12 * k + 12 ≤ 7301080 by omega)⟩ rfl (Nat.le_of_ble_eq_true rfl) rfl rfl rfl (by simp only [List.append_assoc, List.cons_append, List.nil_append, List.append_nil]) (fun _ => rfl) (fun _ => by simp only [List.append_assoc, List.cons_append, List.nil_append, List.append_nil]) _ rfl (fun v uq hp => ?_) (fun E hx => absurd hx (no_x (jarK0 h296 (by decide))))
                                              obtain ⟨-, rfl, euq, hSq⟩ := hp
                                              refine KJ.eqs (st' := .int (dtl (br s1 kd) (kn (nI k)) (kn (nI 0))) :: []) rfl ?_
                                              refine KJ.topi (y := (dtl (br s1 kd) k 0)) (by rw [kn_ek h296, kn_ek (by decide)]) ?_
                                              obtain ⟨⟨saq, gaq⟩, sbq, gbq⟩ := uq
                                              dsimp only at euq hSq
                                              have euq2 := euq.symm
                                              subst euq2
                                              refine KJ.eqw (ws' := ((q0, .inr (3, [.ref (a 0), .ref (b 0)])) :: (wSt D a (br s1 kd) gaq ++ (wSt D b sbq gbq ++ ((q119, .inl (D.1 21, 40, .inl (cpf (wB s1) (fun _ => 0) 40))) :: ((q125, .inl (D.1 21, 40, .inl (cpf (pB s1) (fun _ => 0) 40))) :: (wSm D m pp rr (br s1 kd) u3))))))) rfl ?_
                                              have hSa := hSq
                                              refine k_if_lt hC 306 313 dL_law_306 (by decide) (fun h306 => ?_) (fun h306 => ?_)
                                              · skip
                                                exact absurd h306 (dtl0_in hs)
                                              · skip
                                                refine k_iconst hC 309 dL_law_309 (nI 1) (by decide) ?_
                                                refine k_goto hC 310 314 dL_law_310 (by decide) ?_
                                                refine k_istore hC 314 15 [(15, .int (nI 1)), (14, .int (nI k)), (13, .int (nI (if gx < k then 1 else 0))), (12, .int (nI 0)), (11, .ref q125), (10, .ref q119), (9, .int (loS s1)), (8, .int ((hiS s1) + (miS s1))), (7, .int (nI (plS s1))), (6, .int (nI (s1.1.length + s1.2.1.length))), (5, .int (nI kd)), (4, .int ((cv >>> ((nI ((i / 16) * 3)) &&& 31)) + (nI (373 * i)))), (3, .int (nI i)), (2, .ref m), (1, .ref q0), (0, .ref bb)] dL_law_314 (by decide) rfl ?_
                                                refine k_aload hC 316 dL_law_316 rfl ?_
                                                refine k_iload hC 318 dL_law_318 rfl ?_
                                                refine n_zald hC 320 31 (nI 1) dL_law_320 rfl (by omega) (by decide) ((cpf_in h296).trans (wB_in hw)) ?_
                                                refine n_if_eq hC 321 332 dL_law_321 (by decide) (by omega) (fun h321 => ?_) (fun h321 => ?_)
                                                · skip
                                                  exact absurd h321 (by decide)
                                                · skip
                                                  refine k_iload hC 324 dL_law_324 rfl ?_
                                                  refine n_if_ne hC 326 332 dL_law_326 (by decide) (by omega) (fun h326 => ?_) (fun h326 => ?_)
                                                  · skip
                                                    refine k_aload hC 332 dL_law_332 rfl ?_
                                                    refine k_iload hC 334 dL_law_334 rfl ?_
                                                    refine n_zald hC 336 32 (nI 1) dL_law_336 rfl (by omega) (by decide) ((cpf_in h296).trans (pB_in hp)) ?_
                                                    refine n_if_eq hC 337 345 dL_law_337 (by decide) (by omega) (fun h337 => ?_) (fun h337 => ?_)
                                                    · skip
                                                      exact absurd h337 (by decide)
                                                    · skip
                                                      refine k_iload hC 340 dL_law_340 rfl ?_
                                                      refine n_if_eq hC 342 365 dL_law_342 (by decide) (by omega) (fun h342 => ?_) (fun h342 => ?_)
                                                      · skip
                                                        exact absurd h342 (by decide)
                                                      · skip
                                                        refine k_aload hC 345 dL_law_345 rfl ?_
                                                        refine k_iload hC 347 dL_law_347 rfl ?_
                                                        refine n_zald hC 349 31 (nI 1) dL_law_349 rfl (by omega) (by decide) ((cpf_in h296).trans (wB_in hw)) ?_
                                                        refine n_if_ne hC 350 367 dL_law_350 (by decide) (by omega) (fun h350 => ?_) (fun h350 => ?_)
                                                        · skip
                                                          refine k_iinc hC 367 1 (nI (k + 1)) [(14, .int (nI (k + 1))), (15, .int (nI 1)), (13, .int (nI (if gx < k then 1 else 0))), (12, .int (nI 0)), (11, .ref q125), (10, .ref q119), (9, .int (loS s1)), (8, .int ((hiS s1) + (miS s1))), (7, .int (nI (plS s1))), (6, .int (nI (s1.1.length + s1.2.1.length))), (5, .int (nI kd)), (4, .int ((cv >>> ((nI ((i / 16) * 3)) &&& 31)) + (nI (373 * i)))), (3, .int (nI i)), (2, .ref m), (1, .ref q0), (0, .ref bb)] dL_law_367 rfl (nI_1 _) (by decide) rfl ?_
                                                          refine k_goto hC 370 292 dL_law_370 (by decide) ?_
                                                          refine KJ.lvp [0, 2, 3, 4, 5, 6, 7, 8, 9, 10, 11, 12, 13, 14, 15] rfl ?_
                                                          have eg : (if gx < k + 1 then 1 else 0) = (if gx < k then 1 else 0) := (by by_cases z : gx < k; exact (if_pos (by omega)).trans (if_pos z).symm; exact (if_neg (by omega)).trans (if_neg z).symm)
                                                          refine KJ.eql (lv' := [(14, .int (nI (k + 1))), (13, .int (nI (if gx < k + 1 then 1 else 0))), (12, .int (nI 0)), (11, .ref q125), (10, .ref q119), (9, .int (loS s1)), (8, .int ((hiS s1) + (miS s1))), (7, .int (nI (plS s1))), (6, .int (nI (s1.1.length + s1.2.1.length))), (5, .int (nI kd)), (4, .int ((cv >>> ((nI ((i / 16) * 3)) &&& 31)) + (nI (373 * i)))), (3, .int (nI i)), (2, .ref m), (1, .ref q0), (0, .ref bb)]) (by rw [eg] <;> rfl) ?_
                                                          exact KJ.wide (by omega) (by omega) (ih292 (k + 1) gaq sbq gbq (by omega) (by omega) hSa)
                                                        · skip
                                                          exact absurd h350 (by decide)
                                                  · skip
                                                    exact absurd h326 (by decide)
                                            · skip
                                              refine k_aload_n hC 299 dL_law_299 rfl ?_
                                              refine k_iload hC 300 dL_law_300 rfl ?_
                                              refine k_iconst hC 302 dL_law_302 (nI 0) (by decide) ?_
                                              refine g_callV hC hX 303 0 ([]) ((q119, .inl (D.1 21, 40, .inl (cpf (wB s1) (fun _ => 0) 40))) :: ((q125, .inl (D.1 21, 40, .inl (cpf (pB s1) (fun _ => 0) 40))) :: (wSm D m pp rr (br s1 kd) u3))) (fun uq => ((q0, .inr (3, [.ref (a 0), .ref (b 0)])) :: (wSt D a uq.1.1 uq.1.2 ++ (wSt D b uq.2.1 uq.2.2 ++ ((q119, .inl (D.1 21, 40, .inl (cpf (wB s1) (fun _ => 0) 40))) :: ((q125, .inl (D.1 21, 40, .inl (cpf (pB s1) (fun _ => 0) 40))) :: (wSm D m pp rr (br s1 kd) u3))))))) (c_X3_jar l hfl D q0 a b (br s1 kd) sb ga gb (nI k) (nI 0) hSa hWT) cw_RL_100 dL_law_303 ⟨Nat.le_of_ble_eq_true rfl, Nat.le_of_ble_eq_true rfl, (show 205028 + 3170 * i + 0 + 2770 + 0 + 1 + 1 + 1 + 1 + 1 + 1 + 1 + 1 + 4 * 40 + 2 + 92 + 1 + 1 + 2 + 2 * k + 2 ≤ 600130 by omega), (show 2665372 + 39010 * i + 0 + 36010 + 0 + 6 + 6 + 6 + 6 + 6 + 6 + 40 + 40 + 24 * 40 + 12 + 1196 + 6 + 6 + 12 + 12 * k + 12 ≤ 7301080 by omega)⟩ rfl (Nat.le_of_ble_eq_true rfl) rfl rfl rfl (by simp only [List.append_assoc, List.cons_append, List.nil_append, List.append_nil]) (fun _ => rfl) (fun _ => by simp only [List.append_assoc, List.cons_append, List.nil_append, List.append_nil]) _ rfl (fun v uq hp => ?_) (fun E hx => absurd hx (no_x (jarK0 h296 (by decide))))
                                              obtain ⟨-, rfl, euq, hSq⟩ := hp
                                              refine KJ.eqs (st' := .int (dtl (br s1 kd) (kn (nI k)) (kn (nI 0))) :: []) rfl ?_
                                              refine KJ.topi (y := (dtl (br s1 kd) k 0)) (by rw [kn_ek h296, kn_ek (by decide)]) ?_
                                              obtain ⟨⟨saq, gaq⟩, sbq, gbq⟩ := uq
                                              dsimp only at euq hSq
                                              have euq2 := euq.symm
                                              subst euq2
                                              refine KJ.eqw (ws' := ((q0, .inr (3, [.ref (a 0), .ref (b 0)])) :: (wSt D a (br s1 kd) gaq ++ (wSt D b sbq gbq ++ ((q119, .inl (D.1 21, 40, .inl (cpf (wB s1) (fun _ => 0) 40))) :: ((q125, .inl (D.1 21, 40, .inl (cpf (pB s1) (fun _ => 0) 40))) :: (wSm D m pp rr (br s1 kd) u3))))))) rfl ?_
                                              have hSa := hSq
                                              refine k_if_lt hC 306 313 dL_law_306 (by decide) (fun h306 => ?_) (fun h306 => ?_)
                                              · skip
                                                exact absurd h306 (dtl0_in hs)
                                              · skip
                                                refine k_iconst hC 309 dL_law_309 (nI 1) (by decide) ?_
                                                refine k_goto hC 310 314 dL_law_310 (by decide) ?_
                                                refine k_istore hC 314 15 [(15, .int (nI 1)), (14, .int (nI k)), (13, .int (nI (if gx < k then 1 else 0))), (12, .int (nI 0)), (11, .ref q125), (10, .ref q119), (9, .int (loS s1)), (8, .int ((hiS s1) + (miS s1))), (7, .int (nI (plS s1))), (6, .int (nI (s1.1.length + s1.2.1.length))), (5, .int (nI kd)), (4, .int ((cv >>> ((nI ((i / 16) * 3)) &&& 31)) + (nI (373 * i)))), (3, .int (nI i)), (2, .ref m), (1, .ref q0), (0, .ref bb)] dL_law_314 (by decide) rfl ?_
                                                refine k_aload hC 316 dL_law_316 rfl ?_
                                                refine k_iload hC 318 dL_law_318 rfl ?_
                                                refine n_zald hC 320 31 (nI 1) dL_law_320 rfl (by omega) (by decide) ((cpf_in h296).trans (wB_in hw)) ?_
                                                refine n_if_eq hC 321 332 dL_law_321 (by decide) (by omega) (fun h321 => ?_) (fun h321 => ?_)
                                                · skip
                                                  exact absurd h321 (by decide)
                                                · skip
                                                  refine k_iload hC 324 dL_law_324 rfl ?_
                                                  refine n_if_ne hC 326 332 dL_law_326 (by decide) (by omega) (fun h326 => ?_) (fun h326 => ?_)
                                                  · skip
                                                    refine k_aload hC 332 dL_law_332 rfl ?_
                                                    refine k_iload hC 334 dL_law_334 rfl ?_
                                                    refine n_zald hC 336 32 (nI 0) dL_law_336 rfl (by omega) (by decide) ((cpf_in h296).trans (pB_no hp)) ?_
                                                    refine n_if_eq hC 337 345 dL_law_337 (by decide) (by omega) (fun h337 => ?_) (fun h337 => ?_)
                                                    · skip
                                                      refine k_aload hC 345 dL_law_345 rfl ?_
                                                      refine k_iload hC 347 dL_law_347 rfl ?_
                                                      refine n_zald hC 349 31 (nI 1) dL_law_349 rfl (by omega) (by decide) ((cpf_in h296).trans (wB_in hw)) ?_
                                                      refine n_if_ne hC 350 367 dL_law_350 (by decide) (by omega) (fun h350 => ?_) (fun h350 => ?_)
                                                      · skip
                                                        refine k_iinc hC 367 1 (nI (k + 1)) [(14, .int (nI (k + 1))), (15, .int (nI 1)), (13, .int (nI (if gx < k then 1 else 0))), (12, .int (nI 0)), (11, .ref q125), (10, .ref q119), (9, .int (loS s1)), (8, .int ((hiS s1) + (miS s1))), (7, .int (nI (plS s1))), (6, .int (nI (s1.1.length + s1.2.1.length))), (5, .int (nI kd)), (4, .int ((cv >>> ((nI ((i / 16) * 3)) &&& 31)) + (nI (373 * i)))), (3, .int (nI i)), (2, .ref m), (1, .ref q0), (0, .ref bb)] dL_law_367 rfl (nI_1 _) (by decide) rfl ?_
                                                        refine k_goto hC 370 292 dL_law_370 (by decide) ?_
                                                        refine KJ.lvp [0, 2, 3, 4, 5, 6, 7, 8, 9, 10, 11, 12, 13, 14, 15] rfl ?_
                                                        have eg : (if gx < k + 1 then 1 else 0) = (if gx < k then 1 else 0) := (by by_cases z : gx < k; exact (if_pos (by omega)).trans (if_pos z).symm; exact (if_neg (by omega)).trans (if_neg z).symm)
                                                        refine KJ.eql (lv' := [(14, .int (nI (k + 1))), (13, .int (nI (if gx < k + 1 then 1 else 0))), (12, .int (nI 0)), (11, .ref q125), (10, .ref q119), (9, .int (loS s1)), (8, .int ((hiS s1) + (miS s1))), (7, .int (nI (plS s1))), (6, .int (nI (s1.1.length + s1.2.1.length))), (5, .int (nI kd)), (4, .int ((cv >>> ((nI ((i / 16) * 3)) &&& 31)) + (nI (373 * i)))), (3, .int (nI i)), (2, .ref m), (1, .ref q0), (0, .ref bb)]) (by rw [eg] <;> rfl) ?_
                                                        exact KJ.wide (by omega) (by omega) (ih292 (k + 1) gaq sbq gbq (by omega) (by omega) hSa)
                                                      · skip
                                                        exact absurd h350 (by decide)
                                                    · skip
                                                      exact absurd h337 (by decide)
                                                  · skip
                                                    exact absurd h326 (by decide)
                                          · skip
                                            have heq : k = gx := fA k hw hs
                                            have hp : ¬ (inn s1 k ∧ 0 < piS s1 k) := fun z => hs (fC k z.1 z.2)
                                            refine k_aload_n hC 299 dL_law_299 rfl ?_
                                            refine k_iload hC 300 dL_law_300 rfl ?_
                                            refine k_iconst hC 302 dL_law_302 (nI 0) (by decide) ?_
                                            refine g_callV hC hX 303 0 ([]) ((q119, .inl (D.1 21, 40, .inl (cpf (wB s1) (fun _ => 0) 40))) :: ((q125, .inl (D.1 21, 40, .inl (cpf (pB s1) (fun _ => 0) 40))) :: (wSm D m pp rr (br s1 kd) u3))) (fun uq => ((q0, .inr (3, [.ref (a 0), .ref (b 0)])) :: (wSt D a uq.1.1 uq.1.2 ++ (wSt D b uq.2.1 uq.2.2 ++ ((q119, .inl (D.1 21, 40, .inl (cpf (wB s1) (fun _ => 0) 40))) :: ((q125, .inl (D.1 21, 40, .inl (cpf (pB s1) (fun _ => 0) 40))) :: (wSm D m pp rr (br s1 kd) u3))))))) (c_X3_jar l hfl D q0 a b (br s1 kd) sb ga gb (nI k) (nI 0) hSa hWT) cw_RL_100 dL_law_303 ⟨Nat.le_of_ble_eq_true rfl, Nat.le_of_ble_eq_true rfl, (show 205028 + 3170 * i + 0 + 2770 + 0 + 1 + 1 + 1 + 1 + 1 + 1 + 1 + 1 + 4 * 40 + 2 + 92 + 1 + 1 + 2 + 2 * k + 2 ≤ 600130 by omega), (show 2665372 + 39010 * i + 0 + 36010 + 0 + 6 + 6 + 6 + 6 + 6 + 6 + 40 + 40 + 24 * 40 + 12 + 1196 + 6 + 6 + 12 + 12 * k + 12 ≤ 7301080 by omega)⟩ rfl (Nat.le_of_ble_eq_true rfl) rfl rfl rfl (by simp only [List.append_assoc, List.cons_append, List.nil_append, List.append_nil]) (fun _ => rfl) (fun _ => by simp only [List.append_assoc, List.cons_append, List.nil_append, List.append_nil]) _ rfl (fun v uq hp => ?_) (fun E hx => absurd hx (no_x (jarK0 h296 (by decide))))
                                            obtain ⟨-, rfl, euq, hSq⟩ := hp
                                            refine KJ.eqs (st' := .int (dtl (br s1 kd) (kn (nI k)) (kn (nI 0))) :: []) rfl ?_
                                            refine KJ.topi (y := (dtl (br s1 kd) k 0)) (by rw [kn_ek h296, kn_ek (by decide)]) ?_
                                            obtain ⟨⟨saq, gaq⟩, sbq, gbq⟩ := uq
                                            dsimp only at euq hSq
                                            have euq2 := euq.symm
                                            subst euq2
                                            refine KJ.eqw (ws' := ((q0, .inr (3, [.ref (a 0), .ref (b 0)])) :: (wSt D a (br s1 kd) gaq ++ (wSt D b sbq gbq ++ ((q119, .inl (D.1 21, 40, .inl (cpf (wB s1) (fun _ => 0) 40))) :: ((q125, .inl (D.1 21, 40, .inl (cpf (pB s1) (fun _ => 0) 40))) :: (wSm D m pp rr (br s1 kd) u3))))))) rfl ?_
                                            have hSa := hSq
                                            refine k_if_lt hC 306 313 dL_law_306 (by decide) (fun h306 => ?_) (fun h306 => ?_)
                                            · skip
                                              refine k_iconst hC 313 dL_law_313 (nI 0) (by decide) ?_
                                              refine k_istore hC 314 15 [(15, .int (nI 0)), (14, .int (nI k)), (13, .int (nI (if gx < k then 1 else 0))), (12, .int (nI 0)), (11, .ref q125), (10, .ref q119), (9, .int (loS s1)), (8, .int ((hiS s1) + (miS s1))), (7, .int (nI (plS s1))), (6, .int (nI (s1.1.length + s1.2.1.length))), (5, .int (nI kd)), (4, .int ((cv >>> ((nI ((i / 16) * 3)) &&& 31)) + (nI (373 * i)))), (3, .int (nI i)), (2, .ref m), (1, .ref q0), (0, .ref bb)] dL_law_314 (by decide) rfl ?_
                                              refine k_aload hC 316 dL_law_316 rfl ?_
                                              refine k_iload hC 318 dL_law_318 rfl ?_
                                              refine n_zald hC 320 31 (nI 1) dL_law_320 rfl (by omega) (by decide) ((cpf_in h296).trans (wB_in hw)) ?_
                                              refine n_if_eq hC 321 332 dL_law_321 (by decide) (by omega) (fun h321 => ?_) (fun h321 => ?_)
                                              · skip
                                                exact absurd h321 (by decide)
                                              · skip
                                                refine k_iload hC 324 dL_law_324 rfl ?_
                                                refine n_if_ne hC 326 332 dL_law_326 (by decide) (by omega) (fun h326 => ?_) (fun h326 => ?_)
                                                · skip
                                                  exact absurd h326 (by decide)
                                                · skip
                                                  refine k_iinc hC 329 2 (nI ((if gx < k then 1 else 0) + 1)) [(13, .int (nI ((if gx < k then 1 else 0) + 1))), (15, .int (nI 0)), (14, .int (nI k)), (12, .int (nI 0)), (11, .ref q125), (10, .ref q119), (9, .int (loS s1)), (8, .int ((hiS s1) + (miS s1))), (7, .int (nI (plS s1))), (6, .int (nI (s1.1.length + s1.2.1.length))), (5, .int (nI kd)), (4, .int ((cv >>> ((nI ((i / 16) * 3)) &&& 31)) + (nI (373 * i)))), (3, .int (nI i)), (2, .ref m), (1, .ref q0), (0, .ref bb)] dL_law_329 rfl (nI_1 _) (by decide) rfl ?_
                                                  refine k_aload hC 332 dL_law_332 rfl ?_
                                                  refine k_iload hC 334 dL_law_334 rfl ?_
                                                  refine n_zald hC 336 32 (nI 0) dL_law_336 rfl (by omega) (by decide) ((cpf_in h296).trans (pB_no hp)) ?_
                                                  refine n_if_eq hC 337 345 dL_law_337 (by decide) (by omega) (fun h337 => ?_) (fun h337 => ?_)
                                                  · skip
                                                    refine k_aload hC 345 dL_law_345 rfl ?_
                                                    refine k_iload hC 347 dL_law_347 rfl ?_
                                                    refine n_zald hC 349 31 (nI 1) dL_law_349 rfl (by omega) (by decide) ((cpf_in h296).trans (wB_in hw)) ?_
                                                    refine n_if_ne hC 350 367 dL_law_350 (by decide) (by omega) (fun h350 => ?_) (fun h350 => ?_)
                                                    · skip
                                                      refine k_iinc hC 367 2 (nI (k + 1)) [(14, .int (nI (k + 1))), (13, .int (nI ((if gx < k then 1 else 0) + 1))), (15, .int (nI 0)), (12, .int (nI 0)), (11, .ref q125), (10, .ref q119), (9, .int (loS s1)), (8, .int ((hiS s1) + (miS s1))), (7, .int (nI (plS s1))), (6, .int (nI (s1.1.length + s1.2.1.length))), (5, .int (nI kd)), (4, .int ((cv >>> ((nI ((i / 16) * 3)) &&& 31)) + (nI (373 * i)))), (3, .int (nI i)), (2, .ref m), (1, .ref q0), (0, .ref bb)] dL_law_367 rfl (nI_1 _) (by decide) rfl ?_
                                                      refine k_goto hC 370 292 dL_law_370 (by decide) ?_
                                                      refine KJ.lvp [0, 1, 3, 4, 5, 6, 7, 8, 9, 10, 11, 12, 13, 14, 15] rfl ?_
                                                      have eg : (if gx < k + 1 then 1 else 0) = (if gx < k then 1 else 0) + 1 := (by rw [if_pos (by omega), if_neg (by omega)])
                                                      refine KJ.eql (lv' := [(14, .int (nI (k + 1))), (13, .int (nI (if gx < k + 1 then 1 else 0))), (12, .int (nI 0)), (11, .ref q125), (10, .ref q119), (9, .int (loS s1)), (8, .int ((hiS s1) + (miS s1))), (7, .int (nI (plS s1))), (6, .int (nI (s1.1.length + s1.2.1.length))), (5, .int (nI kd)), (4, .int ((cv >>> ((nI ((i / 16) * 3)) &&& 31)) + (nI (373 * i)))), (3, .int (nI i)), (2, .ref m), (1, .ref q0), (0, .ref bb)]) (by rw [eg] <;> rfl) ?_
                                                      exact KJ.wide (by omega) (by omega) (ih292 (k + 1) gaq sbq gbq (by omega) (by omega) hSa)
                                                    · skip
                                                      exact absurd h350 (by decide)
                                                  · skip
                                                    exact absurd h337 (by decide)
                                            · skip
                                              exact absurd (dtl0_no hs) h306
                                        · skip
                                          have hne : k ≠ gx := fun z => hw (by have y := (fB (by omega)).1; rw [← z] at y; exact y)
                                          have hp : ¬ (inn s1 k ∧ 0 < piS s1 k) := fun z => hw z.1
                                          by_cases hs : inn (br s1 kd) k
                                          · skip
                                            have hkk : k = kd := fD k hw hs
                                            refine k_aload_n hC 299 dL_law_299 rfl ?_
                                            refine k_iload hC 300 dL_law_300 rfl ?_
                                            refine k_iconst hC 302 dL_law_302 (nI 0) (by decide) ?_
                                            refine g_callV hC hX 303 0 ([]) ((q119, .inl (D.1 21, 40, .inl (cpf (wB s1) (fun _ => 0) 40))) :: ((q125, .inl (D.1 21, 40, .inl (cpf (pB s1) (fun _ => 0) 40))) :: (wSm D m pp rr (br s1 kd) u3))) (fun uq => ((q0, .inr (3, [.ref (a 0), .ref (b 0)])) :: (wSt D a uq.1.1 uq.1.2 ++ (wSt D b uq.2.1 uq.2.2 ++ ((q119, .inl (D.1 21, 40, .inl (cpf (wB s1) (fun _ => 0) 40))) :: ((q125, .inl (D.1 21, 40, .inl (cpf (pB s1) (fun _ => 0) 40))) :: (wSm D m pp rr (br s1 kd) u3))))))) (c_X3_jar l hfl D q0 a b (br s1 kd) sb ga gb (nI k) (nI 0) hSa hWT) cw_RL_100 dL_law_303 ⟨Nat.le_of_ble_eq_true rfl, Nat.le_of_ble_eq_true rfl, (show 205028 + 3170 * i + 0 + 2770 + 0 + 1 + 1 + 1 + 1 + 1 + 1 + 1 + 1 + 4 * 40 + 2 + 92 + 1 + 1 + 2 + 2 * k + 2 ≤ 600130 by omega), (show 2665372 + 39010 * i + 0 + 36010 + 0 + 6 + 6 + 6 + 6 + 6 + 6 + 40 + 40 + 24 * 40 + 12 + 1196 + 6 + 6 + 12 + 12 * k + 12 ≤ 7301080 by omega)⟩ rfl (Nat.le_of_ble_eq_true rfl) rfl rfl rfl (by simp only [List.append_assoc, List.cons_append, List.nil_append, List.append_nil]) (fun _ => rfl) (fun _ => by simp only [List.append_assoc, List.cons_append, List.nil_append, List.append_nil]) _ rfl (fun v uq hp => ?_) (fun E hx => absurd hx (no_x (jarK0 h296 (by decide))))
                                            obtain ⟨-, rfl, euq, hSq⟩ := hp
                                            refine KJ.eqs (st' := .int (dtl (br s1 kd) (kn (nI k)) (kn (nI 0))) :: []) rfl ?_
                                            refine KJ.topi (y := (dtl (br s1 kd) k 0)) (by rw [kn_ek h296, kn_ek (by decide)]) ?_
                                            obtain ⟨⟨saq, gaq⟩, sbq, gbq⟩ := uq
                                            dsimp only at euq hSq
                                            have euq2 := euq.symm
                                            subst euq2
                                            refine KJ.eqw (ws' := ((q0, .inr (3, [.ref (a 0), .ref (b 0)])) :: (wSt D a (br s1 kd) gaq ++ (wSt D b sbq gbq ++ ((q119, .inl (D.1 21, 40, .inl (cpf (wB s1) (fun _ => 0) 40))) :: ((q125, .inl (D.1 21, 40, .inl (cpf (pB s1) (fun _ => 0) 40))) :: (wSm D m pp rr (br s1 kd) u3))))))) rfl ?_
                                            have hSa := hSq
                                            refine k_if_lt hC 306 313 dL_law_306 (by decide) (fun h306 => ?_) (fun h306 => ?_)
                                            · skip
                                              exact absurd h306 (dtl0_in hs)
                                            · skip
                                              refine k_iconst hC 309 dL_law_309 (nI 1) (by decide) ?_
                                              refine k_goto hC 310 314 dL_law_310 (by decide) ?_
                                              refine k_istore hC 314 15 [(15, .int (nI 1)), (14, .int (nI k)), (13, .int (nI (if gx < k then 1 else 0))), (12, .int (nI 0)), (11, .ref q125), (10, .ref q119), (9, .int (loS s1)), (8, .int ((hiS s1) + (miS s1))), (7, .int (nI (plS s1))), (6, .int (nI (s1.1.length + s1.2.1.length))), (5, .int (nI kd)), (4, .int ((cv >>> ((nI ((i / 16) * 3)) &&& 31)) + (nI (373 * i)))), (3, .int (nI i)), (2, .ref m), (1, .ref q0), (0, .ref bb)] dL_law_314 (by decide) rfl ?_
                                              refine k_aload hC 316 dL_law_316 rfl ?_
                                              refine k_iload hC 318 dL_law_318 rfl ?_
                                              refine n_zald hC 320 31 (nI 0) dL_law_320 rfl (by omega) (by decide) ((cpf_in h296).trans (wB_no hw)) ?_
                                              refine n_if_eq hC 321 332 dL_law_321 (by decide) (by omega) (fun h321 => ?_) (fun h321 => ?_)
                                              · skip
                                                refine k_aload hC 332 dL_law_332 rfl ?_
                                                refine k_iload hC 334 dL_law_334 rfl ?_
                                                refine n_zald hC 336 32 (nI 0) dL_law_336 rfl (by omega) (by decide) ((cpf_in h296).trans (pB_no hp)) ?_
                                                refine n_if_eq hC 337 345 dL_law_337 (by decide) (by omega) (fun h337 => ?_) (fun h337 => ?_)
                                                · skip
                                                  refine k_aload hC 345 dL_law_345 rfl ?_
                                                  refine k_iload hC 347 dL_law_347 rfl ?_
                                                  refine n_zald hC 349 31 (nI 0) dL_law_349 rfl (by omega) (by decide) ((cpf_in h296).trans (wB_no hw)) ?_
                                                  refine n_if_ne hC 350 367 dL_law_350 (by decide) (by omega) (fun h350 => ?_) (fun h350 => ?_)
                                                  · skip
                                                    exact absurd h350 (by decide)
                                                  · skip
                                                    refine k_iload hC 353 dL_law_353 rfl ?_
                                                    refine n_if_eq hC 355 367 dL_law_355 (by decide) (by omega) (fun h355 => ?_) (fun h355 => ?_)
                                                    · skip
                                                      exact absurd h355 (by decide)
                                                    · skip
                                                      refine k_iload hC 358 dL_law_358 rfl ?_
                                                      refine k_iload hC 360 dL_law_360 rfl ?_
                                                      refine n_icmp_eq hC 362 367 dL_law_362 (by decide) (by omega) (by omega) (fun h362 => ?_) (fun h362 => ?_)
                                                      · skip
                                                        refine k_iinc hC 367 1 (nI (k + 1)) [(14, .int (nI (k + 1))), (15, .int (nI 1)), (13, .int (nI (if gx < k then 1 else 0))), (12, .int (nI 0)), (11, .ref q125), (10, .ref q119), (9, .int (loS s1)), (8, .int ((hiS s1) + (miS s1))), (7, .int (nI (plS s1))), (6, .int (nI (s1.1.length + s1.2.1.length))), (5, .int (nI kd)), (4, .int ((cv >>> ((nI ((i / 16) * 3)) &&& 31)) + (nI (373 * i)))), (3, .int (nI i)), (2, .ref m), (1, .ref q0), (0, .ref bb)] dL_law_367 rfl (nI_1 _) (by decide) rfl ?_
                                                        refine k_goto hC 370 292 dL_law_370 (by decide) ?_
                                                        refine KJ.lvp [0, 2, 3, 4, 5, 6, 7, 8, 9, 10, 11, 12, 13, 14, 15] rfl ?_
                                                        have eg : (if gx < k + 1 then 1 else 0) = (if gx < k then 1 else 0) := (by by_cases z : gx < k; exact (if_pos (by omega)).trans (if_pos z).symm; exact (if_neg (by omega)).trans (if_neg z).symm)
                                                        refine KJ.eql (lv' := [(14, .int (nI (k + 1))), (13, .int (nI (if gx < k + 1 then 1 else 0))), (12, .int (nI 0)), (11, .ref q125), (10, .ref q119), (9, .int (loS s1)), (8, .int ((hiS s1) + (miS s1))), (7, .int (nI (plS s1))), (6, .int (nI (s1.1.length + s1.2.1.length))), (5, .int (nI kd)), (4, .int ((cv >>> ((nI ((i / 16) * 3)) &&& 31)) + (nI (373 * i)))), (3, .int (nI i)), (2, .ref m), (1, .ref q0), (0, .ref bb)]) (by rw [eg] <;> rfl) ?_
                                                        exact KJ.wide (by omega) (by omega) (ih292 (k + 1) gaq sbq gbq (by omega) (by omega) hSa)
                                                      · skip
                                                        exact absurd hkk h362
                                                · skip
                                                  exact absurd h337 (by decide)
                                              · skip
                                                exact absurd h321 (by decide)
                                          · skip
                                            refine k_aload_n hC 299 dL_law_299 rfl ?_
                                            refine k_iload hC 300 dL_law_300 rfl ?_
                                            refine k_iconst hC 302 dL_law_302 (nI 0) (by decide) ?_
                                            refine g_callV hC hX 303 0 ([]) ((q119, .inl (D.1 21, 40, .inl (cpf (wB s1) (fun _ => 0) 40))) :: ((q125, .inl (D.1 21, 40, .inl (cpf (pB s1) (fun _ => 0) 40))) :: (wSm D m pp rr (br s1 kd) u3))) (fun uq => ((q0, .inr (3, [.ref (a 0), .ref (b 0)])) :: (wSt D a uq.1.1 uq.1.2 ++ (wSt D b uq.2.1 uq.2.2 ++ ((q119, .inl (D.1 21, 40, .inl (cpf (wB s1) (fun _ => 0) 40))) :: ((q125, .inl (D.1 21, 40, .inl (cpf (pB s1) (fun _ => 0) 40))) :: (wSm D m pp rr (br s1 kd) u3))))))) (c_X3_jar l hfl D q0 a b (br s1 kd) sb ga gb (nI k) (nI 0) hSa hWT) cw_RL_100 dL_law_303 ⟨Nat.le_of_ble_eq_true rfl, Nat.le_of_ble_eq_true rfl, (show 205028 + 3170 * i + 0 + 2770 + 0 + 1 + 1 + 1 + 1 + 1 + 1 + 1 + 1 + 4 * 40 + 2 + 92 + 1 + 1 + 2 + 2 * k + 2 ≤ 600130 by omega), (show 2665372 + 39010 * i + 0 + 36010 + 0 + 6 + 6 + 6 + 6 + 6 + 6 + 40 + 40 + 24 * 40 + 12 + 1196 + 6 + 6 + 12 + 12 * k + 12 ≤ 7301080 by omega)⟩ rfl (Nat.le_of_ble_eq_true rfl) rfl rfl rfl (by simp only [List.append_assoc, List.cons_append, List.nil_append, List.append_nil]) (fun _ => rfl) (fun _ => by simp only [List.append_assoc, List.cons_append, List.nil_append, List.append_nil]) _ rfl (fun v uq hp => ?_) (fun E hx => absurd hx (no_x (jarK0 h296 (by decide))))
                                            obtain ⟨-, rfl, euq, hSq⟩ := hp
                                            refine KJ.eqs (st' := .int (dtl (br s1 kd) (kn (nI k)) (kn (nI 0))) :: []) rfl ?_
                                            refine KJ.topi (y := (dtl (br s1 kd) k 0)) (by rw [kn_ek h296, kn_ek (by decide)]) ?_
                                            obtain ⟨⟨saq, gaq⟩, sbq, gbq⟩ := uq
                                            dsimp only at euq hSq
                                            have euq2 := euq.symm
                                            subst euq2
                                            refine KJ.eqw (ws' := ((q0, .inr (3, [.ref (a 0), .ref (b 0)])) :: (wSt D a (br s1 kd) gaq ++ (wSt D b sbq gbq ++ ((q119, .inl (D.1 21, 40, .inl (cpf (wB s1) (fun _ => 0) 40))) :: ((q125, .inl (D.1 21, 40, .inl (cpf (pB s1) (fun _ => 0) 40))) :: (wSm D m pp rr (br s1 kd) u3))))))) rfl ?_
                                            have hSa := hSq
                                            refine k_if_lt hC 306 313 dL_law_306 (by decide) (fun h306 => ?_) (fun h306 => ?_)
                                            · skip
                                              refine k_iconst hC 313 dL_law_313 (nI 0) (by decide) ?_
                                              refine k_istore hC 314 15 [(15, .int (nI 0)), (14, .int (nI k)), (13, .int (nI (if gx < k then 1 else 0))), (12, .int (nI 0)), (11, .ref q125), (10, .ref q119), (9, .int (loS s1)), (8, .int ((hiS s1) + (miS s1))), (7, .int (nI (plS s1))), (6, .int (nI (s1.1.length + s1.2.1.length))), (5, .int (nI kd)), (4, .int ((cv >>> ((nI ((i / 16) * 3)) &&& 31)) + (nI (373 * i)))), (3, .int (nI i)), (2, .ref m), (1, .ref q0), (0, .ref bb)] dL_law_314 (by decide) rfl ?_
                                              refine k_aload hC 316 dL_law_316 rfl ?_
                                              refine k_iload hC 318 dL_law_318 rfl ?_
                                              refine n_zald hC 320 31 (nI 0) dL_law_320 rfl (by omega) (by decide) ((cpf_in h296).trans (wB_no hw)) ?_
                                              refine n_if_eq hC 321 332 dL_law_321 (by decide) (by omega) (fun h321 => ?_) (fun h321 => ?_)
                                              · skip
                                                refine k_aload hC 332 dL_law_332 rfl ?_
                                                refine k_iload hC 334 dL_law_334 rfl ?_
                                                refine n_zald hC 336 32 (nI 0) dL_law_336 rfl (by omega) (by decide) ((cpf_in h296).trans (pB_no hp)) ?_
                                                refine n_if_eq hC 337 345 dL_law_337 (by decide) (by omega) (fun h337 => ?_) (fun h337 => ?_)
                                                · skip
                                                  refine k_aload hC 345 dL_law_345 rfl ?_
                                                  refine k_iload hC 347 dL_law_347 rfl ?_
                                                  refine n_zald hC 349 31 (nI 0) dL_law_349 rfl (by omega) (by decide) ((cpf_in h296).trans (wB_no hw)) ?_
                                                  refine n_if_ne hC 350 367 dL_law_350 (by decide) (by omega) (fun h350 => ?_) (fun h350 => ?_)
                                                  · skip
                                                    exact absurd h350 (by decide)
                                                  · skip
                                                    refine k_iload hC 353 dL_law_353 rfl ?_
                                                    refine n_if_eq hC 355 367 dL_law_355 (by decide) (by omega) (fun h355 => ?_) (fun h355 => ?_)
                                                    · skip
                                                      refine k_iinc hC 367 1 (nI (k + 1)) [(14, .int (nI (k + 1))), (15, .int (nI 0)), (13, .int (nI (if gx < k then 1 else 0))), (12, .int (nI 0)), (11, .ref q125), (10, .ref q119), (9, .int (loS s1)), (8, .int ((hiS s1) + (miS s1))), (7, .int (nI (plS s1))), (6, .int (nI (s1.1.length + s1.2.1.length))), (5, .int (nI kd)), (4, .int ((cv >>> ((nI ((i / 16) * 3)) &&& 31)) + (nI (373 * i)))), (3, .int (nI i)), (2, .ref m), (1, .ref q0), (0, .ref bb)] dL_law_367 rfl (nI_1 _) (by decide) rfl ?_
                                                      refine k_goto hC 370 292 dL_law_370 (by decide) ?_
                                                      refine KJ.lvp [0, 2, 3, 4, 5, 6, 7, 8, 9, 10, 11, 12, 13, 14, 15] rfl ?_
                                                      have eg : (if gx < k + 1 then 1 else 0) = (if gx < k then 1 else 0) := (by by_cases z : gx < k; exact (if_pos (by omega)).trans (if_pos z).symm; exact (if_neg (by omega)).trans (if_neg z).symm)
                                                      refine KJ.eql (lv' := [(14, .int (nI (k + 1))), (13, .int (nI (if gx < k + 1 then 1 else 0))), (12, .int (nI 0)), (11, .ref q125), (10, .ref q119), (9, .int (loS s1)), (8, .int ((hiS s1) + (miS s1))), (7, .int (nI (plS s1))), (6, .int (nI (s1.1.length + s1.2.1.length))), (5, .int (nI kd)), (4, .int ((cv >>> ((nI ((i / 16) * 3)) &&& 31)) + (nI (373 * i)))), (3, .int (nI i)), (2, .ref m), (1, .ref q0), (0, .ref bb)]) (by rw [eg] <;> rfl) ?_
                                                      exact KJ.wide (by omega) (by omega) (ih292 (k + 1) gaq sbq gbq (by omega) (by omega) hSa)
                                                    · skip
                                                      exact absurd h355 (by decide)
                                                · skip
                                                  exact absurd h337 (by decide)
                                              · skip
                                                exact absurd h321 (by decide)
                                            · skip
                                              exact absurd (dtl0_no hs) h306
                                  exact KJ.wide (by omega) (by omega) (loop292 41 0 gaq sbq gbq (by omega) (by omega) hSa)
                                · skip
                                  exact absurd (Int32.not_lt.mp (dtl0_in hT)) h281
                            · skip
                              exact absurd h255 (by decide)
                          · skip
                            exact absurd rfl h248
                        · skip
                          exact absurd h239 (by decide)
                · skip
                  have hjT : (br s1 kd).1.length + (br s1 kd).2.1.length = s1.1.length + s1.2.1.length := hjr
                  refine k_aload_n hC 185 dL_law_185 rfl ?_
                  refine k_iload hC 186 dL_law_186 rfl ?_
                  refine hf_callS (n := 2) hC hX 188 [] ((q119, .inl (D.1 21, 40, .inl (cpf (wB s1) (fun _ => 0) 40))) :: ((q125, .inl (D.1 21, 40, .inl (cpf (pB s1) (fun _ => 0) 40))) :: (wSm D m pp rr s1 x1))) (fun u => ((q0, .inr (3, [.ref (a 0), .ref (b 0)])) :: (wSt D a u.1.1 u.1.2 ++ (wSt D b u.2.1 u.2.2 ++ ((q119, .inl (D.1 21, 40, .inl (cpf (wB s1) (fun _ => 0) 40))) :: ((q125, .inl (D.1 21, 40, .inl (cpf (pB s1) (fun _ => 0) 40))) :: (wSm D m pp rr s1 x1))))))) (h_fetch l hfl D q0 a b s1 sb ga gb kd hSa hW1 hkd) wq_13_11 wq_13_12 wq_2_23 wq_13_13 ⟨by decide, by decide, by decide +kernel⟩ dL_law_188 ⟨Nat.le_of_ble_eq_true rfl, Nat.le_of_ble_eq_true rfl, (show 205028 + 3170 * i + 0 + 2770 + 0 + 1 + 1 + 1 + 1 + 1 + 1 + 1 + 1 + 4 * 40 + 2 ≤ 600130 by omega), (show 2665372 + 39010 * i + 0 + 36010 + 0 + 6 + 6 + 6 + 6 + 6 + 6 + 40 + 40 + 24 * 40 + 12 ≤ 7301080 by omega)⟩ rfl (Nat.le_of_ble_eq_true rfl) (by simp only [List.append_assoc, List.cons_append, List.nil_append]) (fun _ => rfl) (fun _ => by simp only [List.append_assoc, List.cons_append, List.nil_append]) _ rfl (fun v u hp => ?_)
                  obtain ⟨rfl, eu, hSu⟩ := hp
                  refine KJ.eqs (st' := .int (ocI (oc s1 kd)) :: []) rfl ?_
                  refine KJ.topi (y := (-9)) (by rw [h4]; rfl) ?_
                  obtain ⟨⟨saq, gaq⟩, sbq, gbq⟩ := u
                  dsimp only at eu hSu
                  subst eu
                  have hSa := hSu
                  refine KJ.eqw (ws' := ((q0, .inr (3, [.ref (a 0), .ref (b 0)])) :: (wSt D a (br s1 kd) gaq ++ (wSt D b sbq gbq ++ ((q119, .inl (D.1 21, 40, .inl (cpf (wB s1) (fun _ => 0) 40))) :: ((q125, .inl (D.1 21, 40, .inl (cpf (pB s1) (fun _ => 0) 40))) :: (wSm D m pp rr s1 x1))))))) rfl ?_
                  refine k_istore hC 191 12 [(12, .int (-9)), (11, .ref q125), (10, .ref q119), (9, .int (loS s1)), (8, .int ((hiS s1) + (miS s1))), (7, .int (nI (plS s1))), (6, .int (nI (s1.1.length + s1.2.1.length))), (5, .int (nI kd)), (4, .int ((cv >>> ((nI ((i / 16) * 3)) &&& 31)) + (nI (373 * i)))), (3, .int (nI i)), (2, .ref m), (1, .ref q0), (0, .ref bb)] dL_law_191 (by decide) rfl ?_
                  refine k_aload_n hC 193 dL_law_193 rfl ?_
                  refine k_iload hC 194 dL_law_194 rfl ?_
                  refine fp_callVe hC 196 33 ((q0, .inr (3, [.ref (a 0), .ref (b 0)])) :: (wSt D a (br s1 kd) gaq ++ (wSt D b sbq gbq ++ ((q119, .inl (D.1 21, 40, .inl (cpf (wB s1) (fun _ => 0) 40))) :: ((q125, .inl (D.1 21, 40, .inl (cpf (pB s1) (fun _ => 0) 40))) :: []))))) (fun u3 => ((q0, .inr (3, [.ref (a 0), .ref (b 0)])) :: (wSt D a (br s1 kd) gaq ++ (wSt D b sbq gbq ++ ((q119, .inl (D.1 21, 40, .inl (cpf (wB s1) (fun _ => 0) 40))) :: ((q125, .inl (D.1 21, 40, .inl (cpf (pB s1) (fun _ => 0) 40))) :: (wSm D m pp rr (br s1 kd) u3))))))) (f_sim_fetch l D m pp rr s1 x1 kd hW1 hJ1 hI1 hkd) cw_RL_82 dL_law_196 ⟨Nat.le_of_ble_eq_true rfl, Nat.le_of_ble_eq_true rfl, (show 205028 + 3170 * i + 0 + 2770 + 0 + 1 + 1 + 1 + 1 + 1 + 1 + 1 + 1 + 4 * 40 + 2 + 92 ≤ 600130 by omega), (show 2665372 + 39010 * i + 0 + 36010 + 0 + 6 + 6 + 6 + 6 + 6 + 6 + 40 + 40 + 24 * 40 + 12 + 1196 ≤ 7301080 by omega)⟩ rfl (Nat.le_of_ble_eq_true rfl) rfl rfl rfl (by simp only [List.append_assoc, List.cons_append, List.nil_append, List.append_nil]) (fun _ u hp => wSm_le hp.2.2) (fun _ => by simp only [List.append_assoc, List.cons_append, List.nil_append, List.append_nil]) _ rfl (fun v u3 hp => ?_)
                  obtain ⟨rfl, hJ3, hL3⟩ := hp
                  refine KJ.eqs (st' := .int (ocI (oc s1 kd)) :: []) rfl ?_
                  refine KJ.topi (y := (-9)) (by rw [h4]; rfl) ?_
                  refine k_iload hC 199 dL_law_199 rfl ?_
                  refine k_icmp_ne hC 201 251 dL_law_201 (by decide) (fun h201 => ?_) (fun h201 => ?_)
                  · skip
                    exact absurd rfl h201
                  · skip
                    refine k_iload hC 204 dL_law_204 rfl ?_
                    refine k_if_ne hC 206 213 dL_law_206 (by decide) (fun h206 => ?_) (fun h206 => ?_)
                    · skip
                      refine k_iconst hC 213 dL_law_213 (nI 0) (by decide) ?_
                      refine k_aload hC 214 dL_law_214 rfl ?_
                      refine k_iload hC 216 dL_law_216 rfl ?_
                      refine n_zald hC 218 31 (nI 0) dL_law_218 rfl (by omega) (by decide) ((cpf_in hkd).trans (wB_no hin)) ?_
                      refine n_icmp_ne hC 219 251 dL_law_219 (by decide) (by omega) (by omega) (fun h219 => ?_) (fun h219 => ?_)
                      · skip
                        exact absurd h219 (by decide)
                      · skip
                        refine k_aload_n hC 222 dL_law_222 rfl ?_
                        refine k_bipush hC 223 dL_law_223 (nI 6) (by decide) ?_
                        refine g_callV hC hX 225 0 ([]) ((q119, .inl (D.1 21, 40, .inl (cpf (wB s1) (fun _ => 0) 40))) :: ((q125, .inl (D.1 21, 40, .inl (cpf (pB s1) (fun _ => 0) 40))) :: (wSm D m pp rr (br s1 kd) u3))) (fun uq => ((q0, .inr (3, [.ref (a 0), .ref (b 0)])) :: (wSt D a uq.1.1 uq.1.2 ++ (wSt D b uq.2.1 uq.2.2 ++ ((q119, .inl (D.1 21, 40, .inl (cpf (wB s1) (fun _ => 0) 40))) :: ((q125, .inl (D.1 21, 40, .inl (cpf (pB s1) (fun _ => 0) 40))) :: (wSm D m pp rr (br s1 kd) u3))))))) (c_X3_count l hfl D q0 a b (br s1 kd) sbq gaq gbq (nI 6) hSa hWT) cw_RL_97 dL_law_225 ⟨Nat.le_of_ble_eq_true rfl, Nat.le_of_ble_eq_true rfl, (show 205028 + 3170 * i + 0 + 2770 + 0 + 1 + 1 + 1 + 1 + 1 + 1 + 1 + 1 + 4 * 40 + 2 + 92 + 1 ≤ 600130 by omega), (show 2665372 + 39010 * i + 0 + 36010 + 0 + 6 + 6 + 6 + 6 + 6 + 6 + 40 + 40 + 24 * 40 + 12 + 1196 + 6 ≤ 7301080 by omega)⟩ rfl (Nat.le_of_ble_eq_true rfl) rfl rfl rfl (by simp only [List.append_assoc, List.cons_append, List.nil_append, List.append_nil]) (fun _ => rfl) (fun _ => by simp only [List.append_assoc, List.cons_append, List.nil_append, List.append_nil]) _ rfl (fun v uq hp => ?_) (fun E hx => absurd hx (no_x (countK0 (by decide))))
                        obtain ⟨-, rfl, euq, hSq⟩ := hp
                        refine KJ.eqs (st' := .int (ct (br s1 kd) (kn (nI 6))) :: []) rfl ?_
                        refine KJ.topi (y := (hiS (br s1 kd))) (by rw [kn_ek (by decide)]; rfl) ?_
                        obtain ⟨⟨saq, gaq⟩, sbq, gbq⟩ := uq
                        dsimp only at euq hSq
                        have euq2 := euq.symm
                        subst euq2
                        refine KJ.eqw (ws' := ((q0, .inr (3, [.ref (a 0), .ref (b 0)])) :: (wSt D a (br s1 kd) gaq ++ (wSt D b sbq gbq ++ ((q119, .inl (D.1 21, 40, .inl (cpf (wB s1) (fun _ => 0) 40))) :: ((q125, .inl (D.1 21, 40, .inl (cpf (pB s1) (fun _ => 0) 40))) :: (wSm D m pp rr (br s1 kd) u3))))))) rfl ?_
                        have hSa := hSq
                        refine k_aload_n hC 228 dL_law_228 rfl ?_
                        refine k_bipush hC 229 dL_law_229 (nI 7) (by decide) ?_
                        refine g_callV hC hX 231 0 ([]) ((q119, .inl (D.1 21, 40, .inl (cpf (wB s1) (fun _ => 0) 40))) :: ((q125, .inl (D.1 21, 40, .inl (cpf (pB s1) (fun _ => 0) 40))) :: (wSm D m pp rr (br s1 kd) u3))) (fun uq => ((q0, .inr (3, [.ref (a 0), .ref (b 0)])) :: (wSt D a uq.1.1 uq.1.2 ++ (wSt D b uq.2.1 uq.2.2 ++ ((q119, .inl (D.1 21, 40, .inl (cpf (wB s1) (fun _ => 0) 40))) :: ((q125, .inl (D.1 21, 40, .inl (cpf (pB s1) (fun _ => 0) 40))) :: (wSm D m pp rr (br s1 kd) u3))))))) (c_X3_count l hfl D q0 a b (br s1 kd) sbq gaq gbq (nI 7) hSa hWT) cw_RL_97 dL_law_231 ⟨Nat.le_of_ble_eq_true rfl, Nat.le_of_ble_eq_true rfl, (show 205028 + 3170 * i + 0 + 2770 + 0 + 1 + 1 + 1 + 1 + 1 + 1 + 1 + 1 + 4 * 40 + 2 + 92 + 1 + 1 ≤ 600130 by omega), (show 2665372 + 39010 * i + 0 + 36010 + 0 + 6 + 6 + 6 + 6 + 6 + 6 + 40 + 40 + 24 * 40 + 12 + 1196 + 6 + 6 ≤ 7301080 by omega)⟩ rfl (Nat.le_of_ble_eq_true rfl) rfl rfl rfl (by simp only [List.append_assoc, List.cons_append, List.nil_append, List.append_nil]) (fun _ => rfl) (fun _ => by simp only [List.append_assoc, List.cons_append, List.nil_append, List.append_nil]) _ rfl (fun v uq hp => ?_) (fun E hx => absurd hx (no_x (countK0 (by decide))))
                        obtain ⟨-, rfl, euq, hSq⟩ := hp
                        refine KJ.eqs (st' := .int (ct (br s1 kd) (kn (nI 7))) :: .int (hiS (br s1 kd)) :: []) rfl ?_
                        refine KJ.topi (y := (miS (br s1 kd))) (by rw [kn_ek (by decide)]; rfl) ?_
                        obtain ⟨⟨saq, gaq⟩, sbq, gbq⟩ := uq
                        dsimp only at euq hSq
                        have euq2 := euq.symm
                        subst euq2
                        refine KJ.eqw (ws' := ((q0, .inr (3, [.ref (a 0), .ref (b 0)])) :: (wSt D a (br s1 kd) gaq ++ (wSt D b sbq gbq ++ ((q119, .inl (D.1 21, 40, .inl (cpf (wB s1) (fun _ => 0) 40))) :: ((q125, .inl (D.1 21, 40, .inl (cpf (pB s1) (fun _ => 0) 40))) :: (wSm D m pp rr (br s1 kd) u3))))))) rfl ?_
                        have hSa := hSq
                        refine k_iadd hC 234 dL_law_234 ?_
                        refine k_iload hC 235 dL_law_235 rfl ?_
                        refine k_iload hC 237 dL_law_237 rfl ?_
                        refine k_if_ge hC 239 246 dL_law_239 (by decide) (fun h239 => ?_) (fun h239 => ?_)
                        · skip
                          exact absurd h239 (by decide)
                        · skip
                          refine k_iconst hC 242 dL_law_242 (nI 0) (by decide) ?_
                          refine k_goto hC 243 247 dL_law_243 (by decide) ?_
                          refine k_iadd hC 247 dL_law_247 ?_
                          refine KJ.topi (y := hiS (br s1 kd) + miS (br s1 kd)) (by rw [nI_0, Int32.add_zero, hsum]) ?_
                          refine k_icmp_eq hC 248 253 dL_law_248 (by decide) (fun h248 => ?_) (fun h248 => ?_)
                          · skip
                            refine k_iload hC 253 dL_law_253 rfl ?_
                            refine k_if_ge hC 255 269 dL_law_255 (by decide) (fun h255 => ?_) (fun h255 => ?_)
                            · skip
                              exact absurd h255 (by decide)
                            · skip
                              refine k_aload_n hC 258 dL_law_258 rfl ?_
                              refine k_bipush hC 259 dL_law_259 (nI 9) (by decide) ?_
                              refine g_callV hC hX 261 0 ([]) ((q119, .inl (D.1 21, 40, .inl (cpf (wB s1) (fun _ => 0) 40))) :: ((q125, .inl (D.1 21, 40, .inl (cpf (pB s1) (fun _ => 0) 40))) :: (wSm D m pp rr (br s1 kd) u3))) (fun uq => ((q0, .inr (3, [.ref (a 0), .ref (b 0)])) :: (wSt D a uq.1.1 uq.1.2 ++ (wSt D b uq.2.1 uq.2.2 ++ ((q119, .inl (D.1 21, 40, .inl (cpf (wB s1) (fun _ => 0) 40))) :: ((q125, .inl (D.1 21, 40, .inl (cpf (pB s1) (fun _ => 0) 40))) :: (wSm D m pp rr (br s1 kd) u3))))))) (c_X3_count l hfl D q0 a b (br s1 kd) sbq gaq gbq (nI 9) hSa hWT) cw_RL_97 dL_law_261 ⟨Nat.le_of_ble_eq_true rfl, Nat.le_of_ble_eq_true rfl, (show 205028 + 3170 * i + 0 + 2770 + 0 + 1 + 1 + 1 + 1 + 1 + 1 + 1 + 1 + 4 * 40 + 2 + 92 + 1 + 1 + 1 ≤ 600130 by omega), (show 2665372 + 39010 * i + 0 + 36010 + 0 + 6 + 6 + 6 + 6 + 6 + 6 + 40 + 40 + 24 * 40 + 12 + 1196 + 6 + 6 + 6 ≤ 7301080 by omega)⟩ rfl (Nat.le_of_ble_eq_true rfl) rfl rfl rfl (by simp only [List.append_assoc, List.cons_append, List.nil_append, List.append_nil]) (fun _ => rfl) (fun _ => by simp only [List.append_assoc, List.cons_append, List.nil_append, List.append_nil]) _ rfl (fun v uq hp => ?_) (fun E hx => absurd hx (no_x (countK0 (by decide))))
                              obtain ⟨-, rfl, euq, hSq⟩ := hp
                              refine KJ.eqs (st' := .int (ct (br s1 kd) (kn (nI 9))) :: []) rfl ?_
                              refine KJ.topi (y := (loS (br s1 kd))) (by rw [kn_ek (by decide)]; rfl) ?_
                              obtain ⟨⟨saq, gaq⟩, sbq, gbq⟩ := uq
                              dsimp only at euq hSq
                              have euq2 := euq.symm
                              subst euq2
                              refine KJ.eqw (ws' := ((q0, .inr (3, [.ref (a 0), .ref (b 0)])) :: (wSt D a (br s1 kd) gaq ++ (wSt D b sbq gbq ++ ((q119, .inl (D.1 21, 40, .inl (cpf (wB s1) (fun _ => 0) 40))) :: ((q125, .inl (D.1 21, 40, .inl (cpf (pB s1) (fun _ => 0) 40))) :: (wSm D m pp rr (br s1 kd) u3))))))) rfl ?_
                              have hSa := hSq
                              refine k_iload hC 264 dL_law_264 rfl ?_
                              refine KJ.topi (y := loS (br s1 kd)) hlo.symm ?_
                              refine k_icmp_ne hC 266 284 dL_law_266 (by decide) (fun h266 => ?_) (fun h266 => ?_)
                              · skip
                                exact absurd rfl h266
                              · skip
                                refine k_iload hC 269 dL_law_269 rfl ?_
                                refine k_if_lt hC 271 286 dL_law_271 (by decide) (fun h271 => ?_) (fun h271 => ?_)
                                · skip
                                  refine k_iconst hC 286 dL_law_286 (nI 0) (by decide) ?_
                                  refine k_istore hC 287 13 [(13, .int (nI 0)), (12, .int (-9)), (11, .ref q125), (10, .ref q119), (9, .int (loS s1)), (8, .int ((hiS s1) + (miS s1))), (7, .int (nI (plS s1))), (6, .int (nI (s1.1.length + s1.2.1.length))), (5, .int (nI kd)), (4, .int ((cv >>> ((nI ((i / 16) * 3)) &&& 31)) + (nI (373 * i)))), (3, .int (nI i)), (2, .ref m), (1, .ref q0), (0, .ref bb)] dL_law_287 (by decide) rfl ?_
                                  refine k_iconst hC 289 dL_law_289 (nI 0) (by decide) ?_
                                  refine k_istore hC 290 14 [(14, .int (nI 0)), (13, .int (nI 0)), (12, .int (-9)), (11, .ref q125), (10, .ref q119), (9, .int (loS s1)), (8, .int ((hiS s1) + (miS s1))), (7, .int (nI (plS s1))), (6, .int (nI (s1.1.length + s1.2.1.length))), (5, .int (nI kd)), (4, .int ((cv >>> ((nI ((i / 16) * 3)) &&& 31)) + (nI (373 * i)))), (3, .int (nI i)), (2, .ref m), (1, .ref q0), (0, .ref bb)] dL_law_290 (by decide) rfl ?_
                                  refine KJ.eql (lv' := [(14, .int (nI 0)), (13, .int (nI (if gx < 0 then 1 else 0))), (12, .int (-9)), (11, .ref q125), (10, .ref q119), (9, .int (loS s1)), (8, .int ((hiS s1) + (miS s1))), (7, .int (nI (plS s1))), (6, .int (nI (s1.1.length + s1.2.1.length))), (5, .int (nI kd)), (4, .int ((cv >>> ((nI ((i / 16) * 3)) &&& 31)) + (nI (373 * i)))), (3, .int (nI i)), (2, .ref m), (1, .ref q0), (0, .ref bb)]) (by rw [if_neg (Nat.not_lt_zero gx)]) ?_
                                  have loop292 : ∀ (nn292 : Nat) (k : Nat) (ga : PG) (sb : PS) (gb : PG), 40 - k < nn292 → k ≤ 40 → SR (br s1 kd) ga → KJ l G D room_1 16 (205028 + 3170 * i + 0 + 2770 + 0 + 1 + 1 + 1 + 1 + 1 + 1 + 1 + 1 + 4 * 40 + 2 + 92 + 1 + 1 + 1 + 2 * k) (2665372 + 39010 * i + 0 + 36010 + 0 + 6 + 6 + 6 + 6 + 6 + 6 + 40 + 40 + 24 * 40 + 12 + 1196 + 6 + 6 + 6 + 12 * k) ((q0, .inr (3, [.ref (a 0), .ref (b 0)])) :: (wSt D a (br s1 kd) ga ++ (wSt D b sb gb ++ ((q119, .inl (D.1 21, 40, .inl (cpf (wB s1) (fun _ => 0) 40))) :: ((q125, .inl (D.1 21, 40, .inl (cpf (pB s1) (fun _ => 0) 40))) :: (wSm D m pp rr (br s1 kd) u3)))))) [(14, .int (nI k)), (13, .int (nI (if gx < k then 1 else 0))), (12, .int (-9)), (11, .ref q125), (10, .ref q119), (9, .int (loS s1)), (8, .int ((hiS s1) + (miS s1))), (7, .int (nI (plS s1))), (6, .int (nI (s1.1.length + s1.2.1.length))), (5, .int (nI kd)), (4, .int ((cv >>> ((nI ((i / 16) * 3)) &&& 31)) + (nI (373 * i)))), (3, .int (nI i)), (2, .ref m), (1, .ref q0), (0, .ref bb)] 292 ([]) := by
                                    intro nn292
                                    induction nn292 with
                                    | zero => intro k ga sb gb h; exact absurd h (Nat.not_lt_zero _)
                                    | succ nn292 ih292 =>
                                      intro k ga sb gb hn292 hk40 hSa
                                      refine k_iload hC 292 dL_law_292 rfl ?_
                                      refine k_bipush hC 294 dL_law_294 (nI 40) (by decide) ?_
                                      refine n_icmp_ge hC 296 373 dL_law_296 (by decide) (by omega) (by omega) (fun h296 => ?_) (fun h296 => ?_)
                                      · skip
                                        obtain rfl : k = 40 := by omega
                                        refine KJ.eql (lv' := [(14, .int (nI 40)), (13, .int (nI 0)), (12, .int (-9)), (11, .ref q125), (10, .ref q119), (9, .int (loS s1)), (8, .int ((hiS s1) + (miS s1))), (7, .int (nI (plS s1))), (6, .int (nI (s1.1.length + s1.2.1.length))), (5, .int (nI kd)), (4, .int ((cv >>> ((nI ((i / 16) * 3)) &&& 31)) + (nI (373 * i)))), (3, .int (nI i)), (2, .ref m), (1, .ref q0), (0, .ref bb)]) (by rw [if_neg (by omega)]) ?_
                                        refine k_iload hC 373 dL_law_373 rfl ?_
                                        refine k_if_le hC 375 389 dL_law_375 (by decide) (fun h375 => ?_) (fun h375 => ?_)
                                        · skip
                                          refine k_iconst hC 389 dL_law_389 (nI 0) (by decide) ?_
                                          refine k_istore hC 390 14 [(14, .int (nI 0)), (13, .int (nI 0)), (12, .int (-9)), (11, .ref q125), (10, .ref q119), (9, .int (loS s1)), (8, .int ((hiS s1) + (miS s1))), (7, .int (nI (plS s1))), (6, .int (nI (s1.1.length + s1.2.1.length))), (5, .int (nI kd)), (4, .int ((cv >>> ((nI ((i / 16) * 3)) &&& 31)) + (nI (373 * i)))), (3, .int (nI i)), (2, .ref m), (1, .ref q0), (0, .ref bb)] dL_law_390 (by decide) rfl ?_
                                          refine k_iload hC 392 dL_law_392 rfl ?_
                                          refine k_iload hC 394 dL_law_394 rfl ?_
                                          refine n_if_eq hC 396 403 dL_law_396 (by decide) (by omega) (fun h396 => ?_) (fun h396 => ?_)
                                          · skip
                                            refine k_iconst hC 403 dL_law_403 (nI 0) (by decide) ?_
                                            refine n_icmp_ne hC 404 448 dL_law_404 (by decide) (by omega) (by omega) (fun h404 => ?_) (fun h404 => ?_)
                                            · skip
                                              exact absurd h404 (by decide)
                                            · skip
                                              refine k_aload_n hC 407 dL_law_407 rfl ?_
                                              refine k_bipush hC 408 dL_law_408 (nI 9) (by decide) ?_
                                              refine g_callV hC hX 410 0 ([]) ((q119, .inl (D.1 21, 40, .inl (cpf (wB s1) (fun _ => 0) 40))) :: ((q125, .inl (D.1 21, 40, .inl (cpf (pB s1) (fun _ => 0) 40))) :: (wSm D m pp rr (br s1 kd) u3))) (fun uq => ((q0, .inr (3, [.ref (a 0), .ref (b 0)])) :: (wSt D a uq.1.1 uq.1.2 ++ (wSt D b uq.2.1 uq.2.2 ++ ((q119, .inl (D.1 21, 40, .inl (cpf (wB s1) (fun _ => 0) 40))) :: ((q125, .inl (D.1 21, 40, .inl (cpf (pB s1) (fun _ => 0) 40))) :: (wSm D m pp rr (br s1 kd) u3))))))) (c_X3_count l hfl D q0 a b (br s1 kd) sb ga gb (nI 9) hSa hWT) cw_RL_97 dL_law_410 ⟨Nat.le_of_ble_eq_true rfl, Nat.le_of_ble_eq_true rfl, (show 205028 + 3170 * i + 0 + 2770 + 0 + 1 + 1 + 1 + 1 + 1 + 1 + 1 + 1 + 4 * 40 + 2 + 92 + 1 + 1 + 1 + 2 * 40 + 1 ≤ 600130 by omega), (show 2665372 + 39010 * i + 0 + 36010 + 0 + 6 + 6 + 6 + 6 + 6 + 6 + 40 + 40 + 24 * 40 + 12 + 1196 + 6 + 6 + 6 + 12 * 40 + 6 ≤ 7301080 by omega)⟩ rfl (Nat.le_of_ble_eq_true rfl) rfl rfl rfl (by simp only [List.append_assoc, List.cons_append, List.nil_append, List.append_nil]) (fun _ => rfl) (fun _ => by simp only [List.append_assoc, List.cons_append, List.nil_append, List.append_nil]) _ rfl (fun v uq hp => ?_) (fun E hx => absurd hx (no_x (countK0 (by decide))))
                                              obtain ⟨-, rfl, euq, hSq⟩ := hp
                                              refine KJ.eqs (st' := .int (ct (br s1 kd) (kn (nI 9))) :: []) rfl ?_
                                              refine KJ.topi (y := (loS (br s1 kd))) (by rw [kn_ek (by decide)]; rfl) ?_
                                              obtain ⟨⟨saq, gaq⟩, sbq, gbq⟩ := uq
                                              dsimp only at euq hSq
                                              have euq2 := euq.symm
                                              subst euq2
                                              refine KJ.eqw (ws' := ((q0, .inr (3, [.ref (a 0), .ref (b 0)])) :: (wSt D a (br s1 kd) gaq ++ (wSt D b sbq gbq ++ ((q119, .inl (D.1 21, 40, .inl (cpf (wB s1) (fun _ => 0) 40))) :: ((q125, .inl (D.1 21, 40, .inl (cpf (pB s1) (fun _ => 0) 40))) :: (wSm D m pp rr (br s1 kd) u3))))))) rfl ?_
                                              have hSa := hSq
                                              refine k_iload hC 413 dL_law_413 rfl ?_
                                              refine k_isub hC 415 dL_law_415 (KJ.topi (y := (nI 0)) (by rw [hlo, Int32.sub_self, nI_0]) ?_)
                                              refine k_iload hC 416 dL_law_416 rfl ?_
                                              refine n_if_eq hC 418 428 dL_law_418 (by decide) (by omega) (fun h418 => ?_) (fun h418 => ?_)
                                              · skip
                                                refine k_iconst hC 428 dL_law_428 (nI 0) (by decide) ?_
                                                refine n_icmp_gt hC 429 448 dL_law_429 (by decide) (by omega) (by omega) (fun h429 => ?_) (fun h429 => ?_)
                                                · skip
                                                  exact absurd h429 (by decide)
                                                · skip
                                                  refine k_iload hC 432 dL_law_432 rfl ?_
                                                  refine n_if_eq hC 434 450 dL_law_434 (by decide) (by omega) (fun h434 => ?_) (fun h434 => ?_)
                                                  · skip
                                                    refine k_aload_n hC 450 dL_law_450 rfl ?_
                                                    refine k_iconst hC 451 dL_law_451 (nI 1) (by decide) ?_
                                                    refine g_callV hC hX 452 0 ([]) ((q119, .inl (D.1 21, 40, .inl (cpf (wB s1) (fun _ => 0) 40))) :: ((q125, .inl (D.1 21, 40, .inl (cpf (pB s1) (fun _ => 0) 40))) :: (wSm D m pp rr (br s1 kd) u3))) (fun uq => ((q0, .inr (3, [.ref (a 0), .ref (b 0)])) :: (wSt D a uq.1.1 uq.1.2 ++ (wSt D b uq.2.1 uq.2.2 ++ ((q119, .inl (D.1 21, 40, .inl (cpf (wB s1) (fun _ => 0) 40))) :: ((q125, .inl (D.1 21, 40, .inl (cpf (pB s1) (fun _ => 0) 40))) :: (wSm D m pp rr (br s1 kd) u3))))))) (c_X3_count l hfl D q0 a b (br s1 kd) sbq gaq gbq (nI 1) hSa hWT) cw_RL_97 dL_law_452 ⟨Nat.le_of_ble_eq_true rfl, Nat.le_of_ble_eq_true rfl, (show 205028 + 3170 * i + 0 + 2770 + 0 + 1 + 1 + 1 + 1 + 1 + 1 + 1 + 1 + 4 * 40 + 2 + 92 + 1 + 1 + 1 + 2 * 40 + 1 + 1 ≤ 600130 by omega), (show 2665372 + 39010 * i + 0 + 36010 + 0 + 6 + 6 + 6 + 6 + 6 + 6 + 40 + 40 + 24 * 40 + 12 + 1196 + 6 + 6 + 6 + 12 * 40 + 6 + 6 ≤ 7301080 by omega)⟩ rfl (Nat.le_of_ble_eq_true rfl) rfl rfl rfl (by simp only [List.append_assoc, List.cons_append, List.nil_append, List.append_nil]) (fun _ => rfl) (fun _ => by simp only [List.append_assoc, List.cons_append, List.nil_append, List.append_nil]) _ rfl (fun v uq hp => ?_) (fun E hx => absurd hx (no_x (countK0 (by decide))))
                                                    obtain ⟨-, rfl, euq, hSq⟩ := hp
                                                    refine KJ.eqs (st' := .int (ct (br s1 kd) (kn (nI 1))) :: []) rfl ?_
                                                    refine KJ.topi (y := (nI ((br s1 kd).1.length))) (by rw [kn_ek (by decide)]; rfl) ?_
                                                    obtain ⟨⟨saq, gaq⟩, sbq, gbq⟩ := uq
                                                    dsimp only at euq hSq
                                                    have euq2 := euq.symm
                                                    subst euq2
                                                    refine KJ.eqw (ws' := ((q0, .inr (3, [.ref (a 0), .ref (b 0)])) :: (wSt D a (br s1 kd) gaq ++ (wSt D b sbq gbq ++ ((q119, .inl (D.1 21, 40, .inl (cpf (wB s1) (fun _ => 0) 40))) :: ((q125, .inl (D.1 21, 40, .inl (cpf (pB s1) (fun _ => 0) 40))) :: (wSm D m pp rr (br s1 kd) u3))))))) rfl ?_
                                                    have hSa := hSq
                                                    refine k_aload_n hC 455 dL_law_455 rfl ?_
                                                    refine k_iconst hC 456 dL_law_456 (nI 2) (by decide) ?_
                                                    refine g_callV hC hX 457 0 ([]) ((q119, .inl (D.1 21, 40, .inl (cpf (wB s1) (fun _ => 0) 40))) :: ((q125, .inl (D.1 21, 40, .inl (cpf (pB s1) (fun _ => 0) 40))) :: (wSm D m pp rr (br s1 kd) u3))) (fun uq => ((q0, .inr (3, [.ref (a 0), .ref (b 0)])) :: (wSt D a uq.1.1 uq.1.2 ++ (wSt D b uq.2.1 uq.2.2 ++ ((q119, .inl (D.1 21, 40, .inl (cpf (wB s1) (fun _ => 0) 40))) :: ((q125, .inl (D.1 21, 40, .inl (cpf (pB s1) (fun _ => 0) 40))) :: (wSm D m pp rr (br s1 kd) u3))))))) (c_X3_count l hfl D q0 a b (br s1 kd) sbq gaq gbq (nI 2) hSa hWT) cw_RL_97 dL_law_457 ⟨Nat.le_of_ble_eq_true rfl, Nat.le_of_ble_eq_true rfl, (show 205028 + 3170 * i + 0 + 2770 + 0 + 1 + 1 + 1 + 1 + 1 + 1 + 1 + 1 + 4 * 40 + 2 + 92 + 1 + 1 + 1 + 2 * 40 + 1 + 1 + 1 ≤ 600130 by omega), (show 2665372 + 39010 * i + 0 + 36010 + 0 + 6 + 6 + 6 + 6 + 6 + 6 + 40 + 40 + 24 * 40 + 12 + 1196 + 6 + 6 + 6 + 12 * 40 + 6 + 6 + 6 ≤ 7301080 by omega)⟩ rfl (Nat.le_of_ble_eq_true rfl) rfl rfl rfl (by simp only [List.append_assoc, List.cons_append, List.nil_append, List.append_nil]) (fun _ => rfl) (fun _ => by simp only [List.append_assoc, List.cons_append, List.nil_append, List.append_nil]) _ rfl (fun v uq hp => ?_) (fun E hx => absurd hx (no_x (countK0 (by decide))))
                                                    obtain ⟨-, rfl, euq, hSq⟩ := hp
                                                    refine KJ.eqs (st' := .int (ct (br s1 kd) (kn (nI 2))) :: .int (nI ((br s1 kd).1.length)) :: []) rfl ?_
                                                    refine KJ.topi (y := (nI ((br s1 kd).2.1.length))) (by rw [kn_ek (by decide)]; rfl) ?_
                                                    obtain ⟨⟨saq, gaq⟩, sbq, gbq⟩ := uq
                                                    dsimp only at euq hSq
                                                    have euq2 := euq.symm
                                                    subst euq2
                                                    refine KJ.eqw (ws' := ((q0, .inr (3, [.ref (a 0), .ref (b 0)])) :: (wSt D a (br s1 kd) gaq ++ (wSt D b sbq gbq ++ ((q119, .inl (D.1 21, 40, .inl (cpf (wB s1) (fun _ => 0) 40))) :: ((q125, .inl (D.1 21, 40, .inl (cpf (pB s1) (fun _ => 0) 40))) :: (wSm D m pp rr (br s1 kd) u3))))))) rfl ?_
                                                    have hSa := hSq
                                                    refine n_iadd hC 460 (((br s1 kd).1.length) + ((br s1 kd).2.1.length)) dL_law_460 rfl ?_
                                                    refine k_iload hC 461 dL_law_461 rfl ?_
                                                    refine k_iload hC 463 dL_law_463 rfl ?_
                                                    refine k_if_le hC 465 477 dL_law_465 (by decide) (fun h465 => ?_) (fun h465 => ?_)
                                                    · skip
                                                      refine k_iconst hC 477 dL_law_477 (nI 0) (by decide) ?_
                                                      refine n_iadd hC 478 ((s1.1.length + s1.2.1.length) + 0) dL_law_478 rfl ?_
                                                      refine n_icmp_eq hC 479 484 dL_law_479 (by decide) (by omega) (by omega) (fun h479 => ?_) (fun h479 => ?_)
                                                      · skip
                                                        by_cases hpj : pnd (br s1 kd) < jrs (br s1 kd)
                                                        · skip
                                                          have hpj2 : pnd (br s1 kd) < (br s1 kd).1.length + (br s1 kd).2.1.length := hpj
                                                          have hsl : (sw (br s1 kd)).2 < 40 := inn_lt hWT (((sw_f hWT hpj).2.2.2.2.2.1 _).mp (Or.inr rfl))
                                                          refine k_aload_n hC 484 dL_law_484 rfl ?_
                                                          refine f_callV hC 485 0 ([]) ((q119, .inl (D.1 21, 40, .inl (cpf (wB s1) (fun _ => 0) 40))) :: ((q125, .inl (D.1 21, 40, .inl (cpf (pB s1) (fun _ => 0) 40))) :: (wSm D m pp rr (br s1 kd) u3))) (fun (uN : PS × PG) => ((q0, .inr (3, [.ref (a 0), .ref (b 0)])) :: (wSt D a (br s1 kd) gaq ++ (wSt D b uN.1 uN.2 ++ ((q119, .inl (D.1 21, 40, .inl (cpf (wB s1) (fun _ => 0) 40))) :: ((q125, .inl (D.1 21, 40, .inl (cpf (pB s1) (fun _ => 0) 40))) :: (wSm D m pp rr (br s1 kd) u3))))))) (c_X3_next l D q0 a b (br s1 kd) sbq gaq gbq hSa hWT) cw_RL_103 dL_law_485 ⟨Nat.le_of_ble_eq_true rfl, Nat.le_of_ble_eq_true rfl, (show 205028 + 3170 * i + 0 + 2770 + 0 + 1 + 1 + 1 + 1 + 1 + 1 + 1 + 1 + 4 * 40 + 2 + 92 + 1 + 1 + 1 + 2 * 40 + 1 + 1 + 1 + 0 ≤ 600130 by omega), (show 2665372 + 39010 * i + 0 + 36010 + 0 + 6 + 6 + 6 + 6 + 6 + 6 + 40 + 40 + 24 * 40 + 12 + 1196 + 6 + 6 + 6 + 12 * 40 + 6 + 6 + 6 + 0 ≤ 7301080 by omega)⟩ rfl (Nat.le_of_ble_eq_true rfl) rfl rfl rfl (by simp only [List.append_assoc, List.cons_append, List.nil_append, List.append_nil]) (fun _ => rfl) (fun _ => by simp only [List.append_assoc, List.cons_append, List.nil_append, List.append_nil]) _ rfl (fun v (uN : PS × PG) hp => ?_)
                                                          obtain rfl := hp
                                                          refine KJ.eqs (st' := .int (nextV (br s1 kd)) :: []) rfl ?_
                                                          refine KJ.topi (y := (nI ((sw (br s1 kd)).2))) (if_pos hpj) ?_
                                                          refine n_if_ge hC 488 495 dL_law_488 (by decide) (by omega) (fun h488 => ?_) (fun h488 => ?_)
                                                          · skip
                                                            refine k_iconst hC 495 dL_law_495 (nI 0) (by decide) ?_
                                                            refine k_aload_n hC 496 dL_law_496 rfl ?_
                                                            refine k_bipush hC 497 dL_law_497 (nI 10) (by decide) ?_
                                                            refine g_callV hC hX 499 0 ([]) ((q119, .inl (D.1 21, 40, .inl (cpf (wB s1) (fun _ => 0) 40))) :: ((q125, .inl (D.1 21, 40, .inl (cpf (pB s1) (fun _ => 0) 40))) :: (wSm D m pp rr (br s1 kd) u3))) (fun uq => ((q0, .inr (3, [.ref (a 0), .ref (b 0)])) :: (wSt D a uq.1.1 uq.1.2 ++ (wSt D b uq.2.1 uq.2.2 ++ ((q119, .inl (D.1 21, 40, .inl (cpf (wB s1) (fun _ => 0) 40))) :: ((q125, .inl (D.1 21, 40, .inl (cpf (pB s1) (fun _ => 0) 40))) :: (wSm D m pp rr (br s1 kd) u3))))))) (c_X3_count l hfl D q0 a b (br s1 kd) uN.1 gaq uN.2 (nI 10) hSa hWT) cw_RL_97 dL_law_499 ⟨Nat.le_of_ble_eq_true rfl, Nat.le_of_ble_eq_true rfl, (show 205028 + 3170 * i + 0 + 2770 + 0 + 1 + 1 + 1 + 1 + 1 + 1 + 1 + 1 + 4 * 40 + 2 + 92 + 1 + 1 + 1 + 2 * 40 + 1 + 1 + 1 + 0 + 1 ≤ 600130 by omega), (show 2665372 + 39010 * i + 0 + 36010 + 0 + 6 + 6 + 6 + 6 + 6 + 6 + 40 + 40 + 24 * 40 + 12 + 1196 + 6 + 6 + 6 + 12 * 40 + 6 + 6 + 6 + 0 + 6 ≤ 7301080 by omega)⟩ rfl (Nat.le_of_ble_eq_true rfl) rfl rfl rfl (by simp only [List.append_assoc, List.cons_append, List.nil_append, List.append_nil]) (fun _ => rfl) (fun _ => by simp only [List.append_assoc, List.cons_append, List.nil_append, List.append_nil]) _ rfl (fun v uq hp => ?_) (fun E hx => absurd hx (no_x (countK0 (by decide))))
                                                            obtain ⟨-, rfl, euq, hSq⟩ := hp
                                                            refine KJ.eqs (st' := .int (ct (br s1 kd) (kn (nI 10))) :: .int (nI 0) :: []) rfl ?_
                                                            refine KJ.topi (y := (nI (pnd (br s1 kd)))) (by rw [kn_ek (by decide)]; rfl) ?_
                                                            obtain ⟨⟨saq, gaq⟩, sbq, gbq⟩ := uq
                                                            dsimp only at euq hSq
                                                            have euq2 := euq.symm
                                                            subst euq2
                                                            refine KJ.eqw (ws' := ((q0, .inr (3, [.ref (a 0), .ref (b 0)])) :: (wSt D a (br s1 kd) gaq ++ (wSt D b sbq gbq ++ ((q119, .inl (D.1 21, 40, .inl (cpf (wB s1) (fun _ => 0) 40))) :: ((q125, .inl (D.1 21, 40, .inl (cpf (pB s1) (fun _ => 0) 40))) :: (wSm D m pp rr (br s1 kd) u3))))))) rfl ?_
                                                            have hSa := hSq
                                                            refine k_aload_n hC 502 dL_law_502 rfl ?_
                                                            refine k_iconst hC 503 dL_law_503 (nI 1) (by decide) ?_
                                                            refine g_callV hC hX 504 0 ([]) ((q119, .inl (D.1 21, 40, .inl (cpf (wB s1) (fun _ => 0) 40))) :: ((q125, .inl (D.1 21, 40, .inl (cpf (pB s1) (fun _ => 0) 40))) :: (wSm D m pp rr (br s1 kd) u3))) (fun uq => ((q0, .inr (3, [.ref (a 0), .ref (b 0)])) :: (wSt D a uq.1.1 uq.1.2 ++ (wSt D b uq.2.1 uq.2.2 ++ ((q119, .inl (D.1 21, 40, .inl (cpf (wB s1) (fun _ => 0) 40))) :: ((q125, .inl (D.1 21, 40, .inl (cpf (pB s1) (fun _ => 0) 40))) :: (wSm D m pp rr (br s1 kd) u3))))))) (c_X3_count l hfl D q0 a b (br s1 kd) sbq gaq gbq (nI 1) hSa hWT) cw_RL_97 dL_law_504 ⟨Nat.le_of_ble_eq_true rfl, Nat.le_of_ble_eq_true rfl, (show 205028 + 3170 * i + 0 + 2770 + 0 + 1 + 1 + 1 + 1 + 1 + 1 + 1 + 1 + 4 * 40 + 2 + 92 + 1 + 1 + 1 + 2 * 40 + 1 + 1 + 1 + 0 + 1 + 1 ≤ 600130 by omega), (show 2665372 + 39010 * i + 0 + 36010 + 0 + 6 + 6 + 6 + 6 + 6 + 6 + 40 + 40 + 24 * 40 + 12 + 1196 + 6 + 6 + 6 + 12 * 40 + 6 + 6 + 6 + 0 + 6 + 6 ≤ 7301080 by omega)⟩ rfl (Nat.le_of_ble_eq_true rfl) rfl rfl rfl (by simp only [List.append_assoc, List.cons_append, List.nil_append, List.append_nil]) (fun _ => rfl) (fun _ => by simp only [List.append_assoc, List.cons_append, List.nil_append, List.append_nil]) _ rfl (fun v uq hp => ?_) (fun E hx => absurd hx (no_x (countK0 (by decide))))
                                                            obtain ⟨-, rfl, euq, hSq⟩ := hp
                                                            refine KJ.eqs (st' := .int (ct (br s1 kd) (kn (nI 1))) :: .int (nI (pnd (br s1 kd))) :: .int (nI 0) :: []) rfl ?_
                                                            refine KJ.topi (y := (nI ((br s1 kd).1.length))) (by rw [kn_ek (by decide)]; rfl) ?_
                                                            obtain ⟨⟨saq, gaq⟩, sbq, gbq⟩ := uq
                                                            dsimp only at euq hSq
                                                            have euq2 := euq.symm
                                                            subst euq2
                                                            refine KJ.eqw (ws' := ((q0, .inr (3, [.ref (a 0), .ref (b 0)])) :: (wSt D a (br s1 kd) gaq ++ (wSt D b sbq gbq ++ ((q119, .inl (D.1 21, 40, .inl (cpf (wB s1) (fun _ => 0) 40))) :: ((q125, .inl (D.1 21, 40, .inl (cpf (pB s1) (fun _ => 0) 40))) :: (wSm D m pp rr (br s1 kd) u3))))))) rfl ?_
                                                            have hSa := hSq
                                                            refine k_aload_n hC 507 dL_law_507 rfl ?_
                                                            refine k_iconst hC 508 dL_law_508 (nI 2) (by decide) ?_
                                                            refine g_callV hC hX 509 0 ([]) ((q119, .inl (D.1 21, 40, .inl (cpf (wB s1) (fun _ => 0) 40))) :: ((q125, .inl (D.1 21, 40, .inl (cpf (pB s1) (fun _ => 0) 40))) :: (wSm D m pp rr (br s1 kd) u3))) (fun uq => ((q0, .inr (3, [.ref (a 0), .ref (b 0)])) :: (wSt D a uq.1.1 uq.1.2 ++ (wSt D b uq.2.1 uq.2.2 ++ ((q119, .inl (D.1 21, 40, .inl (cpf (wB s1) (fun _ => 0) 40))) :: ((q125, .inl (D.1 21, 40, .inl (cpf (pB s1) (fun _ => 0) 40))) :: (wSm D m pp rr (br s1 kd) u3))))))) (c_X3_count l hfl D q0 a b (br s1 kd) sbq gaq gbq (nI 2) hSa hWT) cw_RL_97 dL_law_509 ⟨Nat.le_of_ble_eq_true rfl, Nat.le_of_ble_eq_true rfl, (show 205028 + 3170 * i + 0 + 2770 + 0 + 1 + 1 + 1 + 1 + 1 + 1 + 1 + 1 + 4 * 40 + 2 + 92 + 1 + 1 + 1 + 2 * 40 + 1 + 1 + 1 + 0 + 1 + 1 + 1 ≤ 600130 by omega), (show 2665372 + 39010 * i + 0 + 36010 + 0 + 6 + 6 + 6 + 6 + 6 + 6 + 40 + 40 + 24 * 40 + 12 + 1196 + 6 + 6 + 6 + 12 * 40 + 6 + 6 + 6 + 0 + 6 + 6 + 6 ≤ 7301080 by omega)⟩ rfl (Nat.le_of_ble_eq_true rfl) rfl rfl rfl (by simp only [List.append_assoc, List.cons_append, List.nil_append, List.append_nil]) (fun _ => rfl) (fun _ => by simp only [List.append_assoc, List.cons_append, List.nil_append, List.append_nil]) _ rfl (fun v uq hp => ?_) (fun E hx => absurd hx (no_x (countK0 (by decide))))
                                                            obtain ⟨-, rfl, euq, hSq⟩ := hp
                                                            refine KJ.eqs (st' := .int (ct (br s1 kd) (kn (nI 2))) :: .int (nI ((br s1 kd).1.length)) :: .int (nI (pnd (br s1 kd))) :: .int (nI 0) :: []) rfl ?_
                                                            refine KJ.topi (y := (nI ((br s1 kd).2.1.length))) (by rw [kn_ek (by decide)]; rfl) ?_
                                                            obtain ⟨⟨saq, gaq⟩, sbq, gbq⟩ := uq
                                                            dsimp only at euq hSq
                                                            have euq2 := euq.symm
                                                            subst euq2
                                                            refine KJ.eqw (ws' := ((q0, .inr (3, [.ref (a 0), .ref (b 0)])) :: (wSt D a (br s1 kd) gaq ++ (wSt D b sbq gbq ++ ((q119, .inl (D.1 21, 40, .inl (cpf (wB s1) (fun _ => 0) 40))) :: ((q125, .inl (D.1 21, 40, .inl (cpf (pB s1) (fun _ => 0) 40))) :: (wSm D m pp rr (br s1 kd) u3))))))) rfl ?_
                                                            have hSa := hSq
                                                            refine n_iadd hC 512 (((br s1 kd).1.length) + ((br s1 kd).2.1.length)) dL_law_512 rfl ?_
                                                            refine n_icmp_ne hC 513 520 dL_law_513 (by decide) (by omega) (by omega) (fun h513 => ?_) (fun h513 => ?_)
                                                            · skip
                                                              refine k_iconst hC 520 dL_law_520 (nI 0) (by decide) ?_
                                                              refine n_icmp_eq hC 521 526 dL_law_521 (by decide) (by omega) (by omega) (fun h521 => ?_) (fun h521 => ?_)
                                                              · skip
                                                                refine k_iinc hC 526 11 (nI (i + 1)) [(3, .int (nI (i + 1))), (14, .int (nI 0)), (13, .int (nI 0)), (12, .int (-9)), (11, .ref q125), (10, .ref q119), (9, .int (loS s1)), (8, .int ((hiS s1) + (miS s1))), (7, .int (nI (plS s1))), (6, .int (nI (s1.1.length + s1.2.1.length))), (5, .int (nI kd)), (4, .int ((cv >>> ((nI ((i / 16) * 3)) &&& 31)) + (nI (373 * i)))), (2, .ref m), (1, .ref q0), (0, .ref bb)] dL_law_526 rfl (nI_1 _) (by decide) rfl ?_
                                                                refine k_goto hC 529 22 dL_law_529 (by decide) ?_
                                                                refine KJ.lvp [0, 12, 13, 14] rfl ?_
                                                                refine KJ.dr ((q0, .inr (3, [.ref (a 0), .ref (b 0)])) :: (wSt D a (br s1 kd) gaq ++ wSt D b sbq gbq)) ((q125, .inl (D.1 21, 40, .inl (cpf (pB s1) (fun _ => 0) 40))) :: (wSm D m pp rr (br s1 kd) u3)) (q119, .inl (D.1 21, 40, .inl (cpf (wB s1) (fun _ => 0) 40))) (by simp only [List.append_assoc, List.cons_append, List.nil_append]) (by simp only [List.append_assoc, List.cons_append, List.nil_append]) (ws' := ((q0, .inr (3, [.ref (a 0), .ref (b 0)])) :: (wSt D a (br s1 kd) gaq ++ (wSt D b sbq gbq ++ ((q125, .inl (D.1 21, 40, .inl (cpf (pB s1) (fun _ => 0) 40))) :: (wSm D m pp rr (br s1 kd) u3)))))) ?_
                                                                refine KJ.dr ((q0, .inr (3, [.ref (a 0), .ref (b 0)])) :: (wSt D a (br s1 kd) gaq ++ wSt D b sbq gbq)) (wSm D m pp rr (br s1 kd) u3) (q125, .inl (D.1 21, 40, .inl (cpf (pB s1) (fun _ => 0) 40))) (by simp only [List.append_assoc, List.cons_append, List.nil_append]) (by simp only [List.append_assoc, List.cons_append, List.nil_append]) (ws' := ((q0, .inr (3, [.ref (a 0), .ref (b 0)])) :: (wSt D a (br s1 kd) gaq ++ (wSt D b sbq gbq ++ (wSm D m pp rr (br s1 kd) u3))))) ?_
                                                                exact KJ.wide (by omega) (by omega) (ih22 (i + 1) (br s1 kd) gaq sbq gbq u3 (by omega) (by omega) ⟨hSa, hWT, hJ3, hIT⟩)
                                                              · skip
                                                                exact absurd h521 (by decide)
                                                            · skip
                                                              exact absurd h513 (by omega)
                                                          · skip
                                                            exact h488.elim
                                                        · skip
                                                          have hpj2 : ¬ pnd (br s1 kd) < (br s1 kd).1.length + (br s1 kd).2.1.length := hpj
                                                          refine k_aload_n hC 484 dL_law_484 rfl ?_
                                                          refine f_callV hC 485 0 ([]) ((q119, .inl (D.1 21, 40, .inl (cpf (wB s1) (fun _ => 0) 40))) :: ((q125, .inl (D.1 21, 40, .inl (cpf (pB s1) (fun _ => 0) 40))) :: (wSm D m pp rr (br s1 kd) u3))) (fun (uN : PS × PG) => ((q0, .inr (3, [.ref (a 0), .ref (b 0)])) :: (wSt D a (br s1 kd) gaq ++ (wSt D b uN.1 uN.2 ++ ((q119, .inl (D.1 21, 40, .inl (cpf (wB s1) (fun _ => 0) 40))) :: ((q125, .inl (D.1 21, 40, .inl (cpf (pB s1) (fun _ => 0) 40))) :: (wSm D m pp rr (br s1 kd) u3))))))) (c_X3_next l D q0 a b (br s1 kd) sbq gaq gbq hSa hWT) cw_RL_103 dL_law_485 ⟨Nat.le_of_ble_eq_true rfl, Nat.le_of_ble_eq_true rfl, (show 205028 + 3170 * i + 0 + 2770 + 0 + 1 + 1 + 1 + 1 + 1 + 1 + 1 + 1 + 4 * 40 + 2 + 92 + 1 + 1 + 1 + 2 * 40 + 1 + 1 + 1 + 0 ≤ 600130 by omega), (show 2665372 + 39010 * i + 0 + 36010 + 0 + 6 + 6 + 6 + 6 + 6 + 6 + 40 + 40 + 24 * 40 + 12 + 1196 + 6 + 6 + 6 + 12 * 40 + 6 + 6 + 6 + 0 ≤ 7301080 by omega)⟩ rfl (Nat.le_of_ble_eq_true rfl) rfl rfl rfl (by simp only [List.append_assoc, List.cons_append, List.nil_append, List.append_nil]) (fun _ => rfl) (fun _ => by simp only [List.append_assoc, List.cons_append, List.nil_append, List.append_nil]) _ rfl (fun v (uN : PS × PG) hp => ?_)
                                                          obtain rfl := hp
                                                          refine KJ.eqs (st' := .int (nextV (br s1 kd)) :: []) rfl ?_
                                                          refine KJ.topi (y := (-1)) (if_neg hpj) ?_
                                                          refine k_if_ge hC 488 495 dL_law_488 (by decide) (fun h488 => ?_) (fun h488 => ?_)
                                                          · skip
                                                            exact absurd h488 (by decide)
                                                          · skip
                                                            refine k_iconst hC 491 dL_law_491 (nI 1) (by decide) ?_
                                                            refine k_goto hC 492 496 dL_law_492 (by decide) ?_
                                                            refine k_aload_n hC 496 dL_law_496 rfl ?_
                                                            refine k_bipush hC 497 dL_law_497 (nI 10) (by decide) ?_
                                                            refine g_callV hC hX 499 0 ([]) ((q119, .inl (D.1 21, 40, .inl (cpf (wB s1) (fun _ => 0) 40))) :: ((q125, .inl (D.1 21, 40, .inl (cpf (pB s1) (fun _ => 0) 40))) :: (wSm D m pp rr (br s1 kd) u3))) (fun uq => ((q0, .inr (3, [.ref (a 0), .ref (b 0)])) :: (wSt D a uq.1.1 uq.1.2 ++ (wSt D b uq.2.1 uq.2.2 ++ ((q119, .inl (D.1 21, 40, .inl (cpf (wB s1) (fun _ => 0) 40))) :: ((q125, .inl (D.1 21, 40, .inl (cpf (pB s1) (fun _ => 0) 40))) :: (wSm D m pp rr (br s1 kd) u3))))))) (c_X3_count l hfl D q0 a b (br s1 kd) uN.1 gaq uN.2 (nI 10) hSa hWT) cw_RL_97 dL_law_499 ⟨Nat.le_of_ble_eq_true rfl, Nat.le_of_ble_eq_true rfl, (show 205028 + 3170 * i + 0 + 2770 + 0 + 1 + 1 + 1 + 1 + 1 + 1 + 1 + 1 + 4 * 40 + 2 + 92 + 1 + 1 + 1 + 2 * 40 + 1 + 1 + 1 + 0 + 1 ≤ 600130 by omega), (show 2665372 + 39010 * i + 0 + 36010 + 0 + 6 + 6 + 6 + 6 + 6 + 6 + 40 + 40 + 24 * 40 + 12 + 1196 + 6 + 6 + 6 + 12 * 40 + 6 + 6 + 6 + 0 + 6 ≤ 7301080 by omega)⟩ rfl (Nat.le_of_ble_eq_true rfl) rfl rfl rfl (by simp only [List.append_assoc, List.cons_append, List.nil_append, List.append_nil]) (fun _ => rfl) (fun _ => by simp only [List.append_assoc, List.cons_append, List.nil_append, List.append_nil]) _ rfl (fun v uq hp => ?_) (fun E hx => absurd hx (no_x (countK0 (by decide))))
                                                            obtain ⟨-, rfl, euq, hSq⟩ := hp
                                                            refine KJ.eqs (st' := .int (ct (br s1 kd) (kn (nI 10))) :: .int (nI 1) :: []) rfl ?_
                                                            refine KJ.topi (y := (nI (pnd (br s1 kd)))) (by rw [kn_ek (by decide)]; rfl) ?_
                                                            obtain ⟨⟨saq, gaq⟩, sbq, gbq⟩ := uq
                                                            dsimp only at euq hSq
                                                            have euq2 := euq.symm
                                                            subst euq2
                                                            refine KJ.eqw (ws' := ((q0, .inr (3, [.ref (a 0), .ref (b 0)])) :: (wSt D a (br s1 kd) gaq ++ (wSt D b sbq gbq ++ ((q119, .inl (D.1 21, 40, .inl (cpf (wB s1) (fun _ => 0) 40))) :: ((q125, .inl (D.1 21, 40, .inl (cpf (pB s1) (fun _ => 0) 40))) :: (wSm D m pp rr (br s1 kd) u3))))))) rfl ?_
                                                            have hSa := hSq
                                                            refine k_aload_n hC 502 dL_law_502 rfl ?_
                                                            refine k_iconst hC 503 dL_law_503 (nI 1) (by decide) ?_
                                                            refine g_callV hC hX 504 0 ([]) ((q119, .inl (D.1 21, 40, .inl (cpf (wB s1) (fun _ => 0) 40))) :: ((q125, .inl (D.1 21, 40, .inl (cpf (pB s1) (fun _ => 0) 40))) :: (wSm D m pp rr (br s1 kd) u3))) (fun uq => ((q0, .inr (3, [.ref (a 0), .ref (b 0)])) :: (wSt D a uq.1.1 uq.1.2 ++ (wSt D b uq.2.1 uq.2.2 ++ ((q119, .inl (D.1 21, 40, .inl (cpf (wB s1) (fun _ => 0) 40))) :: ((q125, .inl (D.1 21, 40, .inl (cpf (pB s1) (fun _ => 0) 40))) :: (wSm D m pp rr (br s1 kd) u3))))))) (c_X3_count l hfl D q0 a b (br s1 kd) sbq gaq gbq (nI 1) hSa hWT) cw_RL_97 dL_law_504 ⟨Nat.le_of_ble_eq_true rfl, Nat.le_of_ble_eq_true rfl, (show 205028 + 3170 * i + 0 + 2770 + 0 + 1 + 1 + 1 + 1 + 1 + 1 + 1 + 1 + 4 * 40 + 2 + 92 + 1 + 1 + 1 + 2 * 40 + 1 + 1 + 1 + 0 + 1 + 1 ≤ 600130 by omega), (show 2665372 + 39010 * i + 0 + 36010 + 0 + 6 + 6 + 6 + 6 + 6 + 6 + 40 + 40 + 24 * 40 + 12 + 1196 + 6 + 6 + 6 + 12 * 40 + 6 + 6 + 6 + 0 + 6 + 6 ≤ 7301080 by omega)⟩ rfl (Nat.le_of_ble_eq_true rfl) rfl rfl rfl (by simp only [List.append_assoc, List.cons_append, List.nil_append, List.append_nil]) (fun _ => rfl) (fun _ => by simp only [List.append_assoc, List.cons_append, List.nil_append, List.append_nil]) _ rfl (fun v uq hp => ?_) (fun E hx => absurd hx (no_x (countK0 (by decide))))
                                                            obtain ⟨-, rfl, euq, hSq⟩ := hp
                                                            refine KJ.eqs (st' := .int (ct (br s1 kd) (kn (nI 1))) :: .int (nI (pnd (br s1 kd))) :: .int (nI 1) :: []) rfl ?_
                                                            refine KJ.topi (y := (nI ((br s1 kd).1.length))) (by rw [kn_ek (by decide)]; rfl) ?_
                                                            obtain ⟨⟨saq, gaq⟩, sbq, gbq⟩ := uq
                                                            dsimp only at euq hSq
                                                            have euq2 := euq.symm
                                                            subst euq2
                                                            refine KJ.eqw (ws' := ((q0, .inr (3, [.ref (a 0), .ref (b 0)])) :: (wSt D a (br s1 kd) gaq ++ (wSt D b sbq gbq ++ ((q119, .inl (D.1 21, 40, .inl (cpf (wB s1) (fun _ => 0) 40))) :: ((q125, .inl (D.1 21, 40, .inl (cpf (pB s1) (fun _ => 0) 40))) :: (wSm D m pp rr (br s1 kd) u3))))))) rfl ?_
                                                            have hSa := hSq
                                                            refine k_aload_n hC 507 dL_law_507 rfl ?_
                                                            refine k_iconst hC 508 dL_law_508 (nI 2) (by decide) ?_
                                                            refine g_callV hC hX 509 0 ([]) ((q119, .inl (D.1 21, 40, .inl (cpf (wB s1) (fun _ => 0) 40))) :: ((q125, .inl (D.1 21, 40, .inl (cpf (pB s1) (fun _ => 0) 40))) :: (wSm D m pp rr (br s1 kd) u3))) (fun uq => ((q0, .inr (3, [.ref (a 0), .ref (b 0)])) :: (wSt D a uq.1.1 uq.1.2 ++ (wSt D b uq.2.1 uq.2.2 ++ ((q119, .inl (D.1 21, 40, .inl (cpf (wB s1) (fun _ => 0) 40))) :: ((q125, .inl (D.1 21, 40, .inl (cpf (pB s1) (fun _ => 0) 40))) :: (wSm D m pp rr (br s1 kd) u3))))))) (c_X3_count l hfl D q0 a b (br s1 kd) sbq gaq gbq (nI 2) hSa hWT) cw_RL_97 dL_law_509 ⟨Nat.le_of_ble_eq_true rfl, Nat.le_of_ble_eq_true rfl, (show 205028 + 3170 * i + 0 + 2770 + 0 + 1 + 1 + 1 + 1 + 1 + 1 + 1 + 1 + 4 * 40 + 2 + 92 + 1 + 1 + 1 + 2 * 40 + 1 + 1 + 1 + 0 + 1 + 1 + 1 ≤ 600130 by omega), (show 2665372 + 39010 * i + 0 + 36010 + 0 + 6 + 6 + 6 + 6 + 6 + 6 + 40 + 40 + 24 * 40 + 12 + 1196 + 6 + 6 + 6 + 12 * 40 + 6 + 6 + 6 + 0 + 6 + 6 + 6 ≤ 7301080 by omega)⟩ rfl (Nat.le_of_ble_eq_true rfl) rfl rfl rfl (by simp only [List.append_assoc, List.cons_append, List.nil_append, List.append_nil]) (fun _ => rfl) (fun _ => by simp only [List.append_assoc, List.cons_append, List.nil_append, List.append_nil]) _ rfl (fun v uq hp => ?_) (fun E hx => absurd hx (no_x (countK0 (by decide))))
                                                            obtain ⟨-, rfl, euq, hSq⟩ := hp
                                                            refine KJ.eqs (st' := .int (ct (br s1 kd) (kn (nI 2))) :: .int (nI ((br s1 kd).1.length)) :: .int (nI (pnd (br s1 kd))) :: .int (nI 1) :: []) rfl ?_
                                                            refine KJ.topi (y := (nI ((br s1 kd).2.1.length))) (by rw [kn_ek (by decide)]; rfl) ?_
                                                            obtain ⟨⟨saq, gaq⟩, sbq, gbq⟩ := uq
                                                            dsimp only at euq hSq
                                                            have euq2 := euq.symm
                                                            subst euq2
                                                            refine KJ.eqw (ws' := ((q0, .inr (3, [.ref (a 0), .ref (b 0)])) :: (wSt D a (br s1 kd) gaq ++ (wSt D b sbq gbq ++ ((q119, .inl (D.1 21, 40, .inl (cpf (wB s1) (fun _ => 0) 40))) :: ((q125, .inl (D.1 21, 40, .inl (cpf (pB s1) (fun _ => 0) 40))) :: (wSm D m pp rr (br s1 kd) u3))))))) rfl ?_
                                                            have hSa := hSq
                                                            refine n_iadd hC 512 (((br s1 kd).1.length) + ((br s1 kd).2.1.length)) dL_law_512 rfl ?_
                                                            refine n_icmp_ne hC 513 520 dL_law_513 (by decide) (by omega) (by omega) (fun h513 => ?_) (fun h513 => ?_)
                                                            · skip
                                                              exact absurd (by omega) h513
                                                            · skip
                                                              refine k_iconst hC 516 dL_law_516 (nI 1) (by decide) ?_
                                                              refine k_goto hC 517 521 dL_law_517 (by decide) ?_
                                                              refine n_icmp_eq hC 521 526 dL_law_521 (by decide) (by omega) (by omega) (fun h521 => ?_) (fun h521 => ?_)
                                                              · skip
                                                                refine k_iinc hC 526 11 (nI (i + 1)) [(3, .int (nI (i + 1))), (14, .int (nI 0)), (13, .int (nI 0)), (12, .int (-9)), (11, .ref q125), (10, .ref q119), (9, .int (loS s1)), (8, .int ((hiS s1) + (miS s1))), (7, .int (nI (plS s1))), (6, .int (nI (s1.1.length + s1.2.1.length))), (5, .int (nI kd)), (4, .int ((cv >>> ((nI ((i / 16) * 3)) &&& 31)) + (nI (373 * i)))), (2, .ref m), (1, .ref q0), (0, .ref bb)] dL_law_526 rfl (nI_1 _) (by decide) rfl ?_
                                                                refine k_goto hC 529 22 dL_law_529 (by decide) ?_
                                                                refine KJ.lvp [0, 12, 13, 14] rfl ?_
                                                                refine KJ.dr ((q0, .inr (3, [.ref (a 0), .ref (b 0)])) :: (wSt D a (br s1 kd) gaq ++ wSt D b sbq gbq)) ((q125, .inl (D.1 21, 40, .inl (cpf (pB s1) (fun _ => 0) 40))) :: (wSm D m pp rr (br s1 kd) u3)) (q119, .inl (D.1 21, 40, .inl (cpf (wB s1) (fun _ => 0) 40))) (by simp only [List.append_assoc, List.cons_append, List.nil_append]) (by simp only [List.append_assoc, List.cons_append, List.nil_append]) (ws' := ((q0, .inr (3, [.ref (a 0), .ref (b 0)])) :: (wSt D a (br s1 kd) gaq ++ (wSt D b sbq gbq ++ ((q125, .inl (D.1 21, 40, .inl (cpf (pB s1) (fun _ => 0) 40))) :: (wSm D m pp rr (br s1 kd) u3)))))) ?_
                                                                refine KJ.dr ((q0, .inr (3, [.ref (a 0), .ref (b 0)])) :: (wSt D a (br s1 kd) gaq ++ wSt D b sbq gbq)) (wSm D m pp rr (br s1 kd) u3) (q125, .inl (D.1 21, 40, .inl (cpf (pB s1) (fun _ => 0) 40))) (by simp only [List.append_assoc, List.cons_append, List.nil_append]) (by simp only [List.append_assoc, List.cons_append, List.nil_append]) (ws' := ((q0, .inr (3, [.ref (a 0), .ref (b 0)])) :: (wSt D a (br s1 kd) gaq ++ (wSt D b sbq gbq ++ (wSm D m pp rr (br s1 kd) u3))))) ?_
                                                                exact KJ.wide (by omega) (by omega) (ih22 (i + 1) (br s1 kd) gaq sbq gbq u3 (by omega) (by omega) ⟨hSa, hWT, hJ3, hIT⟩)
                                                              · skip
                                                                exact absurd h521 (by decide)
                                                      · skip
                                                        exact absurd (by omega) h479
                                                    · skip
                                                      exact absurd (by decide) h465
                                                  · skip
                                                    exact absurd h434 (by decide)
                                              · skip
                                                exact absurd h418 (by decide)
                                          · skip
                                            exact absurd h396 (by decide)
                                        · skip
                                          exact absurd (by decide) h375
                                      · skip
                                        by_cases hw : inn s1 k
                                        · skip
                                          by_cases hs : inn (br s1 kd) k
                                          · skip
                                            have hne : k ≠ gx := fun z => (fB (by omega)).2 (z ▸ hs)
                                            by_cases hp : inn s1 k ∧ 0 < piS s1 k
                                            · skip
                                              refine k_aload_n hC 299 dL_law_299 rfl ?_
                                              refine k_iload hC 300 dL_law_300 rfl ?_
                                              refine k_iconst hC 302 dL_law_302 (nI 0) (by decide) ?_
                                              refine g_callV hC hX 303 0 ([]) ((q119, .inl (D.1 21, 40, .inl (cpf (wB s1) (fun _ => 0) 40))) :: ((q125, .inl (D.1 21, 40, .inl (cpf (pB s1) (fun _ => 0) 40))) :: (wSm D m pp rr (br s1 kd) u3))) (fun uq => ((q0, .inr (3, [.ref (a 0), .ref (b 0)])) :: (wSt D a uq.1.1 uq.1.2 ++ (wSt D b uq.2.1 uq.2.2 ++ ((q119, .inl (D.1 21, 40, .inl (cpf (wB s1) (fun _ => 0) 40))) :: ((q125, .inl (D.1 21, 40, .inl (cpf (pB s1) (fun _ => 0) 40))) :: (wSm D m pp rr (br s1 kd) u3))))))) (c_X3_jar l hfl D q0 a b (br s1 kd) sb ga gb (nI k) (nI 0) hSa hWT) cw_RL_100 dL_law_303 ⟨Nat.le_of_ble_eq_true rfl, Nat.le_of_ble_eq_true rfl, (show 205028 + 3170 * i + 0 + 2770 + 0 + 1 + 1 + 1 + 1 + 1 + 1 + 1 + 1 + 4 * 40 + 2 + 92 + 1 + 1 + 1 + 2 * k + 2 ≤ 600130 by omega), (show 2665372 + 39010 * i + 0 + 36010 + 0 + 6 + 6 + 6 + 6 + 6 + 6 + 40 + 40 + 24 * 40 + 12 + 1196 + 6 + 6 + 6 + 12 * k + 12 ≤ 7301080 by omega)⟩ rfl (Nat.le_of_ble_eq_true rfl) rfl rfl rfl (by simp only [List.append_assoc, List.cons_append, List.nil_append, List.append_nil]) (fun _ => rfl) (fun _ => by simp only [List.append_assoc, List.cons_append, List.nil_append, List.append_nil]) _ rfl (fun v uq hp => ?_) (fun E hx => absurd hx (no_x (jarK0 h296 (by decide))))
                                              obtain ⟨-, rfl, euq, hSq⟩ := hp
                                              refine KJ.eqs (st' := .int (dtl (br s1 kd) (kn (nI k)) (kn (nI 0))) :: []) rfl ?_
                                              refine KJ.topi (y := (dtl (br s1 kd) k 0)) (by rw [kn_ek h296, kn_ek (by decide)]) ?_
                                              obtain ⟨⟨saq, gaq⟩, sbq, gbq⟩ := uq
                                              dsimp only at euq hSq
                                              have euq2 := euq.symm
                                              subst euq2
                                              refine KJ.eqw (ws' := ((q0, .inr (3, [.ref (a 0), .ref (b 0)])) :: (wSt D a (br s1 kd) gaq ++ (wSt D b sbq gbq ++ ((q119, .inl (D.1 21, 40, .inl (cpf (wB s1) (fun _ => 0) 40))) :: ((q125, .inl (D.1 21, 40, .inl (cpf (pB s1) (fun _ => 0) 40))) :: (wSm D m pp rr (br s1 kd) u3))))))) rfl ?_
                                              have hSa := hSq
                                              refine k_if_lt hC 306 313 dL_law_306 (by decide) (fun h306 => ?_) (fun h306 => ?_)
                                              · skip
                                                exact absurd h306 (dtl0_in hs)
                                              · skip
                                                refine k_iconst hC 309 dL_law_309 (nI 1) (by decide) ?_
                                                refine k_goto hC 310 314 dL_law_310 (by decide) ?_
                                                refine k_istore hC 314 15 [(15, .int (nI 1)), (14, .int (nI k)), (13, .int (nI (if gx < k then 1 else 0))), (12, .int (-9)), (11, .ref q125), (10, .ref q119), (9, .int (loS s1)), (8, .int ((hiS s1) + (miS s1))), (7, .int (nI (plS s1))), (6, .int (nI (s1.1.length + s1.2.1.length))), (5, .int (nI kd)), (4, .int ((cv >>> ((nI ((i / 16) * 3)) &&& 31)) + (nI (373 * i)))), (3, .int (nI i)), (2, .ref m), (1, .ref q0), (0, .ref bb)] dL_law_314 (by decide) rfl ?_
                                                refine k_aload hC 316 dL_law_316 rfl ?_
                                                refine k_iload hC 318 dL_law_318 rfl ?_
                                                refine n_zald hC 320 31 (nI 1) dL_law_320 rfl (by omega) (by decide) ((cpf_in h296).trans (wB_in hw)) ?_
                                                refine n_if_eq hC 321 332 dL_law_321 (by decide) (by omega) (fun h321 => ?_) (fun h321 => ?_)
                                                · skip
                                                  exact absurd h321 (by decide)
                                                · skip
                                                  refine k_iload hC 324 dL_law_324 rfl ?_
                                                  refine n_if_ne hC 326 332 dL_law_326 (by decide) (by omega) (fun h326 => ?_) (fun h326 => ?_)
                                                  · skip
                                                    refine k_aload hC 332 dL_law_332 rfl ?_
                                                    refine k_iload hC 334 dL_law_334 rfl ?_
                                                    refine n_zald hC 336 32 (nI 1) dL_law_336 rfl (by omega) (by decide) ((cpf_in h296).trans (pB_in hp)) ?_
                                                    refine n_if_eq hC 337 345 dL_law_337 (by decide) (by omega) (fun h337 => ?_) (fun h337 => ?_)
                                                    · skip
                                                      exact absurd h337 (by decide)
                                                    · skip
                                                      refine k_iload hC 340 dL_law_340 rfl ?_
                                                      refine n_if_eq hC 342 365 dL_law_342 (by decide) (by omega) (fun h342 => ?_) (fun h342 => ?_)
                                                      · skip
                                                        exact absurd h342 (by decide)
                                                      · skip
                                                        refine k_aload hC 345 dL_law_345 rfl ?_
                                                        refine k_iload hC 347 dL_law_347 rfl ?_
                                                        refine n_zald hC 349 31 (nI 1) dL_law_349 rfl (by omega) (by decide) ((cpf_in h296).trans (wB_in hw)) ?_
                                                        refine n_if_ne hC 350 367 dL_law_350 (by decide) (by omega) (fun h350 => ?_) (fun h350 => ?_)
                                                        · skip
                                                          refine k_iinc hC 367 1 (nI (k + 1)) [(14, .int (nI (k + 1))), (15, .int (nI 1)), (13, .int (nI (if gx < k then 1 else 0))), (12, .int (-9)), (11, .ref q125), (10, .ref q119), (9, .int (loS s1)), (8, .int ((hiS s1) + (miS s1))), (7, .int (nI (plS s1))), (6, .int (nI (s1.1.length + s1.2.1.length))), (5, .int (nI kd)), (4, .int ((cv >>> ((nI ((i / 16) * 3)) &&& 31)) + (nI (373 * i)))), (3, .int (nI i)), (2, .ref m), (1, .ref q0), (0, .ref bb)] dL_law_367 rfl (nI_1 _) (by decide) rfl ?_
                                                          refine k_goto hC 370 292 dL_law_370 (by decide) ?_
                                                          refine KJ.lvp [0, 2, 3, 4, 5, 6, 7, 8, 9, 10, 11, 12, 13, 14, 15] rfl ?_
                                                          have eg : (if gx < k + 1 then 1 else 0) = (if gx < k then 1 else 0) := (by by_cases z : gx < k; exact (if_pos (by omega)).trans (if_pos z).symm; exact (if_neg (by omega)).trans (if_neg z).symm)
                                                          refine KJ.eql (lv' := [(14, .int (nI (k + 1))), (13, .int (nI (if gx < k + 1 then 1 else 0))), (12, .int (-9)), (11, .ref q125), (10, .ref q119), (9, .int (loS s1)), (8, .int ((hiS s1) + (miS s1))), (7, .int (nI (plS s1))), (6, .int (nI (s1.1.length + s1.2.1.length))), (5, .int (nI kd)), (4, .int ((cv >>> ((nI ((i / 16) * 3)) &&& 31)) + (nI (373 * i)))), (3, .int (nI i)), (2, .ref m), (1, .ref q0), (0, .ref bb)]) (by rw [eg] <;> rfl) ?_
                                                          exact KJ.wide (by omega) (by omega) (ih292 (k + 1) gaq sbq gbq (by omega) (by omega) hSa)
                                                        · skip
                                                          exact absurd h350 (by decide)
                                                  · skip
                                                    exact absurd h326 (by decide)
                                            · skip
                                              refine k_aload_n hC 299 dL_law_299 rfl ?_
                                              refine k_iload hC 300 dL_law_300 rfl ?_
                                              refine k_iconst hC 302 dL_law_302 (nI 0) (by decide) ?_
                                              refine g_callV hC hX 303 0 ([]) ((q119, .inl (D.1 21, 40, .inl (cpf (wB s1) (fun _ => 0) 40))) :: ((q125, .inl (D.1 21, 40, .inl (cpf (pB s1) (fun _ => 0) 40))) :: (wSm D m pp rr (br s1 kd) u3))) (fun uq => ((q0, .inr (3, [.ref (a 0), .ref (b 0)])) :: (wSt D a uq.1.1 uq.1.2 ++ (wSt D b uq.2.1 uq.2.2 ++ ((q119, .inl (D.1 21, 40, .inl (cpf (wB s1) (fun _ => 0) 40))) :: ((q125, .inl (D.1 21, 40, .inl (cpf (pB s1) (fun _ => 0) 40))) :: (wSm D m pp rr (br s1 kd) u3))))))) (c_X3_jar l hfl D q0 a b (br s1 kd) sb ga gb (nI k) (nI 0) hSa hWT) cw_RL_100 dL_law_303 ⟨Nat.le_of_ble_eq_true rfl, Nat.le_of_ble_eq_true rfl, (show 205028 + 3170 * i + 0 + 2770 + 0 + 1 + 1 + 1 + 1 + 1 + 1 + 1 + 1 + 4 * 40 + 2 + 92 + 1 + 1 + 1 + 2 * k + 2 ≤ 600130 by omega), (show 2665372 + 39010 * i + 0 + 36010 + 0 + 6 + 6 + 6 + 6 + 6 + 6 + 40 + 40 + 24 * 40 + 12 + 1196 + 6 + 6 + 6 + 12 * k + 12 ≤ 7301080 by omega)⟩ rfl (Nat.le_of_ble_eq_true rfl) rfl rfl rfl (by simp only [List.append_assoc, List.cons_append, List.nil_append, List.append_nil]) (fun _ => rfl) (fun _ => by simp only [List.append_assoc, List.cons_append, List.nil_append, List.append_nil]) _ rfl (fun v uq hp => ?_) (fun E hx => absurd hx (no_x (jarK0 h296 (by decide))))
                                              obtain ⟨-, rfl, euq, hSq⟩ := hp
                                              refine KJ.eqs (st' := .int (dtl (br s1 kd) (kn (nI k)) (kn (nI 0))) :: []) rfl ?_
                                              refine KJ.topi (y := (dtl (br s1 kd) k 0)) (by rw [kn_ek h296, kn_ek (by decide)]) ?_
                                              obtain ⟨⟨saq, gaq⟩, sbq, gbq⟩ := uq
                                              dsimp only at euq hSq
                                              have euq2 := euq.symm
                                              subst euq2
                                              refine KJ.eqw (ws' := ((q0, .inr (3, [.ref (a 0), .ref (b 0)])) :: (wSt D a (br s1 kd) gaq ++ (wSt D b sbq gbq ++ ((q119, .inl (D.1 21, 40, .inl (cpf (wB s1) (fun _ => 0) 40))) :: ((q125, .inl (D.1 21, 40, .inl (cpf (pB s1) (fun _ => 0) 40))) :: (wSm D m pp rr (br s1 kd) u3))))))) rfl ?_
                                              have hSa := hSq
                                              refine k_if_lt hC 306 313 dL_law_306 (by decide) (fun h306 => ?_) (fun h306 => ?_)
                                              · skip
                                                exact absurd h306 (dtl0_in hs)
                                              · skip
                                                refine k_iconst hC 309 dL_law_309 (nI 1) (by decide) ?_
                                                refine k_goto hC 310 314 dL_law_310 (by decide) ?_
                                                refine k_istore hC 314 15 [(15, .int (nI 1)), (14, .int (nI k)), (13, .int (nI (if gx < k then 1 else 0))), (12, .int (-9)), (11, .ref q125), (10, .ref q119), (9, .int (loS s1)), (8, .int ((hiS s1) + (miS s1))), (7, .int (nI (plS s1))), (6, .int (nI (s1.1.length + s1.2.1.length))), (5, .int (nI kd)), (4, .int ((cv >>> ((nI ((i / 16) * 3)) &&& 31)) + (nI (373 * i)))), (3, .int (nI i)), (2, .ref m), (1, .ref q0), (0, .ref bb)] dL_law_314 (by decide) rfl ?_
                                                refine k_aload hC 316 dL_law_316 rfl ?_
                                                refine k_iload hC 318 dL_law_318 rfl ?_
                                                refine n_zald hC 320 31 (nI 1) dL_law_320 rfl (by omega) (by decide) ((cpf_in h296).trans (wB_in hw)) ?_
                                                refine n_if_eq hC 321 332 dL_law_321 (by decide) (by omega) (fun h321 => ?_) (fun h321 => ?_)
                                                · skip
                                                  exact absurd h321 (by decide)
                                                · skip
                                                  refine k_iload hC 324 dL_law_324 rfl ?_
                                                  refine n_if_ne hC 326 332 dL_law_326 (by decide) (by omega) (fun h326 => ?_) (fun h326 => ?_)
                                                  · skip
                                                    refine k_aload hC 332 dL_law_332 rfl ?_
                                                    refine k_iload hC 334 dL_law_334 rfl ?_
                                                    refine n_zald hC 336 32 (nI 0) dL_law_336 rfl (by omega) (by decide) ((cpf_in h296).trans (pB_no hp)) ?_
                                                    refine n_if_eq hC 337 345 dL_law_337 (by decide) (by omega) (fun h337 => ?_) (fun h337 => ?_)
                                                    · skip
                                                      refine k_aload hC 345 dL_law_345 rfl ?_
                                                      refine k_iload hC 347 dL_law_347 rfl ?_
                                                      refine n_zald hC 349 31 (nI 1) dL_law_349 rfl (by omega) (by decide) ((cpf_in h296).trans (wB_in hw)) ?_
                                                      refine n_if_ne hC 350 367 dL_law_350 (by decide) (by omega) (fun h350 => ?_) (fun h350 => ?_)
                                                      · skip
                                                        refine k_iinc hC 367 1 (nI (k + 1)) [(14, .int (nI (k + 1))), (15, .int (nI 1)), (13, .int (nI (if gx < k then 1 else 0))), (12, .int (-9)), (11, .ref q125), (10, .ref q119), (9, .int (loS s1)), (8, .int ((hiS s1) + (miS s1))), (7, .int (nI (plS s1))), (6, .int (nI (s1.1.length + s1.2.1.length))), (5, .int (nI kd)), (4, .int ((cv >>> ((nI ((i / 16) * 3)) &&& 31)) + (nI (373 * i)))), (3, .int (nI i)), (2, .ref m), (1, .ref q0), (0, .ref bb)] dL_law_367 rfl (nI_1 _) (by decide) rfl ?_
                                                        refine k_goto hC 370 292 dL_law_370 (by decide) ?_
                                                        refine KJ.lvp [0, 2, 3, 4, 5, 6, 7, 8, 9, 10, 11, 12, 13, 14, 15] rfl ?_
                                                        have eg : (if gx < k + 1 then 1 else 0) = (if gx < k then 1 else 0) := (by by_cases z : gx < k; exact (if_pos (by omega)).trans (if_pos z).symm; exact (if_neg (by omega)).trans (if_neg z).symm)
                                                        refine KJ.eql (lv' := [(14, .int (nI (k + 1))), (13, .int (nI (if gx < k + 1 then 1 else 0))), (12, .int (-9)), (11, .ref q125), (10, .ref q119), (9, .int (loS s1)), (8, .int ((hiS s1) + (miS s1))), (7, .int (nI (plS s1))), (6, .int (nI (s1.1.length + s1.2.1.length))), (5, .int (nI kd)), (4, .int ((cv >>> ((nI ((i / 16) * 3)) &&& 31)) + (nI (373 * i)))), (3, .int (nI i)), (2, .ref m), (1, .ref q0), (0, .ref bb)]) (by rw [eg] <;> rfl) ?_
                                                        exact KJ.wide (by omega) (by omega) (ih292 (k + 1) gaq sbq gbq (by omega) (by omega) hSa)
                                                      · skip
                                                        exact absurd h350 (by decide)
                                                    · skip
                                                      exact absurd h337 (by decide)
                                                  · skip
                                                    exact absurd h326 (by decide)
                                          · skip
                                            have heq : k = gx := fA k hw hs
                                            have hp : ¬ (inn s1 k ∧ 0 < piS s1 k) := fun z => hs (fC k z.1 z.2)
                                            refine k_aload_n hC 299 dL_law_299 rfl ?_
                                            refine k_iload hC 300 dL_law_300 rfl ?_
                                            refine k_iconst hC 302 dL_law_302 (nI 0) (by decide) ?_
                                            refine g_callV hC hX 303 0 ([]) ((q119, .inl (D.1 21, 40, .inl (cpf (wB s1) (fun _ => 0) 40))) :: ((q125, .inl (D.1 21, 40, .inl (cpf (pB s1) (fun _ => 0) 40))) :: (wSm D m pp rr (br s1 kd) u3))) (fun uq => ((q0, .inr (3, [.ref (a 0), .ref (b 0)])) :: (wSt D a uq.1.1 uq.1.2 ++ (wSt D b uq.2.1 uq.2.2 ++ ((q119, .inl (D.1 21, 40, .inl (cpf (wB s1) (fun _ => 0) 40))) :: ((q125, .inl (D.1 21, 40, .inl (cpf (pB s1) (fun _ => 0) 40))) :: (wSm D m pp rr (br s1 kd) u3))))))) (c_X3_jar l hfl D q0 a b (br s1 kd) sb ga gb (nI k) (nI 0) hSa hWT) cw_RL_100 dL_law_303 ⟨Nat.le_of_ble_eq_true rfl, Nat.le_of_ble_eq_true rfl, (show 205028 + 3170 * i + 0 + 2770 + 0 + 1 + 1 + 1 + 1 + 1 + 1 + 1 + 1 + 4 * 40 + 2 + 92 + 1 + 1 + 1 + 2 * k + 2 ≤ 600130 by omega), (show 2665372 + 39010 * i + 0 + 36010 + 0 + 6 + 6 + 6 + 6 + 6 + 6 + 40 + 40 + 24 * 40 + 12 + 1196 + 6 + 6 + 6 + 12 * k + 12 ≤ 7301080 by omega)⟩ rfl (Nat.le_of_ble_eq_true rfl) rfl rfl rfl (by simp only [List.append_assoc, List.cons_append, List.nil_append, List.append_nil]) (fun _ => rfl) (fun _ => by simp only [List.append_assoc, List.cons_append, List.nil_append, List.append_nil]) _ rfl (fun v uq hp => ?_) (fun E hx => absurd hx (no_x (jarK0 h296 (by decide))))
                                            obtain ⟨-, rfl, euq, hSq⟩ := hp
                                            refine KJ.eqs (st' := .int (dtl (br s1 kd) (kn (nI k)) (kn (nI 0))) :: []) rfl ?_
                                            refine KJ.topi (y := (dtl (br s1 kd) k 0)) (by rw [kn_ek h296, kn_ek (by decide)]) ?_
                                            obtain ⟨⟨saq, gaq⟩, sbq, gbq⟩ := uq
                                            dsimp only at euq hSq
                                            have euq2 := euq.symm
                                            subst euq2
                                            refine KJ.eqw (ws' := ((q0, .inr (3, [.ref (a 0), .ref (b 0)])) :: (wSt D a (br s1 kd) gaq ++ (wSt D b sbq gbq ++ ((q119, .inl (D.1 21, 40, .inl (cpf (wB s1) (fun _ => 0) 40))) :: ((q125, .inl (D.1 21, 40, .inl (cpf (pB s1) (fun _ => 0) 40))) :: (wSm D m pp rr (br s1 kd) u3))))))) rfl ?_
                                            have hSa := hSq
                                            refine k_if_lt hC 306 313 dL_law_306 (by decide) (fun h306 => ?_) (fun h306 => ?_)
                                            · skip
                                              refine k_iconst hC 313 dL_law_313 (nI 0) (by decide) ?_
                                              refine k_istore hC 314 15 [(15, .int (nI 0)), (14, .int (nI k)), (13, .int (nI (if gx < k then 1 else 0))), (12, .int (-9)), (11, .ref q125), (10, .ref q119), (9, .int (loS s1)), (8, .int ((hiS s1) + (miS s1))), (7, .int (nI (plS s1))), (6, .int (nI (s1.1.length + s1.2.1.length))), (5, .int (nI kd)), (4, .int ((cv >>> ((nI ((i / 16) * 3)) &&& 31)) + (nI (373 * i)))), (3, .int (nI i)), (2, .ref m), (1, .ref q0), (0, .ref bb)] dL_law_314 (by decide) rfl ?_
                                              refine k_aload hC 316 dL_law_316 rfl ?_
                                              refine k_iload hC 318 dL_law_318 rfl ?_
                                              refine n_zald hC 320 31 (nI 1) dL_law_320 rfl (by omega) (by decide) ((cpf_in h296).trans (wB_in hw)) ?_
                                              refine n_if_eq hC 321 332 dL_law_321 (by decide) (by omega) (fun h321 => ?_) (fun h321 => ?_)
                                              · skip
                                                exact absurd h321 (by decide)
                                              · skip
                                                refine k_iload hC 324 dL_law_324 rfl ?_
                                                refine n_if_ne hC 326 332 dL_law_326 (by decide) (by omega) (fun h326 => ?_) (fun h326 => ?_)
                                                · skip
                                                  exact absurd h326 (by decide)
                                                · skip
                                                  refine k_iinc hC 329 2 (nI ((if gx < k then 1 else 0) + 1)) [(13, .int (nI ((if gx < k then 1 else 0) + 1))), (15, .int (nI 0)), (14, .int (nI k)), (12, .int (-9)), (11, .ref q125), (10, .ref q119), (9, .int (loS s1)), (8, .int ((hiS s1) + (miS s1))), (7, .int (nI (plS s1))), (6, .int (nI (s1.1.length + s1.2.1.length))), (5, .int (nI kd)), (4, .int ((cv >>> ((nI ((i / 16) * 3)) &&& 31)) + (nI (373 * i)))), (3, .int (nI i)), (2, .ref m), (1, .ref q0), (0, .ref bb)] dL_law_329 rfl (nI_1 _) (by decide) rfl ?_
                                                  refine k_aload hC 332 dL_law_332 rfl ?_
                                                  refine k_iload hC 334 dL_law_334 rfl ?_
                                                  refine n_zald hC 336 32 (nI 0) dL_law_336 rfl (by omega) (by decide) ((cpf_in h296).trans (pB_no hp)) ?_
                                                  refine n_if_eq hC 337 345 dL_law_337 (by decide) (by omega) (fun h337 => ?_) (fun h337 => ?_)
                                                  · skip
                                                    refine k_aload hC 345 dL_law_345 rfl ?_
                                                    refine k_iload hC 347 dL_law_347 rfl ?_
                                                    refine n_zald hC 349 31 (nI 1) dL_law_349 rfl (by omega) (by decide) ((cpf_in h296).trans (wB_in hw)) ?_
                                                    refine n_if_ne hC 350 367 dL_law_350 (by decide) (by omega) (fun h350 => ?_) (fun h350 => ?_)
                                                    · skip
                                                      refine k_iinc hC 367 2 (nI (k + 1)) [(14, .int (nI (k + 1))), (13, .int (nI ((if gx < k then 1 else 0) + 1))), (15, .int (nI 0)), (12, .int (-9)), (11, .ref q125), (10, .ref q119), (9, .int (loS s1)), (8, .int ((hiS s1) + (miS s1))), (7, .int (nI (plS s1))), (6, .int (nI (s1.1.length + s1.2.1.length))), (5, .int (nI kd)), (4, .int ((cv >>> ((nI ((i / 16) * 3)) &&& 31)) + (nI (373 * i)))), (3, .int (nI i)), (2, .ref m), (1, .ref q0), (0, .ref bb)] dL_law_367 rfl (nI_1 _) (by decide) rfl ?_
                                                      refine k_goto hC 370 292 dL_law_370 (by decide) ?_
                                                      refine KJ.lvp [0, 1, 3, 4, 5, 6, 7, 8, 9, 10, 11, 12, 13, 14, 15] rfl ?_
                                                      have eg : (if gx < k + 1 then 1 else 0) = (if gx < k then 1 else 0) + 1 := (by rw [if_pos (by omega), if_neg (by omega)])
                                                      refine KJ.eql (lv' := [(14, .int (nI (k + 1))), (13, .int (nI (if gx < k + 1 then 1 else 0))), (12, .int (-9)), (11, .ref q125), (10, .ref q119), (9, .int (loS s1)), (8, .int ((hiS s1) + (miS s1))), (7, .int (nI (plS s1))), (6, .int (nI (s1.1.length + s1.2.1.length))), (5, .int (nI kd)), (4, .int ((cv >>> ((nI ((i / 16) * 3)) &&& 31)) + (nI (373 * i)))), (3, .int (nI i)), (2, .ref m), (1, .ref q0), (0, .ref bb)]) (by rw [eg] <;> rfl) ?_
                                                      exact KJ.wide (by omega) (by omega) (ih292 (k + 1) gaq sbq gbq (by omega) (by omega) hSa)
                                                    · skip
                                                      exact absurd h350 (by decide)
                                                  · skip
                                                    exact absurd h337 (by decide)
                                            · skip
                                              exact absurd (dtl0_no hs) h306
                                        · skip
                                          have hne : k ≠ gx := fun z => hw (by have y := (fB (by omega)).1; rw [← z] at y; exact y)
                                          have hp : ¬ (inn s1 k ∧ 0 < piS s1 k) := fun z => hw z.1
                                          by_cases hs : inn (br s1 kd) k
                                          · skip
                                            have hkk : k = kd := fD k hw hs
                                            refine k_aload_n hC 299 dL_law_299 rfl ?_
                                            refine k_iload hC 300 dL_law_300 rfl ?_
                                            refine k_iconst hC 302 dL_law_302 (nI 0) (by decide) ?_
                                            refine g_callV hC hX 303 0 ([]) ((q119, .inl (D.1 21, 40, .inl (cpf (wB s1) (fun _ => 0) 40))) :: ((q125, .inl (D.1 21, 40, .inl (cpf (pB s1) (fun _ => 0) 40))) :: (wSm D m pp rr (br s1 kd) u3))) (fun uq => ((q0, .inr (3, [.ref (a 0), .ref (b 0)])) :: (wSt D a uq.1.1 uq.1.2 ++ (wSt D b uq.2.1 uq.2.2 ++ ((q119, .inl (D.1 21, 40, .inl (cpf (wB s1) (fun _ => 0) 40))) :: ((q125, .inl (D.1 21, 40, .inl (cpf (pB s1) (fun _ => 0) 40))) :: (wSm D m pp rr (br s1 kd) u3))))))) (c_X3_jar l hfl D q0 a b (br s1 kd) sb ga gb (nI k) (nI 0) hSa hWT) cw_RL_100 dL_law_303 ⟨Nat.le_of_ble_eq_true rfl, Nat.le_of_ble_eq_true rfl, (show 205028 + 3170 * i + 0 + 2770 + 0 + 1 + 1 + 1 + 1 + 1 + 1 + 1 + 1 + 4 * 40 + 2 + 92 + 1 + 1 + 1 + 2 * k + 2 ≤ 600130 by omega), (show 2665372 + 39010 * i + 0 + 36010 + 0 + 6 + 6 + 6 + 6 + 6 + 6 + 40 + 40 + 24 * 40 + 12 + 1196 + 6 + 6 + 6 + 12 * k + 12 ≤ 7301080 by omega)⟩ rfl (Nat.le_of_ble_eq_true rfl) rfl rfl rfl (by simp only [List.append_assoc, List.cons_append, List.nil_append, List.append_nil]) (fun _ => rfl) (fun _ => by simp only [List.append_assoc, List.cons_append, List.nil_append, List.append_nil]) _ rfl (fun v uq hp => ?_) (fun E hx => absurd hx (no_x (jarK0 h296 (by decide))))
                                            obtain ⟨-, rfl, euq, hSq⟩ := hp
                                            refine KJ.eqs (st' := .int (dtl (br s1 kd) (kn (nI k)) (kn (nI 0))) :: []) rfl ?_
                                            refine KJ.topi (y := (dtl (br s1 kd) k 0)) (by rw [kn_ek h296, kn_ek (by decide)]) ?_
                                            obtain ⟨⟨saq, gaq⟩, sbq, gbq⟩ := uq
                                            dsimp only at euq hSq
                                            have euq2 := euq.symm
                                            subst euq2
                                            refine KJ.eqw (ws' := ((q0, .inr (3, [.ref (a 0), .ref (b 0)])) :: (wSt D a (br s1 kd) gaq ++ (wSt D b sbq gbq ++ ((q119, .inl (D.1 21, 40, .inl (cpf (wB s1) (fun _ => 0) 40))) :: ((q125, .inl (D.1 21, 40, .inl (cpf (pB s1) (fun _ => 0) 40))) :: (wSm D m pp rr (br s1 kd) u3))))))) rfl ?_
                                            have hSa := hSq
                                            refine k_if_lt hC 306 313 dL_law_306 (by decide) (fun h306 => ?_) (fun h306 => ?_)
                                            · skip
                                              exact absurd h306 (dtl0_in hs)
                                            · skip
                                              refine k_iconst hC 309 dL_law_309 (nI 1) (by decide) ?_
                                              refine k_goto hC 310 314 dL_law_310 (by decide) ?_
                                              refine k_istore hC 314 15 [(15, .int (nI 1)), (14, .int (nI k)), (13, .int (nI (if gx < k then 1 else 0))), (12, .int (-9)), (11, .ref q125), (10, .ref q119), (9, .int (loS s1)), (8, .int ((hiS s1) + (miS s1))), (7, .int (nI (plS s1))), (6, .int (nI (s1.1.length + s1.2.1.length))), (5, .int (nI kd)), (4, .int ((cv >>> ((nI ((i / 16) * 3)) &&& 31)) + (nI (373 * i)))), (3, .int (nI i)), (2, .ref m), (1, .ref q0), (0, .ref bb)] dL_law_314 (by decide) rfl ?_
                                              refine k_aload hC 316 dL_law_316 rfl ?_
                                              refine k_iload hC 318 dL_law_318 rfl ?_
                                              refine n_zald hC 320 31 (nI 0) dL_law_320 rfl (by omega) (by decide) ((cpf_in h296).trans (wB_no hw)) ?_
                                              refine n_if_eq hC 321 332 dL_law_321 (by decide) (by omega) (fun h321 => ?_) (fun h321 => ?_)
                                              · skip
                                                refine k_aload hC 332 dL_law_332 rfl ?_
                                                refine k_iload hC 334 dL_law_334 rfl ?_
                                                refine n_zald hC 336 32 (nI 0) dL_law_336 rfl (by omega) (by decide) ((cpf_in h296).trans (pB_no hp)) ?_
                                                refine n_if_eq hC 337 345 dL_law_337 (by decide) (by omega) (fun h337 => ?_) (fun h337 => ?_)
                                                · skip
                                                  refine k_aload hC 345 dL_law_345 rfl ?_
                                                  refine k_iload hC 347 dL_law_347 rfl ?_
                                                  refine n_zald hC 349 31 (nI 0) dL_law_349 rfl (by omega) (by decide) ((cpf_in h296).trans (wB_no hw)) ?_
                                                  refine n_if_ne hC 350 367 dL_law_350 (by decide) (by omega) (fun h350 => ?_) (fun h350 => ?_)
                                                  · skip
                                                    exact absurd h350 (by decide)
                                                  · skip
                                                    refine k_iload hC 353 dL_law_353 rfl ?_
                                                    refine n_if_eq hC 355 367 dL_law_355 (by decide) (by omega) (fun h355 => ?_) (fun h355 => ?_)
                                                    · skip
                                                      exact absurd h355 (by decide)
                                                    · skip
                                                      refine k_iload hC 358 dL_law_358 rfl ?_
                                                      refine k_iload hC 360 dL_law_360 rfl ?_
                                                      refine n_icmp_eq hC 362 367 dL_law_362 (by decide) (by omega) (by omega) (fun h362 => ?_) (fun h362 => ?_)
                                                      · skip
                                                        refine k_iinc hC 367 1 (nI (k + 1)) [(14, .int (nI (k + 1))), (15, .int (nI 1)), (13, .int (nI (if gx < k then 1 else 0))), (12, .int (-9)), (11, .ref q125), (10, .ref q119), (9, .int (loS s1)), (8, .int ((hiS s1) + (miS s1))), (7, .int (nI (plS s1))), (6, .int (nI (s1.1.length + s1.2.1.length))), (5, .int (nI kd)), (4, .int ((cv >>> ((nI ((i / 16) * 3)) &&& 31)) + (nI (373 * i)))), (3, .int (nI i)), (2, .ref m), (1, .ref q0), (0, .ref bb)] dL_law_367 rfl (nI_1 _) (by decide) rfl ?_
                                                        refine k_goto hC 370 292 dL_law_370 (by decide) ?_
                                                        refine KJ.lvp [0, 2, 3, 4, 5, 6, 7, 8, 9, 10, 11, 12, 13, 14, 15] rfl ?_
                                                        have eg : (if gx < k + 1 then 1 else 0) = (if gx < k then 1 else 0) := (by by_cases z : gx < k; exact (if_pos (by omega)).trans (if_pos z).symm; exact (if_neg (by omega)).trans (if_neg z).symm)
                                                        refine KJ.eql (lv' := [(14, .int (nI (k + 1))), (13, .int (nI (if gx < k + 1 then 1 else 0))), (12, .int (-9)), (11, .ref q125), (10, .ref q119), (9, .int (loS s1)), (8, .int ((hiS s1) + (miS s1))), (7, .int (nI (plS s1))), (6, .int (nI (s1.1.length + s1.2.1.length))), (5, .int (nI kd)), (4, .int ((cv >>> ((nI ((i / 16) * 3)) &&& 31)) + (nI (373 * i)))), (3, .int (nI i)), (2, .ref m), (1, .ref q0), (0, .ref bb)]) (by rw [eg] <;> rfl) ?_
                                                        exact KJ.wide (by omega) (by omega) (ih292 (k + 1) gaq sbq gbq (by omega) (by omega) hSa)
                                                      · skip
                                                        exact absurd hkk h362
                                                · skip
                                                  exact absurd h337 (by decide)
                                              · skip
                                                exact absurd h321 (by decide)
                                          · skip
                                            refine k_aload_n hC 299 dL_law_299 rfl ?_
                                            refine k_iload hC 300 dL_law_300 rfl ?_
                                            refine k_iconst hC 302 dL_law_302 (nI 0) (by decide) ?_
                                            refine g_callV hC hX 303 0 ([]) ((q119, .inl (D.1 21, 40, .inl (cpf (wB s1) (fun _ => 0) 40))) :: ((q125, .inl (D.1 21, 40, .inl (cpf (pB s1) (fun _ => 0) 40))) :: (wSm D m pp rr (br s1 kd) u3))) (fun uq => ((q0, .inr (3, [.ref (a 0), .ref (b 0)])) :: (wSt D a uq.1.1 uq.1.2 ++ (wSt D b uq.2.1 uq.2.2 ++ ((q119, .inl (D.1 21, 40, .inl (cpf (wB s1) (fun _ => 0) 40))) :: ((q125, .inl (D.1 21, 40, .inl (cpf (pB s1) (fun _ => 0) 40))) :: (wSm D m pp rr (br s1 kd) u3))))))) (c_X3_jar l hfl D q0 a b (br s1 kd) sb ga gb (nI k) (nI 0) hSa hWT) cw_RL_100 dL_law_303 ⟨Nat.le_of_ble_eq_true rfl, Nat.le_of_ble_eq_true rfl, (show 205028 + 3170 * i + 0 + 2770 + 0 + 1 + 1 + 1 + 1 + 1 + 1 + 1 + 1 + 4 * 40 + 2 + 92 + 1 + 1 + 1 + 2 * k + 2 ≤ 600130 by omega), (show 2665372 + 39010 * i + 0 + 36010 + 0 + 6 + 6 + 6 + 6 + 6 + 6 + 40 + 40 + 24 * 40 + 12 + 1196 + 6 + 6 + 6 + 12 * k + 12 ≤ 7301080 by omega)⟩ rfl (Nat.le_of_ble_eq_true rfl) rfl rfl rfl (by simp only [List.append_assoc, List.cons_append, List.nil_append, List.append_nil]) (fun _ => rfl) (fun _ => by simp only [List.append_assoc, List.cons_append, List.nil_append, List.append_nil]) _ rfl (fun v uq hp => ?_) (fun E hx => absurd hx (no_x (jarK0 h296 (by decide))))
                                            obtain ⟨-, rfl, euq, hSq⟩ := hp
                                            refine KJ.eqs (st' := .int (dtl (br s1 kd) (kn (nI k)) (kn (nI 0))) :: []) rfl ?_
                                            refine KJ.topi (y := (dtl (br s1 kd) k 0)) (by rw [kn_ek h296, kn_ek (by decide)]) ?_
                                            obtain ⟨⟨saq, gaq⟩, sbq, gbq⟩ := uq
                                            dsimp only at euq hSq
                                            have euq2 := euq.symm
                                            subst euq2
                                            refine KJ.eqw (ws' := ((q0, .inr (3, [.ref (a 0), .ref (b 0)])) :: (wSt D a (br s1 kd) gaq ++ (wSt D b sbq gbq ++ ((q119, .inl (D.1 21, 40, .inl (cpf (wB s1) (fun _ => 0) 40))) :: ((q125, .inl (D.1 21, 40, .inl (cpf (pB s1) (fun _ => 0) 40))) :: (wSm D m pp rr (br s1 kd) u3))))))) rfl ?_
                                            have hSa := hSq
                                            refine k_if_lt hC 306 313 dL_law_306 (by decide) (fun h306 => ?_) (fun h306 => ?_)
                                            · skip
                                              refine k_iconst hC 313 dL_law_313 (nI 0) (by decide) ?_
                                              refine k_istore hC 314 15 [(15, .int (nI 0)), (14, .int (nI k)), (13, .int (nI (if gx < k then 1 else 0))), (12, .int (-9)), (11, .ref q125), (10, .ref q119), (9, .int (loS s1)), (8, .int ((hiS s1) + (miS s1))), (7, .int (nI (plS s1))), (6, .int (nI (s1.1.length + s1.2.1.length))), (5, .int (nI kd)), (4, .int ((cv >>> ((nI ((i / 16) * 3)) &&& 31)) + (nI (373 * i)))), (3, .int (nI i)), (2, .ref m), (1, .ref q0), (0, .ref bb)] dL_law_314 (by decide) rfl ?_
                                              refine k_aload hC 316 dL_law_316 rfl ?_
                                              refine k_iload hC 318 dL_law_318 rfl ?_
                                              refine n_zald hC 320 31 (nI 0) dL_law_320 rfl (by omega) (by decide) ((cpf_in h296).trans (wB_no hw)) ?_
                                              refine n_if_eq hC 321 332 dL_law_321 (by decide) (by omega) (fun h321 => ?_) (fun h321 => ?_)
                                              · skip
                                                refine k_aload hC 332 dL_law_332 rfl ?_
                                                refine k_iload hC 334 dL_law_334 rfl ?_
                                                refine n_zald hC 336 32 (nI 0) dL_law_336 rfl (by omega) (by decide) ((cpf_in h296).trans (pB_no hp)) ?_
                                                refine n_if_eq hC 337 345 dL_law_337 (by decide) (by omega) (fun h337 => ?_) (fun h337 => ?_)
                                                · skip
                                                  refine k_aload hC 345 dL_law_345 rfl ?_
                                                  refine k_iload hC 347 dL_law_347 rfl ?_
                                                  refine n_zald hC 349 31 (nI 0) dL_law_349 rfl (by omega) (by decide) ((cpf_in h296).trans (wB_no hw)) ?_
                                                  refine n_if_ne hC 350 367 dL_law_350 (by decide) (by omega) (fun h350 => ?_) (fun h350 => ?_)
                                                  · skip
                                                    exact absurd h350 (by decide)
                                                  · skip
                                                    refine k_iload hC 353 dL_law_353 rfl ?_
                                                    refine n_if_eq hC 355 367 dL_law_355 (by decide) (by omega) (fun h355 => ?_) (fun h355 => ?_)
                                                    · skip
                                                      refine k_iinc hC 367 1 (nI (k + 1)) [(14, .int (nI (k + 1))), (15, .int (nI 0)), (13, .int (nI (if gx < k then 1 else 0))), (12, .int (-9)), (11, .ref q125), (10, .ref q119), (9, .int (loS s1)), (8, .int ((hiS s1) + (miS s1))), (7, .int (nI (plS s1))), (6, .int (nI (s1.1.length + s1.2.1.length))), (5, .int (nI kd)), (4, .int ((cv >>> ((nI ((i / 16) * 3)) &&& 31)) + (nI (373 * i)))), (3, .int (nI i)), (2, .ref m), (1, .ref q0), (0, .ref bb)] dL_law_367 rfl (nI_1 _) (by decide) rfl ?_
                                                      refine k_goto hC 370 292 dL_law_370 (by decide) ?_
                                                      refine KJ.lvp [0, 2, 3, 4, 5, 6, 7, 8, 9, 10, 11, 12, 13, 14, 15] rfl ?_
                                                      have eg : (if gx < k + 1 then 1 else 0) = (if gx < k then 1 else 0) := (by by_cases z : gx < k; exact (if_pos (by omega)).trans (if_pos z).symm; exact (if_neg (by omega)).trans (if_neg z).symm)
                                                      refine KJ.eql (lv' := [(14, .int (nI (k + 1))), (13, .int (nI (if gx < k + 1 then 1 else 0))), (12, .int (-9)), (11, .ref q125), (10, .ref q119), (9, .int (loS s1)), (8, .int ((hiS s1) + (miS s1))), (7, .int (nI (plS s1))), (6, .int (nI (s1.1.length + s1.2.1.length))), (5, .int (nI kd)), (4, .int ((cv >>> ((nI ((i / 16) * 3)) &&& 31)) + (nI (373 * i)))), (3, .int (nI i)), (2, .ref m), (1, .ref q0), (0, .ref bb)]) (by rw [eg] <;> rfl) ?_
                                                      exact KJ.wide (by omega) (by omega) (ih292 (k + 1) gaq sbq gbq (by omega) (by omega) hSa)
                                                    · skip
                                                      exact absurd h355 (by decide)
                                                · skip
                                                  exact absurd h337 (by decide)
                                              · skip
                                                exact absurd h321 (by decide)
                                            · skip
                                              exact absurd (dtl0_no hs) h306
                                  exact KJ.wide (by omega) (by omega) (loop292 41 0 gaq sbq gbq (by omega) (by omega) hSa)
                                · skip
                                  exact absurd (by decide) h271
                          · skip
                            exact absurd rfl h248
                    · skip
                      exact absurd h206 (by decide)
                · skip
                  have hjT : (br s1 kd).1.length + (br s1 kd).2.1.length = s1.1.length + s1.2.1.length + 1 := hjr
                  have hfl2 : ¬ s1.1.length + s1.2.1.length = plS s1 := hful
                  refine k_aload_n hC 185 dL_law_185 rfl ?_
                  refine k_iload hC 186 dL_law_186 rfl ?_
                  refine hf_callS (n := 2) hC hX 188 [] ((q119, .inl (D.1 21, 40, .inl (cpf (wB s1) (fun _ => 0) 40))) :: ((q125, .inl (D.1 21, 40, .inl (cpf (pB s1) (fun _ => 0) 40))) :: (wSm D m pp rr s1 x1))) (fun u => ((q0, .inr (3, [.ref (a 0), .ref (b 0)])) :: (wSt D a u.1.1 u.1.2 ++ (wSt D b u.2.1 u.2.2 ++ ((q119, .inl (D.1 21, 40, .inl (cpf (wB s1) (fun _ => 0) 40))) :: ((q125, .inl (D.1 21, 40, .inl (cpf (pB s1) (fun _ => 0) 40))) :: (wSm D m pp rr s1 x1))))))) (h_fetch l hfl D q0 a b s1 sb ga gb kd hSa hW1 hkd) wq_13_11 wq_13_12 wq_2_23 wq_13_13 ⟨by decide, by decide, by decide +kernel⟩ dL_law_188 ⟨Nat.le_of_ble_eq_true rfl, Nat.le_of_ble_eq_true rfl, (show 205028 + 3170 * i + 0 + 2770 + 0 + 1 + 1 + 1 + 1 + 1 + 1 + 1 + 1 + 4 * 40 + 2 ≤ 600130 by omega), (show 2665372 + 39010 * i + 0 + 36010 + 0 + 6 + 6 + 6 + 6 + 6 + 6 + 40 + 40 + 24 * 40 + 12 ≤ 7301080 by omega)⟩ rfl (Nat.le_of_ble_eq_true rfl) (by simp only [List.append_assoc, List.cons_append, List.nil_append]) (fun _ => rfl) (fun _ => by simp only [List.append_assoc, List.cons_append, List.nil_append]) _ rfl (fun v u hp => ?_)
                  obtain ⟨rfl, eu, hSu⟩ := hp
                  refine KJ.eqs (st' := .int (ocI (oc s1 kd)) :: []) rfl ?_
                  refine KJ.topi (y := (nI (oc s1 kd))) (ocI_n (by omega)) ?_
                  obtain ⟨⟨saq, gaq⟩, sbq, gbq⟩ := u
                  dsimp only at eu hSu
                  subst eu
                  have hSa := hSu
                  refine KJ.eqw (ws' := ((q0, .inr (3, [.ref (a 0), .ref (b 0)])) :: (wSt D a (br s1 kd) gaq ++ (wSt D b sbq gbq ++ ((q119, .inl (D.1 21, 40, .inl (cpf (wB s1) (fun _ => 0) 40))) :: ((q125, .inl (D.1 21, 40, .inl (cpf (pB s1) (fun _ => 0) 40))) :: (wSm D m pp rr s1 x1))))))) rfl ?_
                  refine k_istore hC 191 12 [(12, .int (nI (oc s1 kd))), (11, .ref q125), (10, .ref q119), (9, .int (loS s1)), (8, .int ((hiS s1) + (miS s1))), (7, .int (nI (plS s1))), (6, .int (nI (s1.1.length + s1.2.1.length))), (5, .int (nI kd)), (4, .int ((cv >>> ((nI ((i / 16) * 3)) &&& 31)) + (nI (373 * i)))), (3, .int (nI i)), (2, .ref m), (1, .ref q0), (0, .ref bb)] dL_law_191 (by decide) rfl ?_
                  refine k_aload_n hC 193 dL_law_193 rfl ?_
                  refine k_iload hC 194 dL_law_194 rfl ?_
                  refine fp_callVe hC 196 33 ((q0, .inr (3, [.ref (a 0), .ref (b 0)])) :: (wSt D a (br s1 kd) gaq ++ (wSt D b sbq gbq ++ ((q119, .inl (D.1 21, 40, .inl (cpf (wB s1) (fun _ => 0) 40))) :: ((q125, .inl (D.1 21, 40, .inl (cpf (pB s1) (fun _ => 0) 40))) :: []))))) (fun u3 => ((q0, .inr (3, [.ref (a 0), .ref (b 0)])) :: (wSt D a (br s1 kd) gaq ++ (wSt D b sbq gbq ++ ((q119, .inl (D.1 21, 40, .inl (cpf (wB s1) (fun _ => 0) 40))) :: ((q125, .inl (D.1 21, 40, .inl (cpf (pB s1) (fun _ => 0) 40))) :: (wSm D m pp rr (br s1 kd) u3))))))) (f_sim_fetch l D m pp rr s1 x1 kd hW1 hJ1 hI1 hkd) cw_RL_82 dL_law_196 ⟨Nat.le_of_ble_eq_true rfl, Nat.le_of_ble_eq_true rfl, (show 205028 + 3170 * i + 0 + 2770 + 0 + 1 + 1 + 1 + 1 + 1 + 1 + 1 + 1 + 4 * 40 + 2 + 92 ≤ 600130 by omega), (show 2665372 + 39010 * i + 0 + 36010 + 0 + 6 + 6 + 6 + 6 + 6 + 6 + 40 + 40 + 24 * 40 + 12 + 1196 ≤ 7301080 by omega)⟩ rfl (Nat.le_of_ble_eq_true rfl) rfl rfl rfl (by simp only [List.append_assoc, List.cons_append, List.nil_append, List.append_nil]) (fun _ u hp => wSm_le hp.2.2) (fun _ => by simp only [List.append_assoc, List.cons_append, List.nil_append, List.append_nil]) _ rfl (fun v u3 hp => ?_)
                  obtain ⟨rfl, hJ3, hL3⟩ := hp
                  refine KJ.eqs (st' := .int (ocI (oc s1 kd)) :: []) rfl ?_
                  refine KJ.topi (y := (nI (oc s1 kd))) (ocI_n (by omega)) ?_
                  refine k_iload hC 199 dL_law_199 rfl ?_
                  refine n_icmp_ne hC 201 251 dL_law_201 (by decide) (by omega) (by omega) (fun h201 => ?_) (fun h201 => ?_)
                  · skip
                    exact absurd rfl h201
                  · skip
                    refine k_iload hC 204 dL_law_204 rfl ?_
                    refine n_if_ne hC 206 213 dL_law_206 (by decide) (by omega) (fun h206 => ?_) (fun h206 => ?_)
                    · skip
                      refine k_iconst hC 213 dL_law_213 (nI 0) (by decide) ?_
                      refine k_aload hC 214 dL_law_214 rfl ?_
                      refine k_iload hC 216 dL_law_216 rfl ?_
                      refine n_zald hC 218 31 (nI 0) dL_law_218 rfl (by omega) (by decide) ((cpf_in hkd).trans (wB_no hin)) ?_
                      refine n_icmp_ne hC 219 251 dL_law_219 (by decide) (by omega) (by omega) (fun h219 => ?_) (fun h219 => ?_)
                      · skip
                        exact absurd h219 (by decide)
                      · skip
                        refine k_aload_n hC 222 dL_law_222 rfl ?_
                        refine k_bipush hC 223 dL_law_223 (nI 6) (by decide) ?_
                        refine g_callV hC hX 225 0 ([]) ((q119, .inl (D.1 21, 40, .inl (cpf (wB s1) (fun _ => 0) 40))) :: ((q125, .inl (D.1 21, 40, .inl (cpf (pB s1) (fun _ => 0) 40))) :: (wSm D m pp rr (br s1 kd) u3))) (fun uq => ((q0, .inr (3, [.ref (a 0), .ref (b 0)])) :: (wSt D a uq.1.1 uq.1.2 ++ (wSt D b uq.2.1 uq.2.2 ++ ((q119, .inl (D.1 21, 40, .inl (cpf (wB s1) (fun _ => 0) 40))) :: ((q125, .inl (D.1 21, 40, .inl (cpf (pB s1) (fun _ => 0) 40))) :: (wSm D m pp rr (br s1 kd) u3))))))) (c_X3_count l hfl D q0 a b (br s1 kd) sbq gaq gbq (nI 6) hSa hWT) cw_RL_97 dL_law_225 ⟨Nat.le_of_ble_eq_true rfl, Nat.le_of_ble_eq_true rfl, (show 205028 + 3170 * i + 0 + 2770 + 0 + 1 + 1 + 1 + 1 + 1 + 1 + 1 + 1 + 4 * 40 + 2 + 92 + 1 ≤ 600130 by omega), (show 2665372 + 39010 * i + 0 + 36010 + 0 + 6 + 6 + 6 + 6 + 6 + 6 + 40 + 40 + 24 * 40 + 12 + 1196 + 6 ≤ 7301080 by omega)⟩ rfl (Nat.le_of_ble_eq_true rfl) rfl rfl rfl (by simp only [List.append_assoc, List.cons_append, List.nil_append, List.append_nil]) (fun _ => rfl) (fun _ => by simp only [List.append_assoc, List.cons_append, List.nil_append, List.append_nil]) _ rfl (fun v uq hp => ?_) (fun E hx => absurd hx (no_x (countK0 (by decide))))
                        obtain ⟨-, rfl, euq, hSq⟩ := hp
                        refine KJ.eqs (st' := .int (ct (br s1 kd) (kn (nI 6))) :: []) rfl ?_
                        refine KJ.topi (y := (hiS (br s1 kd))) (by rw [kn_ek (by decide)]; rfl) ?_
                        obtain ⟨⟨saq, gaq⟩, sbq, gbq⟩ := uq
                        dsimp only at euq hSq
                        have euq2 := euq.symm
                        subst euq2
                        refine KJ.eqw (ws' := ((q0, .inr (3, [.ref (a 0), .ref (b 0)])) :: (wSt D a (br s1 kd) gaq ++ (wSt D b sbq gbq ++ ((q119, .inl (D.1 21, 40, .inl (cpf (wB s1) (fun _ => 0) 40))) :: ((q125, .inl (D.1 21, 40, .inl (cpf (pB s1) (fun _ => 0) 40))) :: (wSm D m pp rr (br s1 kd) u3))))))) rfl ?_
                        have hSa := hSq
                        refine k_aload_n hC 228 dL_law_228 rfl ?_
                        refine k_bipush hC 229 dL_law_229 (nI 7) (by decide) ?_
                        refine g_callV hC hX 231 0 ([]) ((q119, .inl (D.1 21, 40, .inl (cpf (wB s1) (fun _ => 0) 40))) :: ((q125, .inl (D.1 21, 40, .inl (cpf (pB s1) (fun _ => 0) 40))) :: (wSm D m pp rr (br s1 kd) u3))) (fun uq => ((q0, .inr (3, [.ref (a 0), .ref (b 0)])) :: (wSt D a uq.1.1 uq.1.2 ++ (wSt D b uq.2.1 uq.2.2 ++ ((q119, .inl (D.1 21, 40, .inl (cpf (wB s1) (fun _ => 0) 40))) :: ((q125, .inl (D.1 21, 40, .inl (cpf (pB s1) (fun _ => 0) 40))) :: (wSm D m pp rr (br s1 kd) u3))))))) (c_X3_count l hfl D q0 a b (br s1 kd) sbq gaq gbq (nI 7) hSa hWT) cw_RL_97 dL_law_231 ⟨Nat.le_of_ble_eq_true rfl, Nat.le_of_ble_eq_true rfl, (show 205028 + 3170 * i + 0 + 2770 + 0 + 1 + 1 + 1 + 1 + 1 + 1 + 1 + 1 + 4 * 40 + 2 + 92 + 1 + 1 ≤ 600130 by omega), (show 2665372 + 39010 * i + 0 + 36010 + 0 + 6 + 6 + 6 + 6 + 6 + 6 + 40 + 40 + 24 * 40 + 12 + 1196 + 6 + 6 ≤ 7301080 by omega)⟩ rfl (Nat.le_of_ble_eq_true rfl) rfl rfl rfl (by simp only [List.append_assoc, List.cons_append, List.nil_append, List.append_nil]) (fun _ => rfl) (fun _ => by simp only [List.append_assoc, List.cons_append, List.nil_append, List.append_nil]) _ rfl (fun v uq hp => ?_) (fun E hx => absurd hx (no_x (countK0 (by decide))))
                        obtain ⟨-, rfl, euq, hSq⟩ := hp
                        refine KJ.eqs (st' := .int (ct (br s1 kd) (kn (nI 7))) :: .int (hiS (br s1 kd)) :: []) rfl ?_
                        refine KJ.topi (y := (miS (br s1 kd))) (by rw [kn_ek (by decide)]; rfl) ?_
                        obtain ⟨⟨saq, gaq⟩, sbq, gbq⟩ := uq
                        dsimp only at euq hSq
                        have euq2 := euq.symm
                        subst euq2
                        refine KJ.eqw (ws' := ((q0, .inr (3, [.ref (a 0), .ref (b 0)])) :: (wSt D a (br s1 kd) gaq ++ (wSt D b sbq gbq ++ ((q119, .inl (D.1 21, 40, .inl (cpf (wB s1) (fun _ => 0) 40))) :: ((q125, .inl (D.1 21, 40, .inl (cpf (pB s1) (fun _ => 0) 40))) :: (wSm D m pp rr (br s1 kd) u3))))))) rfl ?_
                        have hSa := hSq
                        refine k_iadd hC 234 dL_law_234 ?_
                        refine k_iload hC 235 dL_law_235 rfl ?_
                        refine k_iload hC 237 dL_law_237 rfl ?_
                        refine n_if_ge hC 239 246 dL_law_239 (by decide) (by omega) (fun h239 => ?_) (fun h239 => ?_)
                        · skip
                          refine k_iconst hC 246 dL_law_246 (nI 1) (by decide) ?_
                          refine k_iadd hC 247 dL_law_247 ?_
                          refine KJ.topi (y := hiS (br s1 kd) + miS (br s1 kd)) (by rw [hsum]; rfl) ?_
                          refine k_icmp_eq hC 248 253 dL_law_248 (by decide) (fun h248 => ?_) (fun h248 => ?_)
                          · skip
                            refine k_iload hC 253 dL_law_253 rfl ?_
                            refine n_if_ge hC 255 269 dL_law_255 (by decide) (by omega) (fun h255 => ?_) (fun h255 => ?_)
                            · skip
                              refine k_iload hC 269 dL_law_269 rfl ?_
                              refine n_if_lt hC 271 286 dL_law_271 (by decide) (by omega) (fun h271 => ?_) (fun h271 => ?_)
                              · skip
                                exact h271.elim
                              · skip
                                refine k_aload_n hC 274 dL_law_274 rfl ?_
                                refine k_iload hC 275 dL_law_275 rfl ?_
                                refine k_iconst hC 277 dL_law_277 (nI 0) (by decide) ?_
                                refine g_callV hC hX 278 0 ([]) ((q119, .inl (D.1 21, 40, .inl (cpf (wB s1) (fun _ => 0) 40))) :: ((q125, .inl (D.1 21, 40, .inl (cpf (pB s1) (fun _ => 0) 40))) :: (wSm D m pp rr (br s1 kd) u3))) (fun uq => ((q0, .inr (3, [.ref (a 0), .ref (b 0)])) :: (wSt D a uq.1.1 uq.1.2 ++ (wSt D b uq.2.1 uq.2.2 ++ ((q119, .inl (D.1 21, 40, .inl (cpf (wB s1) (fun _ => 0) 40))) :: ((q125, .inl (D.1 21, 40, .inl (cpf (pB s1) (fun _ => 0) 40))) :: (wSm D m pp rr (br s1 kd) u3))))))) (c_X3_jar l hfl D q0 a b (br s1 kd) sbq gaq gbq (nI kd) (nI 0) hSa hWT) cw_RL_100 dL_law_278 ⟨Nat.le_of_ble_eq_true rfl, Nat.le_of_ble_eq_true rfl, (show 205028 + 3170 * i + 0 + 2770 + 0 + 1 + 1 + 1 + 1 + 1 + 1 + 1 + 1 + 4 * 40 + 2 + 92 + 1 + 1 + 2 ≤ 600130 by omega), (show 2665372 + 39010 * i + 0 + 36010 + 0 + 6 + 6 + 6 + 6 + 6 + 6 + 40 + 40 + 24 * 40 + 12 + 1196 + 6 + 6 + 12 ≤ 7301080 by omega)⟩ rfl (Nat.le_of_ble_eq_true rfl) rfl rfl rfl (by simp only [List.append_assoc, List.cons_append, List.nil_append, List.append_nil]) (fun _ => rfl) (fun _ => by simp only [List.append_assoc, List.cons_append, List.nil_append, List.append_nil]) _ rfl (fun v uq hp => ?_) (fun E hx => absurd hx (no_x (jarK0 hkd (by decide))))
                                obtain ⟨-, rfl, euq, hSq⟩ := hp
                                refine KJ.eqs (st' := .int (dtl (br s1 kd) (kn (nI kd)) (kn (nI 0))) :: []) rfl ?_
                                refine KJ.topi (y := (dtl (br s1 kd) kd 0)) (by rw [kn_ek hkd, kn_ek (by decide)]) ?_
                                obtain ⟨⟨saq, gaq⟩, sbq, gbq⟩ := uq
                                dsimp only at euq hSq
                                have euq2 := euq.symm
                                subst euq2
                                refine KJ.eqw (ws' := ((q0, .inr (3, [.ref (a 0), .ref (b 0)])) :: (wSt D a (br s1 kd) gaq ++ (wSt D b sbq gbq ++ ((q119, .inl (D.1 21, 40, .inl (cpf (wB s1) (fun _ => 0) 40))) :: ((q125, .inl (D.1 21, 40, .inl (cpf (pB s1) (fun _ => 0) 40))) :: (wSm D m pp rr (br s1 kd) u3))))))) rfl ?_
                                have hSa := hSq
                                refine k_if_ge hC 281 286 dL_law_281 (by decide) (fun h281 => ?_) (fun h281 => ?_)
                                · skip
                                  refine k_iconst hC 286 dL_law_286 (nI 0) (by decide) ?_
                                  refine k_istore hC 287 13 [(13, .int (nI 0)), (12, .int (nI (oc s1 kd))), (11, .ref q125), (10, .ref q119), (9, .int (loS s1)), (8, .int ((hiS s1) + (miS s1))), (7, .int (nI (plS s1))), (6, .int (nI (s1.1.length + s1.2.1.length))), (5, .int (nI kd)), (4, .int ((cv >>> ((nI ((i / 16) * 3)) &&& 31)) + (nI (373 * i)))), (3, .int (nI i)), (2, .ref m), (1, .ref q0), (0, .ref bb)] dL_law_287 (by decide) rfl ?_
                                  refine k_iconst hC 289 dL_law_289 (nI 0) (by decide) ?_
                                  refine k_istore hC 290 14 [(14, .int (nI 0)), (13, .int (nI 0)), (12, .int (nI (oc s1 kd))), (11, .ref q125), (10, .ref q119), (9, .int (loS s1)), (8, .int ((hiS s1) + (miS s1))), (7, .int (nI (plS s1))), (6, .int (nI (s1.1.length + s1.2.1.length))), (5, .int (nI kd)), (4, .int ((cv >>> ((nI ((i / 16) * 3)) &&& 31)) + (nI (373 * i)))), (3, .int (nI i)), (2, .ref m), (1, .ref q0), (0, .ref bb)] dL_law_290 (by decide) rfl ?_
                                  refine KJ.eql (lv' := [(14, .int (nI 0)), (13, .int (nI (if gx < 0 then 1 else 0))), (12, .int (nI (oc s1 kd))), (11, .ref q125), (10, .ref q119), (9, .int (loS s1)), (8, .int ((hiS s1) + (miS s1))), (7, .int (nI (plS s1))), (6, .int (nI (s1.1.length + s1.2.1.length))), (5, .int (nI kd)), (4, .int ((cv >>> ((nI ((i / 16) * 3)) &&& 31)) + (nI (373 * i)))), (3, .int (nI i)), (2, .ref m), (1, .ref q0), (0, .ref bb)]) (by rw [if_neg (Nat.not_lt_zero gx)]) ?_
                                  have loop292 : ∀ (nn292 : Nat) (k : Nat) (ga : PG) (sb : PS) (gb : PG), 40 - k < nn292 → k ≤ 40 → SR (br s1 kd) ga → KJ l G D room_1 16 (205028 + 3170 * i + 0 + 2770 + 0 + 1 + 1 + 1 + 1 + 1 + 1 + 1 + 1 + 4 * 40 + 2 + 92 + 1 + 1 + 2 + 2 * k) (2665372 + 39010 * i + 0 + 36010 + 0 + 6 + 6 + 6 + 6 + 6 + 6 + 40 + 40 + 24 * 40 + 12 + 1196 + 6 + 6 + 12 + 12 * k) ((q0, .inr (3, [.ref (a 0), .ref (b 0)])) :: (wSt D a (br s1 kd) ga ++ (wSt D b sb gb ++ ((q119, .inl (D.1 21, 40, .inl (cpf (wB s1) (fun _ => 0) 40))) :: ((q125, .inl (D.1 21, 40, .inl (cpf (pB s1) (fun _ => 0) 40))) :: (wSm D m pp rr (br s1 kd) u3)))))) [(14, .int (nI k)), (13, .int (nI (if gx < k then 1 else 0))), (12, .int (nI (oc s1 kd))), (11, .ref q125), (10, .ref q119), (9, .int (loS s1)), (8, .int ((hiS s1) + (miS s1))), (7, .int (nI (plS s1))), (6, .int (nI (s1.1.length + s1.2.1.length))), (5, .int (nI kd)), (4, .int ((cv >>> ((nI ((i / 16) * 3)) &&& 31)) + (nI (373 * i)))), (3, .int (nI i)), (2, .ref m), (1, .ref q0), (0, .ref bb)] 292 ([]) := by
                                    intro nn292
                                    induction nn292 with
                                    | zero => intro k ga sb gb h; exact absurd h (Nat.not_lt_zero _)
                                    | succ nn292 ih292 =>
                                      intro k ga sb gb hn292 hk40 hSa
                                      refine k_iload hC 292 dL_law_292 rfl ?_
                                      refine k_bipush hC 294 dL_law_294 (nI 40) (by decide) ?_
                                      refine n_icmp_ge hC 296 373 dL_law_296 (by decide) (by omega) (by omega) (fun h296 => ?_) (fun h296 => ?_)
                                      · skip
                                        obtain rfl : k = 40 := by omega
                                        refine KJ.eql (lv' := [(14, .int (nI 40)), (13, .int (nI 0)), (12, .int (nI (oc s1 kd))), (11, .ref q125), (10, .ref q119), (9, .int (loS s1)), (8, .int ((hiS s1) + (miS s1))), (7, .int (nI (plS s1))), (6, .int (nI (s1.1.length + s1.2.1.length))), (5, .int (nI kd)), (4, .int ((cv >>> ((nI ((i / 16) * 3)) &&& 31)) + (nI (373 * i)))), (3, .int (nI i)), (2, .ref m), (1, .ref q0), (0, .ref bb)]) (by rw [if_neg (by omega)]) ?_
                                        refine k_iload hC 373 dL_law_373 rfl ?_
                                        refine n_if_le hC 375 389 dL_law_375 (by decide) (by omega) (fun h375 => ?_) (fun h375 => ?_)
                                        · skip
                                          exact absurd h375 (by omega)
                                        · skip
                                          refine k_iload hC 378 dL_law_378 rfl ?_
                                          refine k_iload hC 380 dL_law_380 rfl ?_
                                          refine n_icmp_ne hC 382 389 dL_law_382 (by decide) (by omega) (by omega) (fun h382 => ?_) (fun h382 => ?_)
                                          · skip
                                            refine k_iconst hC 389 dL_law_389 (nI 0) (by decide) ?_
                                            refine k_istore hC 390 14 [(14, .int (nI 0)), (13, .int (nI 0)), (12, .int (nI (oc s1 kd))), (11, .ref q125), (10, .ref q119), (9, .int (loS s1)), (8, .int ((hiS s1) + (miS s1))), (7, .int (nI (plS s1))), (6, .int (nI (s1.1.length + s1.2.1.length))), (5, .int (nI kd)), (4, .int ((cv >>> ((nI ((i / 16) * 3)) &&& 31)) + (nI (373 * i)))), (3, .int (nI i)), (2, .ref m), (1, .ref q0), (0, .ref bb)] dL_law_390 (by decide) rfl ?_
                                            refine k_iload hC 392 dL_law_392 rfl ?_
                                            refine k_iload hC 394 dL_law_394 rfl ?_
                                            refine n_if_eq hC 396 403 dL_law_396 (by decide) (by omega) (fun h396 => ?_) (fun h396 => ?_)
                                            · skip
                                              refine k_iconst hC 403 dL_law_403 (nI 0) (by decide) ?_
                                              refine n_icmp_ne hC 404 448 dL_law_404 (by decide) (by omega) (by omega) (fun h404 => ?_) (fun h404 => ?_)
                                              · skip
                                                exact absurd h404 (by decide)
                                              · skip
                                                refine k_aload_n hC 407 dL_law_407 rfl ?_
                                                refine k_bipush hC 408 dL_law_408 (nI 9) (by decide) ?_
                                                refine g_callV hC hX 410 0 ([]) ((q119, .inl (D.1 21, 40, .inl (cpf (wB s1) (fun _ => 0) 40))) :: ((q125, .inl (D.1 21, 40, .inl (cpf (pB s1) (fun _ => 0) 40))) :: (wSm D m pp rr (br s1 kd) u3))) (fun uq => ((q0, .inr (3, [.ref (a 0), .ref (b 0)])) :: (wSt D a uq.1.1 uq.1.2 ++ (wSt D b uq.2.1 uq.2.2 ++ ((q119, .inl (D.1 21, 40, .inl (cpf (wB s1) (fun _ => 0) 40))) :: ((q125, .inl (D.1 21, 40, .inl (cpf (pB s1) (fun _ => 0) 40))) :: (wSm D m pp rr (br s1 kd) u3))))))) (c_X3_count l hfl D q0 a b (br s1 kd) sb ga gb (nI 9) hSa hWT) cw_RL_97 dL_law_410 ⟨Nat.le_of_ble_eq_true rfl, Nat.le_of_ble_eq_true rfl, (show 205028 + 3170 * i + 0 + 2770 + 0 + 1 + 1 + 1 + 1 + 1 + 1 + 1 + 1 + 4 * 40 + 2 + 92 + 1 + 1 + 2 + 2 * 40 + 1 ≤ 600130 by omega), (show 2665372 + 39010 * i + 0 + 36010 + 0 + 6 + 6 + 6 + 6 + 6 + 6 + 40 + 40 + 24 * 40 + 12 + 1196 + 6 + 6 + 12 + 12 * 40 + 6 ≤ 7301080 by omega)⟩ rfl (Nat.le_of_ble_eq_true rfl) rfl rfl rfl (by simp only [List.append_assoc, List.cons_append, List.nil_append, List.append_nil]) (fun _ => rfl) (fun _ => by simp only [List.append_assoc, List.cons_append, List.nil_append, List.append_nil]) _ rfl (fun v uq hp => ?_) (fun E hx => absurd hx (no_x (countK0 (by decide))))
                                                obtain ⟨-, rfl, euq, hSq⟩ := hp
                                                refine KJ.eqs (st' := .int (ct (br s1 kd) (kn (nI 9))) :: []) rfl ?_
                                                refine KJ.topi (y := (loS (br s1 kd))) (by rw [kn_ek (by decide)]; rfl) ?_
                                                obtain ⟨⟨saq, gaq⟩, sbq, gbq⟩ := uq
                                                dsimp only at euq hSq
                                                have euq2 := euq.symm
                                                subst euq2
                                                refine KJ.eqw (ws' := ((q0, .inr (3, [.ref (a 0), .ref (b 0)])) :: (wSt D a (br s1 kd) gaq ++ (wSt D b sbq gbq ++ ((q119, .inl (D.1 21, 40, .inl (cpf (wB s1) (fun _ => 0) 40))) :: ((q125, .inl (D.1 21, 40, .inl (cpf (pB s1) (fun _ => 0) 40))) :: (wSm D m pp rr (br s1 kd) u3))))))) rfl ?_
                                                have hSa := hSq
                                                refine k_iload hC 413 dL_law_413 rfl ?_
                                                refine k_isub hC 415 dL_law_415 (KJ.topi (y := (nI 0)) (by rw [hlo, Int32.sub_self, nI_0]) ?_)
                                                refine k_iload hC 416 dL_law_416 rfl ?_
                                                refine n_if_eq hC 418 428 dL_law_418 (by decide) (by omega) (fun h418 => ?_) (fun h418 => ?_)
                                                · skip
                                                  refine k_iconst hC 428 dL_law_428 (nI 0) (by decide) ?_
                                                  refine n_icmp_gt hC 429 448 dL_law_429 (by decide) (by omega) (by omega) (fun h429 => ?_) (fun h429 => ?_)
                                                  · skip
                                                    exact absurd h429 (by decide)
                                                  · skip
                                                    refine k_iload hC 432 dL_law_432 rfl ?_
                                                    refine n_if_eq hC 434 450 dL_law_434 (by decide) (by omega) (fun h434 => ?_) (fun h434 => ?_)
                                                    · skip
                                                      refine k_aload_n hC 450 dL_law_450 rfl ?_
                                                      refine k_iconst hC 451 dL_law_451 (nI 1) (by decide) ?_
                                                      refine g_callV hC hX 452 0 ([]) ((q119, .inl (D.1 21, 40, .inl (cpf (wB s1) (fun _ => 0) 40))) :: ((q125, .inl (D.1 21, 40, .inl (cpf (pB s1) (fun _ => 0) 40))) :: (wSm D m pp rr (br s1 kd) u3))) (fun uq => ((q0, .inr (3, [.ref (a 0), .ref (b 0)])) :: (wSt D a uq.1.1 uq.1.2 ++ (wSt D b uq.2.1 uq.2.2 ++ ((q119, .inl (D.1 21, 40, .inl (cpf (wB s1) (fun _ => 0) 40))) :: ((q125, .inl (D.1 21, 40, .inl (cpf (pB s1) (fun _ => 0) 40))) :: (wSm D m pp rr (br s1 kd) u3))))))) (c_X3_count l hfl D q0 a b (br s1 kd) sbq gaq gbq (nI 1) hSa hWT) cw_RL_97 dL_law_452 ⟨Nat.le_of_ble_eq_true rfl, Nat.le_of_ble_eq_true rfl, (show 205028 + 3170 * i + 0 + 2770 + 0 + 1 + 1 + 1 + 1 + 1 + 1 + 1 + 1 + 4 * 40 + 2 + 92 + 1 + 1 + 2 + 2 * 40 + 1 + 1 ≤ 600130 by omega), (show 2665372 + 39010 * i + 0 + 36010 + 0 + 6 + 6 + 6 + 6 + 6 + 6 + 40 + 40 + 24 * 40 + 12 + 1196 + 6 + 6 + 12 + 12 * 40 + 6 + 6 ≤ 7301080 by omega)⟩ rfl (Nat.le_of_ble_eq_true rfl) rfl rfl rfl (by simp only [List.append_assoc, List.cons_append, List.nil_append, List.append_nil]) (fun _ => rfl) (fun _ => by simp only [List.append_assoc, List.cons_append, List.nil_append, List.append_nil]) _ rfl (fun v uq hp => ?_) (fun E hx => absurd hx (no_x (countK0 (by decide))))
                                                      obtain ⟨-, rfl, euq, hSq⟩ := hp
                                                      refine KJ.eqs (st' := .int (ct (br s1 kd) (kn (nI 1))) :: []) rfl ?_
                                                      refine KJ.topi (y := (nI ((br s1 kd).1.length))) (by rw [kn_ek (by decide)]; rfl) ?_
                                                      obtain ⟨⟨saq, gaq⟩, sbq, gbq⟩ := uq
                                                      dsimp only at euq hSq
                                                      have euq2 := euq.symm
                                                      subst euq2
                                                      refine KJ.eqw (ws' := ((q0, .inr (3, [.ref (a 0), .ref (b 0)])) :: (wSt D a (br s1 kd) gaq ++ (wSt D b sbq gbq ++ ((q119, .inl (D.1 21, 40, .inl (cpf (wB s1) (fun _ => 0) 40))) :: ((q125, .inl (D.1 21, 40, .inl (cpf (pB s1) (fun _ => 0) 40))) :: (wSm D m pp rr (br s1 kd) u3))))))) rfl ?_
                                                      have hSa := hSq
                                                      refine k_aload_n hC 455 dL_law_455 rfl ?_
                                                      refine k_iconst hC 456 dL_law_456 (nI 2) (by decide) ?_
                                                      refine g_callV hC hX 457 0 ([]) ((q119, .inl (D.1 21, 40, .inl (cpf (wB s1) (fun _ => 0) 40))) :: ((q125, .inl (D.1 21, 40, .inl (cpf (pB s1) (fun _ => 0) 40))) :: (wSm D m pp rr (br s1 kd) u3))) (fun uq => ((q0, .inr (3, [.ref (a 0), .ref (b 0)])) :: (wSt D a uq.1.1 uq.1.2 ++ (wSt D b uq.2.1 uq.2.2 ++ ((q119, .inl (D.1 21, 40, .inl (cpf (wB s1) (fun _ => 0) 40))) :: ((q125, .inl (D.1 21, 40, .inl (cpf (pB s1) (fun _ => 0) 40))) :: (wSm D m pp rr (br s1 kd) u3))))))) (c_X3_count l hfl D q0 a b (br s1 kd) sbq gaq gbq (nI 2) hSa hWT) cw_RL_97 dL_law_457 ⟨Nat.le_of_ble_eq_true rfl, Nat.le_of_ble_eq_true rfl, (show 205028 + 3170 * i + 0 + 2770 + 0 + 1 + 1 + 1 + 1 + 1 + 1 + 1 + 1 + 4 * 40 + 2 + 92 + 1 + 1 + 2 + 2 * 40 + 1 + 1 + 1 ≤ 600130 by omega), (show 2665372 + 39010 * i + 0 + 36010 + 0 + 6 + 6 + 6 + 6 + 6 + 6 + 40 + 40 + 24 * 40 + 12 + 1196 + 6 + 6 + 12 + 12 * 40 + 6 + 6 + 6 ≤ 7301080 by omega)⟩ rfl (Nat.le_of_ble_eq_true rfl) rfl rfl rfl (by simp only [List.append_assoc, List.cons_append, List.nil_append, List.append_nil]) (fun _ => rfl) (fun _ => by simp only [List.append_assoc, List.cons_append, List.nil_append, List.append_nil]) _ rfl (fun v uq hp => ?_) (fun E hx => absurd hx (no_x (countK0 (by decide))))
                                                      obtain ⟨-, rfl, euq, hSq⟩ := hp
                                                      refine KJ.eqs (st' := .int (ct (br s1 kd) (kn (nI 2))) :: .int (nI ((br s1 kd).1.length)) :: []) rfl ?_
                                                      refine KJ.topi (y := (nI ((br s1 kd).2.1.length))) (by rw [kn_ek (by decide)]; rfl) ?_
                                                      obtain ⟨⟨saq, gaq⟩, sbq, gbq⟩ := uq
                                                      dsimp only at euq hSq
                                                      have euq2 := euq.symm
                                                      subst euq2
                                                      refine KJ.eqw (ws' := ((q0, .inr (3, [.ref (a 0), .ref (b 0)])) :: (wSt D a (br s1 kd) gaq ++ (wSt D b sbq gbq ++ ((q119, .inl (D.1 21, 40, .inl (cpf (wB s1) (fun _ => 0) 40))) :: ((q125, .inl (D.1 21, 40, .inl (cpf (pB s1) (fun _ => 0) 40))) :: (wSm D m pp rr (br s1 kd) u3))))))) rfl ?_
                                                      have hSa := hSq
                                                      refine n_iadd hC 460 (((br s1 kd).1.length) + ((br s1 kd).2.1.length)) dL_law_460 rfl ?_
                                                      refine k_iload hC 461 dL_law_461 rfl ?_
                                                      refine k_iload hC 463 dL_law_463 rfl ?_
                                                      refine n_if_le hC 465 477 dL_law_465 (by decide) (by omega) (fun h465 => ?_) (fun h465 => ?_)
                                                      · skip
                                                        exact absurd h465 (by omega)
                                                      · skip
                                                        refine k_iload hC 468 dL_law_468 rfl ?_
                                                        refine n_if_ne hC 470 477 dL_law_470 (by decide) (by omega) (fun h470 => ?_) (fun h470 => ?_)
                                                        · skip
                                                          exact absurd h470 (by decide)
                                                        · skip
                                                          refine k_iconst hC 473 dL_law_473 (nI 1) (by decide) ?_
                                                          refine k_goto hC 474 478 dL_law_474 (by decide) ?_
                                                          refine n_iadd hC 478 ((s1.1.length + s1.2.1.length) + 1) dL_law_478 rfl ?_
                                                          refine n_icmp_eq hC 479 484 dL_law_479 (by decide) (by omega) (by omega) (fun h479 => ?_) (fun h479 => ?_)
                                                          · skip
                                                            by_cases hpj : pnd (br s1 kd) < jrs (br s1 kd)
                                                            · skip
                                                              have hpj2 : pnd (br s1 kd) < (br s1 kd).1.length + (br s1 kd).2.1.length := hpj
                                                              have hsl : (sw (br s1 kd)).2 < 40 := inn_lt hWT (((sw_f hWT hpj).2.2.2.2.2.1 _).mp (Or.inr rfl))
                                                              refine k_aload_n hC 484 dL_law_484 rfl ?_
                                                              refine f_callV hC 485 0 ([]) ((q119, .inl (D.1 21, 40, .inl (cpf (wB s1) (fun _ => 0) 40))) :: ((q125, .inl (D.1 21, 40, .inl (cpf (pB s1) (fun _ => 0) 40))) :: (wSm D m pp rr (br s1 kd) u3))) (fun (uN : PS × PG) => ((q0, .inr (3, [.ref (a 0), .ref (b 0)])) :: (wSt D a (br s1 kd) gaq ++ (wSt D b uN.1 uN.2 ++ ((q119, .inl (D.1 21, 40, .inl (cpf (wB s1) (fun _ => 0) 40))) :: ((q125, .inl (D.1 21, 40, .inl (cpf (pB s1) (fun _ => 0) 40))) :: (wSm D m pp rr (br s1 kd) u3))))))) (c_X3_next l D q0 a b (br s1 kd) sbq gaq gbq hSa hWT) cw_RL_103 dL_law_485 ⟨Nat.le_of_ble_eq_true rfl, Nat.le_of_ble_eq_true rfl, (show 205028 + 3170 * i + 0 + 2770 + 0 + 1 + 1 + 1 + 1 + 1 + 1 + 1 + 1 + 4 * 40 + 2 + 92 + 1 + 1 + 2 + 2 * 40 + 1 + 1 + 1 + 0 ≤ 600130 by omega), (show 2665372 + 39010 * i + 0 + 36010 + 0 + 6 + 6 + 6 + 6 + 6 + 6 + 40 + 40 + 24 * 40 + 12 + 1196 + 6 + 6 + 12 + 12 * 40 + 6 + 6 + 6 + 0 ≤ 7301080 by omega)⟩ rfl (Nat.le_of_ble_eq_true rfl) rfl rfl rfl (by simp only [List.append_assoc, List.cons_append, List.nil_append, List.append_nil]) (fun _ => rfl) (fun _ => by simp only [List.append_assoc, List.cons_append, List.nil_append, List.append_nil]) _ rfl (fun v (uN : PS × PG) hp => ?_)
                                                              obtain rfl := hp
                                                              refine KJ.eqs (st' := .int (nextV (br s1 kd)) :: []) rfl ?_
                                                              refine KJ.topi (y := (nI ((sw (br s1 kd)).2))) (if_pos hpj) ?_
                                                              refine n_if_ge hC 488 495 dL_law_488 (by decide) (by omega) (fun h488 => ?_) (fun h488 => ?_)
                                                              · skip
                                                                refine k_iconst hC 495 dL_law_495 (nI 0) (by decide) ?_
                                                                refine k_aload_n hC 496 dL_law_496 rfl ?_
                                                                refine k_bipush hC 497 dL_law_497 (nI 10) (by decide) ?_
                                                                refine g_callV hC hX 499 0 ([]) ((q119, .inl (D.1 21, 40, .inl (cpf (wB s1) (fun _ => 0) 40))) :: ((q125, .inl (D.1 21, 40, .inl (cpf (pB s1) (fun _ => 0) 40))) :: (wSm D m pp rr (br s1 kd) u3))) (fun uq => ((q0, .inr (3, [.ref (a 0), .ref (b 0)])) :: (wSt D a uq.1.1 uq.1.2 ++ (wSt D b uq.2.1 uq.2.2 ++ ((q119, .inl (D.1 21, 40, .inl (cpf (wB s1) (fun _ => 0) 40))) :: ((q125, .inl (D.1 21, 40, .inl (cpf (pB s1) (fun _ => 0) 40))) :: (wSm D m pp rr (br s1 kd) u3))))))) (c_X3_count l hfl D q0 a b (br s1 kd) uN.1 gaq uN.2 (nI 10) hSa hWT) cw_RL_97 dL_law_499 ⟨Nat.le_of_ble_eq_true rfl, Nat.le_of_ble_eq_true rfl, (show 205028 + 3170 * i + 0 + 2770 + 0 + 1 + 1 + 1 + 1 + 1 + 1 + 1 + 1 + 4 * 40 + 2 + 92 + 1 + 1 + 2 + 2 * 40 + 1 + 1 + 1 + 0 + 1 ≤ 600130 by omega), (show 2665372 + 39010 * i + 0 + 36010 + 0 + 6 + 6 + 6 + 6 + 6 + 6 + 40 + 40 + 24 * 40 + 12 + 1196 + 6 + 6 + 12 + 12 * 40 + 6 + 6 + 6 + 0 + 6 ≤ 7301080 by omega)⟩ rfl (Nat.le_of_ble_eq_true rfl) rfl rfl rfl (by simp only [List.append_assoc, List.cons_append, List.nil_append, List.append_nil]) (fun _ => rfl) (fun _ => by simp only [List.append_assoc, List.cons_append, List.nil_append, List.append_nil]) _ rfl (fun v uq hp => ?_) (fun E hx => absurd hx (no_x (countK0 (by decide))))
                                                                obtain ⟨-, rfl, euq, hSq⟩ := hp
                                                                refine KJ.eqs (st' := .int (ct (br s1 kd) (kn (nI 10))) :: .int (nI 0) :: []) rfl ?_
                                                                refine KJ.topi (y := (nI (pnd (br s1 kd)))) (by rw [kn_ek (by decide)]; rfl) ?_
                                                                obtain ⟨⟨saq, gaq⟩, sbq, gbq⟩ := uq
                                                                dsimp only at euq hSq
                                                                have euq2 := euq.symm
                                                                subst euq2
                                                                refine KJ.eqw (ws' := ((q0, .inr (3, [.ref (a 0), .ref (b 0)])) :: (wSt D a (br s1 kd) gaq ++ (wSt D b sbq gbq ++ ((q119, .inl (D.1 21, 40, .inl (cpf (wB s1) (fun _ => 0) 40))) :: ((q125, .inl (D.1 21, 40, .inl (cpf (pB s1) (fun _ => 0) 40))) :: (wSm D m pp rr (br s1 kd) u3))))))) rfl ?_
                                                                have hSa := hSq
                                                                refine k_aload_n hC 502 dL_law_502 rfl ?_
                                                                refine k_iconst hC 503 dL_law_503 (nI 1) (by decide) ?_
                                                                refine g_callV hC hX 504 0 ([]) ((q119, .inl (D.1 21, 40, .inl (cpf (wB s1) (fun _ => 0) 40))) :: ((q125, .inl (D.1 21, 40, .inl (cpf (pB s1) (fun _ => 0) 40))) :: (wSm D m pp rr (br s1 kd) u3))) (fun uq => ((q0, .inr (3, [.ref (a 0), .ref (b 0)])) :: (wSt D a uq.1.1 uq.1.2 ++ (wSt D b uq.2.1 uq.2.2 ++ ((q119, .inl (D.1 21, 40, .inl (cpf (wB s1) (fun _ => 0) 40))) :: ((q125, .inl (D.1 21, 40, .inl (cpf (pB s1) (fun _ => 0) 40))) :: (wSm D m pp rr (br s1 kd) u3))))))) (c_X3_count l hfl D q0 a b (br s1 kd) sbq gaq gbq (nI 1) hSa hWT) cw_RL_97 dL_law_504 ⟨Nat.le_of_ble_eq_true rfl, Nat.le_of_ble_eq_true rfl, (show 205028 + 3170 * i + 0 + 2770 + 0 + 1 + 1 + 1 + 1 + 1 + 1 + 1 + 1 + 4 * 40 + 2 + 92 + 1 + 1 + 2 + 2 * 40 + 1 + 1 + 1 + 0 + 1 + 1 ≤ 600130 by omega), (show 2665372 + 39010 * i + 0 + 36010 + 0 + 6 + 6 + 6 + 6 + 6 + 6 + 40 + 40 + 24 * 40 + 12 + 1196 + 6 + 6 + 12 + 12 * 40 + 6 + 6 + 6 + 0 + 6 + 6 ≤ 7301080 by omega)⟩ rfl (Nat.le_of_ble_eq_true rfl) rfl rfl rfl (by simp only [List.append_assoc, List.cons_append, List.nil_append, List.append_nil]) (fun _ => rfl) (fun _ => by simp only [List.append_assoc, List.cons_append, List.nil_append, List.append_nil]) _ rfl (fun v uq hp => ?_) (fun E hx => absurd hx (no_x (countK0 (by decide))))
                                                                obtain ⟨-, rfl, euq, hSq⟩ := hp
                                                                refine KJ.eqs (st' := .int (ct (br s1 kd) (kn (nI 1))) :: .int (nI (pnd (br s1 kd))) :: .int (nI 0) :: []) rfl ?_
                                                                refine KJ.topi (y := (nI ((br s1 kd).1.length))) (by rw [kn_ek (by decide)]; rfl) ?_
                                                                obtain ⟨⟨saq, gaq⟩, sbq, gbq⟩ := uq
                                                                dsimp only at euq hSq
                                                                have euq2 := euq.symm
                                                                subst euq2
                                                                refine KJ.eqw (ws' := ((q0, .inr (3, [.ref (a 0), .ref (b 0)])) :: (wSt D a (br s1 kd) gaq ++ (wSt D b sbq gbq ++ ((q119, .inl (D.1 21, 40, .inl (cpf (wB s1) (fun _ => 0) 40))) :: ((q125, .inl (D.1 21, 40, .inl (cpf (pB s1) (fun _ => 0) 40))) :: (wSm D m pp rr (br s1 kd) u3))))))) rfl ?_
                                                                have hSa := hSq
                                                                refine k_aload_n hC 507 dL_law_507 rfl ?_
                                                                refine k_iconst hC 508 dL_law_508 (nI 2) (by decide) ?_
                                                                refine g_callV hC hX 509 0 ([]) ((q119, .inl (D.1 21, 40, .inl (cpf (wB s1) (fun _ => 0) 40))) :: ((q125, .inl (D.1 21, 40, .inl (cpf (pB s1) (fun _ => 0) 40))) :: (wSm D m pp rr (br s1 kd) u3))) (fun uq => ((q0, .inr (3, [.ref (a 0), .ref (b 0)])) :: (wSt D a uq.1.1 uq.1.2 ++ (wSt D b uq.2.1 uq.2.2 ++ ((q119, .inl (D.1 21, 40, .inl (cpf (wB s1) (fun _ => 0) 40))) :: ((q125, .inl (D.1 21, 40, .inl (cpf (pB s1) (fun _ => 0) 40))) :: (wSm D m pp rr (br s1 kd) u3))))))) (c_X3_count l hfl D q0 a b (br s1 kd) sbq gaq gbq (nI 2) hSa hWT) cw_RL_97 dL_law_509 ⟨Nat.le_of_ble_eq_true rfl, Nat.le_of_ble_eq_true rfl, (show 205028 + 3170 * i + 0 + 2770 + 0 + 1 + 1 + 1 + 1 + 1 + 1 + 1 + 1 + 4 * 40 + 2 + 92 + 1 + 1 + 2 + 2 * 40 + 1 + 1 + 1 + 0 + 1 + 1 + 1 ≤ 600130 by omega), (show 2665372 + 39010 * i + 0 + 36010 + 0 + 6 + 6 + 6 + 6 + 6 + 6 + 40 + 40 + 24 * 40 + 12 + 1196 + 6 + 6 + 12 + 12 * 40 + 6 + 6 + 6 + 0 + 6 + 6 + 6 ≤ 7301080 by omega)⟩ rfl (Nat.le_of_ble_eq_true rfl) rfl rfl rfl (by simp only [List.append_assoc, List.cons_append, List.nil_append, List.append_nil]) (fun _ => rfl) (fun _ => by simp only [List.append_assoc, List.cons_append, List.nil_append, List.append_nil]) _ rfl (fun v uq hp => ?_) (fun E hx => absurd hx (no_x (countK0 (by decide))))
                                                                obtain ⟨-, rfl, euq, hSq⟩ := hp
                                                                refine KJ.eqs (st' := .int (ct (br s1 kd) (kn (nI 2))) :: .int (nI ((br s1 kd).1.length)) :: .int (nI (pnd (br s1 kd))) :: .int (nI 0) :: []) rfl ?_
                                                                refine KJ.topi (y := (nI ((br s1 kd).2.1.length))) (by rw [kn_ek (by decide)]; rfl) ?_
                                                                obtain ⟨⟨saq, gaq⟩, sbq, gbq⟩ := uq
                                                                dsimp only at euq hSq
                                                                have euq2 := euq.symm
                                                                subst euq2
                                                                refine KJ.eqw (ws' := ((q0, .inr (3, [.ref (a 0), .ref (b 0)])) :: (wSt D a (br s1 kd) gaq ++ (wSt D b sbq gbq ++ ((q119, .inl (D.1 21, 40, .inl (cpf (wB s1) (fun _ => 0) 40))) :: ((q125, .inl (D.1 21, 40, .inl (cpf (pB s1) (fun _ => 0) 40))) :: (wSm D m pp rr (br s1 kd) u3))))))) rfl ?_
                                                                have hSa := hSq
                                                                refine n_iadd hC 512 (((br s1 kd).1.length) + ((br s1 kd).2.1.length)) dL_law_512 rfl ?_
                                                                refine n_icmp_ne hC 513 520 dL_law_513 (by decide) (by omega) (by omega) (fun h513 => ?_) (fun h513 => ?_)
                                                                · skip
                                                                  refine k_iconst hC 520 dL_law_520 (nI 0) (by decide) ?_
                                                                  refine n_icmp_eq hC 521 526 dL_law_521 (by decide) (by omega) (by omega) (fun h521 => ?_) (fun h521 => ?_)
                                                                  · skip
                                                                    refine k_iinc hC 526 11 (nI (i + 1)) [(3, .int (nI (i + 1))), (14, .int (nI 0)), (13, .int (nI 0)), (12, .int (nI (oc s1 kd))), (11, .ref q125), (10, .ref q119), (9, .int (loS s1)), (8, .int ((hiS s1) + (miS s1))), (7, .int (nI (plS s1))), (6, .int (nI (s1.1.length + s1.2.1.length))), (5, .int (nI kd)), (4, .int ((cv >>> ((nI ((i / 16) * 3)) &&& 31)) + (nI (373 * i)))), (2, .ref m), (1, .ref q0), (0, .ref bb)] dL_law_526 rfl (nI_1 _) (by decide) rfl ?_
                                                                    refine k_goto hC 529 22 dL_law_529 (by decide) ?_
                                                                    refine KJ.lvp [0, 12, 13, 14] rfl ?_
                                                                    refine KJ.dr ((q0, .inr (3, [.ref (a 0), .ref (b 0)])) :: (wSt D a (br s1 kd) gaq ++ wSt D b sbq gbq)) ((q125, .inl (D.1 21, 40, .inl (cpf (pB s1) (fun _ => 0) 40))) :: (wSm D m pp rr (br s1 kd) u3)) (q119, .inl (D.1 21, 40, .inl (cpf (wB s1) (fun _ => 0) 40))) (by simp only [List.append_assoc, List.cons_append, List.nil_append]) (by simp only [List.append_assoc, List.cons_append, List.nil_append]) (ws' := ((q0, .inr (3, [.ref (a 0), .ref (b 0)])) :: (wSt D a (br s1 kd) gaq ++ (wSt D b sbq gbq ++ ((q125, .inl (D.1 21, 40, .inl (cpf (pB s1) (fun _ => 0) 40))) :: (wSm D m pp rr (br s1 kd) u3)))))) ?_
                                                                    refine KJ.dr ((q0, .inr (3, [.ref (a 0), .ref (b 0)])) :: (wSt D a (br s1 kd) gaq ++ wSt D b sbq gbq)) (wSm D m pp rr (br s1 kd) u3) (q125, .inl (D.1 21, 40, .inl (cpf (pB s1) (fun _ => 0) 40))) (by simp only [List.append_assoc, List.cons_append, List.nil_append]) (by simp only [List.append_assoc, List.cons_append, List.nil_append]) (ws' := ((q0, .inr (3, [.ref (a 0), .ref (b 0)])) :: (wSt D a (br s1 kd) gaq ++ (wSt D b sbq gbq ++ (wSm D m pp rr (br s1 kd) u3))))) ?_
                                                                    exact KJ.wide (by omega) (by omega) (ih22 (i + 1) (br s1 kd) gaq sbq gbq u3 (by omega) (by omega) ⟨hSa, hWT, hJ3, hIT⟩)
                                                                  · skip
                                                                    exact absurd h521 (by decide)
                                                                · skip
                                                                  exact absurd h513 (by omega)
                                                              · skip
                                                                exact h488.elim
                                                            · skip
                                                              have hpj2 : ¬ pnd (br s1 kd) < (br s1 kd).1.length + (br s1 kd).2.1.length := hpj
                                                              refine k_aload_n hC 484 dL_law_484 rfl ?_
                                                              refine f_callV hC 485 0 ([]) ((q119, .inl (D.1 21, 40, .inl (cpf (wB s1) (fun _ => 0) 40))) :: ((q125, .inl (D.1 21, 40, .inl (cpf (pB s1) (fun _ => 0) 40))) :: (wSm D m pp rr (br s1 kd) u3))) (fun (uN : PS × PG) => ((q0, .inr (3, [.ref (a 0), .ref (b 0)])) :: (wSt D a (br s1 kd) gaq ++ (wSt D b uN.1 uN.2 ++ ((q119, .inl (D.1 21, 40, .inl (cpf (wB s1) (fun _ => 0) 40))) :: ((q125, .inl (D.1 21, 40, .inl (cpf (pB s1) (fun _ => 0) 40))) :: (wSm D m pp rr (br s1 kd) u3))))))) (c_X3_next l D q0 a b (br s1 kd) sbq gaq gbq hSa hWT) cw_RL_103 dL_law_485 ⟨Nat.le_of_ble_eq_true rfl, Nat.le_of_ble_eq_true rfl, (show 205028 + 3170 * i + 0 + 2770 + 0 + 1 + 1 + 1 + 1 + 1 + 1 + 1 + 1 + 4 * 40 + 2 + 92 + 1 + 1 + 2 + 2 * 40 + 1 + 1 + 1 + 0 ≤ 600130 by omega), (show 2665372 + 39010 * i + 0 + 36010 + 0 + 6 + 6 + 6 + 6 + 6 + 6 + 40 + 40 + 24 * 40 + 12 + 1196 + 6 + 6 + 12 + 12 * 40 + 6 + 6 + 6 + 0 ≤ 7301080 by omega)⟩ rfl (Nat.le_of_ble_eq_true rfl) rfl rfl rfl (by simp only [List.append_assoc, List.cons_append, List.nil_append, List.append_nil]) (fun _ => rfl) (fun _ => by simp only [List.append_assoc, List.cons_append, List.nil_append, List.append_nil]) _ rfl (fun v (uN : PS × PG) hp => ?_)
                                                              obtain rfl := hp
                                                              refine KJ.eqs (st' := .int (nextV (br s1 kd)) :: []) rfl ?_
                                                              refine KJ.topi (y := (-1)) (if_neg hpj) ?_
                                                              refine k_if_ge hC 488 495 dL_law_488 (by decide) (fun h488 => ?_) (fun h488 => ?_)
                                                              · skip
                                                                exact absurd h488 (by decide)
                                                              · skip
                                                                refine k_iconst hC 491 dL_law_491 (nI 1) (by decide) ?_
                                                                refine k_goto hC 492 496 dL_law_492 (by decide) ?_
                                                                refine k_aload_n hC 496 dL_law_496 rfl ?_
                                                                refine k_bipush hC 497 dL_law_497 (nI 10) (by decide) ?_
                                                                refine g_callV hC hX 499 0 ([]) ((q119, .inl (D.1 21, 40, .inl (cpf (wB s1) (fun _ => 0) 40))) :: ((q125, .inl (D.1 21, 40, .inl (cpf (pB s1) (fun _ => 0) 40))) :: (wSm D m pp rr (br s1 kd) u3))) (fun uq => ((q0, .inr (3, [.ref (a 0), .ref (b 0)])) :: (wSt D a uq.1.1 uq.1.2 ++ (wSt D b uq.2.1 uq.2.2 ++ ((q119, .inl (D.1 21, 40, .inl (cpf (wB s1) (fun _ => 0) 40))) :: ((q125, .inl (D.1 21, 40, .inl (cpf (pB s1) (fun _ => 0) 40))) :: (wSm D m pp rr (br s1 kd) u3))))))) (c_X3_count l hfl D q0 a b (br s1 kd) uN.1 gaq uN.2 (nI 10) hSa hWT) cw_RL_97 dL_law_499 ⟨Nat.le_of_ble_eq_true rfl, Nat.le_of_ble_eq_true rfl, (show 205028 + 3170 * i + 0 + 2770 + 0 + 1 + 1 + 1 + 1 + 1 + 1 + 1 + 1 + 4 * 40 + 2 + 92 + 1 + 1 + 2 + 2 * 40 + 1 + 1 + 1 + 0 + 1 ≤ 600130 by omega), (show 2665372 + 39010 * i + 0 + 36010 + 0 + 6 + 6 + 6 + 6 + 6 + 6 + 40 + 40 + 24 * 40 + 12 + 1196 + 6 + 6 + 12 + 12 * 40 + 6 + 6 + 6 + 0 + 6 ≤ 7301080 by omega)⟩ rfl (Nat.le_of_ble_eq_true rfl) rfl rfl rfl (by simp only [List.append_assoc, List.cons_append, List.nil_append, List.append_nil]) (fun _ => rfl) (fun _ => by simp only [List.append_assoc, List.cons_append, List.nil_append, List.append_nil]) _ rfl (fun v uq hp => ?_) (fun E hx => absurd hx (no_x (countK0 (by decide))))
                                                                obtain ⟨-, rfl, euq, hSq⟩ := hp
                                                                refine KJ.eqs (st' := .int (ct (br s1 kd) (kn (nI 10))) :: .int (nI 1) :: []) rfl ?_
                                                                refine KJ.topi (y := (nI (pnd (br s1 kd)))) (by rw [kn_ek (by decide)]; rfl) ?_
                                                                obtain ⟨⟨saq, gaq⟩, sbq, gbq⟩ := uq
                                                                dsimp only at euq hSq
                                                                have euq2 := euq.symm
                                                                subst euq2
                                                                refine KJ.eqw (ws' := ((q0, .inr (3, [.ref (a 0), .ref (b 0)])) :: (wSt D a (br s1 kd) gaq ++ (wSt D b sbq gbq ++ ((q119, .inl (D.1 21, 40, .inl (cpf (wB s1) (fun _ => 0) 40))) :: ((q125, .inl (D.1 21, 40, .inl (cpf (pB s1) (fun _ => 0) 40))) :: (wSm D m pp rr (br s1 kd) u3))))))) rfl ?_
                                                                have hSa := hSq
                                                                refine k_aload_n hC 502 dL_law_502 rfl ?_
                                                                refine k_iconst hC 503 dL_law_503 (nI 1) (by decide) ?_
                                                                refine g_callV hC hX 504 0 ([]) ((q119, .inl (D.1 21, 40, .inl (cpf (wB s1) (fun _ => 0) 40))) :: ((q125, .inl (D.1 21, 40, .inl (cpf (pB s1) (fun _ => 0) 40))) :: (wSm D m pp rr (br s1 kd) u3))) (fun uq => ((q0, .inr (3, [.ref (a 0), .ref (b 0)])) :: (wSt D a uq.1.1 uq.1.2 ++ (wSt D b uq.2.1 uq.2.2 ++ ((q119, .inl (D.1 21, 40, .inl (cpf (wB s1) (fun _ => 0) 40))) :: ((q125, .inl (D.1 21, 40, .inl (cpf (pB s1) (fun _ => 0) 40))) :: (wSm D m pp rr (br s1 kd) u3))))))) (c_X3_count l hfl D q0 a b (br s1 kd) sbq gaq gbq (nI 1) hSa hWT) cw_RL_97 dL_law_504 ⟨Nat.le_of_ble_eq_true rfl, Nat.le_of_ble_eq_true rfl, (show 205028 + 3170 * i + 0 + 2770 + 0 + 1 + 1 + 1 + 1 + 1 + 1 + 1 + 1 + 4 * 40 + 2 + 92 + 1 + 1 + 2 + 2 * 40 + 1 + 1 + 1 + 0 + 1 + 1 ≤ 600130 by omega), (show 2665372 + 39010 * i + 0 + 36010 + 0 + 6 + 6 + 6 + 6 + 6 + 6 + 40 + 40 + 24 * 40 + 12 + 1196 + 6 + 6 + 12 + 12 * 40 + 6 + 6 + 6 + 0 + 6 + 6 ≤ 7301080 by omega)⟩ rfl (Nat.le_of_ble_eq_true rfl) rfl rfl rfl (by simp only [List.append_assoc, List.cons_append, List.nil_append, List.append_nil]) (fun _ => rfl) (fun _ => by simp only [List.append_assoc, List.cons_append, List.nil_append, List.append_nil]) _ rfl (fun v uq hp => ?_) (fun E hx => absurd hx (no_x (countK0 (by decide))))
                                                                obtain ⟨-, rfl, euq, hSq⟩ := hp
                                                                refine KJ.eqs (st' := .int (ct (br s1 kd) (kn (nI 1))) :: .int (nI (pnd (br s1 kd))) :: .int (nI 1) :: []) rfl ?_
                                                                refine KJ.topi (y := (nI ((br s1 kd).1.length))) (by rw [kn_ek (by decide)]; rfl) ?_
                                                                obtain ⟨⟨saq, gaq⟩, sbq, gbq⟩ := uq
                                                                dsimp only at euq hSq
                                                                have euq2 := euq.symm
                                                                subst euq2
                                                                refine KJ.eqw (ws' := ((q0, .inr (3, [.ref (a 0), .ref (b 0)])) :: (wSt D a (br s1 kd) gaq ++ (wSt D b sbq gbq ++ ((q119, .inl (D.1 21, 40, .inl (cpf (wB s1) (fun _ => 0) 40))) :: ((q125, .inl (D.1 21, 40, .inl (cpf (pB s1) (fun _ => 0) 40))) :: (wSm D m pp rr (br s1 kd) u3))))))) rfl ?_
                                                                have hSa := hSq
                                                                refine k_aload_n hC 507 dL_law_507 rfl ?_
                                                                refine k_iconst hC 508 dL_law_508 (nI 2) (by decide) ?_
                                                                refine g_callV hC hX 509 0 ([]) ((q119, .inl (D.1 21, 40, .inl (cpf (wB s1) (fun _ => 0) 40))) :: ((q125, .inl (D.1 21, 40, .inl (cpf (pB s1) (fun _ => 0) 40))) :: (wSm D m pp rr (br s1 kd) u3))) (fun uq => ((q0, .inr (3, [.ref (a 0), .ref (b 0)])) :: (wSt D a uq.1.1 uq.1.2 ++ (wSt D b uq.2.1 uq.2.2 ++ ((q119, .inl (D.1 21, 40, .inl (cpf (wB s1) (fun _ => 0) 40))) :: ((q125, .inl (D.1 21, 40, .inl (cpf (pB s1) (fun _ => 0) 40))) :: (wSm D m pp rr (br s1 kd) u3))))))) (c_X3_count l hfl D q0 a b (br s1 kd) sbq gaq gbq (nI 2) hSa hWT) cw_RL_97 dL_law_509 ⟨Nat.le_of_ble_eq_true rfl, Nat.le_of_ble_eq_true rfl, (show 205028 + 3170 * i + 0 + 2770 + 0 + 1 + 1 + 1 + 1 + 1 + 1 + 1 + 1 + 4 * 40 + 2 + 92 + 1 + 1 + 2 + 2 * 40 + 1 + 1 + 1 + 0 + 1 + 1 + 1 ≤ 600130 by omega), (show 2665372 + 39010 * i + 0 + 36010 + 0 + 6 + 6 + 6 + 6 + 6 + 6 + 40 + 40 + 24 * 40 + 12 + 1196 + 6 + 6 + 12 + 12 * 40 + 6 + 6 + 6 + 0 + 6 + 6 + 6 ≤ 7301080 by omega)⟩ rfl (Nat.le_of_ble_eq_true rfl) rfl rfl rfl (by simp only [List.append_assoc, List.cons_append, List.nil_append, List.append_nil]) (fun _ => rfl) (fun _ => by simp only [List.append_assoc, List.cons_append, List.nil_append, List.append_nil]) _ rfl (fun v uq hp => ?_) (fun E hx => absurd hx (no_x (countK0 (by decide))))
                                                                obtain ⟨-, rfl, euq, hSq⟩ := hp
                                                                refine KJ.eqs (st' := .int (ct (br s1 kd) (kn (nI 2))) :: .int (nI ((br s1 kd).1.length)) :: .int (nI (pnd (br s1 kd))) :: .int (nI 1) :: []) rfl ?_
                                                                refine KJ.topi (y := (nI ((br s1 kd).2.1.length))) (by rw [kn_ek (by decide)]; rfl) ?_
                                                                obtain ⟨⟨saq, gaq⟩, sbq, gbq⟩ := uq
                                                                dsimp only at euq hSq
                                                                have euq2 := euq.symm
                                                                subst euq2
                                                                refine KJ.eqw (ws' := ((q0, .inr (3, [.ref (a 0), .ref (b 0)])) :: (wSt D a (br s1 kd) gaq ++ (wSt D b sbq gbq ++ ((q119, .inl (D.1 21, 40, .inl (cpf (wB s1) (fun _ => 0) 40))) :: ((q125, .inl (D.1 21, 40, .inl (cpf (pB s1) (fun _ => 0) 40))) :: (wSm D m pp rr (br s1 kd) u3))))))) rfl ?_
                                                                have hSa := hSq
                                                                refine n_iadd hC 512 (((br s1 kd).1.length) + ((br s1 kd).2.1.length)) dL_law_512 rfl ?_
                                                                refine n_icmp_ne hC 513 520 dL_law_513 (by decide) (by omega) (by omega) (fun h513 => ?_) (fun h513 => ?_)
                                                                · skip
                                                                  exact absurd (by omega) h513
                                                                · skip
                                                                  refine k_iconst hC 516 dL_law_516 (nI 1) (by decide) ?_
                                                                  refine k_goto hC 517 521 dL_law_517 (by decide) ?_
                                                                  refine n_icmp_eq hC 521 526 dL_law_521 (by decide) (by omega) (by omega) (fun h521 => ?_) (fun h521 => ?_)
                                                                  · skip
                                                                    refine k_iinc hC 526 11 (nI (i + 1)) [(3, .int (nI (i + 1))), (14, .int (nI 0)), (13, .int (nI 0)), (12, .int (nI (oc s1 kd))), (11, .ref q125), (10, .ref q119), (9, .int (loS s1)), (8, .int ((hiS s1) + (miS s1))), (7, .int (nI (plS s1))), (6, .int (nI (s1.1.length + s1.2.1.length))), (5, .int (nI kd)), (4, .int ((cv >>> ((nI ((i / 16) * 3)) &&& 31)) + (nI (373 * i)))), (2, .ref m), (1, .ref q0), (0, .ref bb)] dL_law_526 rfl (nI_1 _) (by decide) rfl ?_
                                                                    refine k_goto hC 529 22 dL_law_529 (by decide) ?_
                                                                    refine KJ.lvp [0, 12, 13, 14] rfl ?_
                                                                    refine KJ.dr ((q0, .inr (3, [.ref (a 0), .ref (b 0)])) :: (wSt D a (br s1 kd) gaq ++ wSt D b sbq gbq)) ((q125, .inl (D.1 21, 40, .inl (cpf (pB s1) (fun _ => 0) 40))) :: (wSm D m pp rr (br s1 kd) u3)) (q119, .inl (D.1 21, 40, .inl (cpf (wB s1) (fun _ => 0) 40))) (by simp only [List.append_assoc, List.cons_append, List.nil_append]) (by simp only [List.append_assoc, List.cons_append, List.nil_append]) (ws' := ((q0, .inr (3, [.ref (a 0), .ref (b 0)])) :: (wSt D a (br s1 kd) gaq ++ (wSt D b sbq gbq ++ ((q125, .inl (D.1 21, 40, .inl (cpf (pB s1) (fun _ => 0) 40))) :: (wSm D m pp rr (br s1 kd) u3)))))) ?_
                                                                    refine KJ.dr ((q0, .inr (3, [.ref (a 0), .ref (b 0)])) :: (wSt D a (br s1 kd) gaq ++ wSt D b sbq gbq)) (wSm D m pp rr (br s1 kd) u3) (q125, .inl (D.1 21, 40, .inl (cpf (pB s1) (fun _ => 0) 40))) (by simp only [List.append_assoc, List.cons_append, List.nil_append]) (by simp only [List.append_assoc, List.cons_append, List.nil_append]) (ws' := ((q0, .inr (3, [.ref (a 0), .ref (b 0)])) :: (wSt D a (br s1 kd) gaq ++ (wSt D b sbq gbq ++ (wSm D m pp rr (br s1 kd) u3))))) ?_
                                                                    exact KJ.wide (by omega) (by omega) (ih22 (i + 1) (br s1 kd) gaq sbq gbq u3 (by omega) (by omega) ⟨hSa, hWT, hJ3, hIT⟩)
                                                                  · skip
                                                                    exact absurd h521 (by decide)
                                                          · skip
                                                            exact absurd (by omega) h479
                                                    · skip
                                                      exact absurd h434 (by decide)
                                                · skip
                                                  exact absurd h418 (by decide)
                                            · skip
                                              exact absurd h396 (by decide)
                                          · skip
                                            exact absurd h382 hfl2
                                      · skip
                                        by_cases hw : inn s1 k
                                        · skip
                                          by_cases hs : inn (br s1 kd) k
                                          · skip
                                            have hne : k ≠ gx := fun z => (fB (by omega)).2 (z ▸ hs)
                                            by_cases hp : inn s1 k ∧ 0 < piS s1 k
                                            · skip
                                              refine k_aload_n hC 299 dL_law_299 rfl ?_
                                              refine k_iload hC 300 dL_law_300 rfl ?_
                                              refine k_iconst hC 302 dL_law_302 (nI 0) (by decide) ?_
                                              refine g_callV hC hX 303 0 ([]) ((q119, .inl (D.1 21, 40, .inl (cpf (wB s1) (fun _ => 0) 40))) :: ((q125, .inl (D.1 21, 40, .inl (cpf (pB s1) (fun _ => 0) 40))) :: (wSm D m pp rr (br s1 kd) u3))) (fun uq => ((q0, .inr (3, [.ref (a 0), .ref (b 0)])) :: (wSt D a uq.1.1 uq.1.2 ++ (wSt D b uq.2.1 uq.2.2 ++ ((q119, .inl (D.1 21, 40, .inl (cpf (wB s1) (fun _ => 0) 40))) :: ((q125, .inl (D.1 21, 40, .inl (cpf (pB s1) (fun _ => 0) 40))) :: (wSm D m pp rr (br s1 kd) u3))))))) (c_X3_jar l hfl D q0 a b (br s1 kd) sb ga gb (nI k) (nI 0) hSa hWT) cw_RL_100 dL_law_303 ⟨Nat.le_of_ble_eq_true rfl, Nat.le_of_ble_eq_true rfl, (show 205028 + 3170 * i + 0 + 2770 + 0 + 1 + 1 + 1 + 1 + 1 + 1 + 1 + 1 + 4 * 40 + 2 + 92 + 1 + 1 + 2 + 2 * k + 2 ≤ 600130 by omega), (show 2665372 + 39010 * i + 0 + 36010 + 0 + 6 + 6 + 6 + 6 + 6 + 6 + 40 + 40 + 24 * 40 + 12 + 1196 + 6 + 6 + 12 + 12 * k + 12 ≤ 7301080 by omega)⟩ rfl (Nat.le_of_ble_eq_true rfl) rfl rfl rfl (by simp only [List.append_assoc, List.cons_append, List.nil_append, List.append_nil]) (fun _ => rfl) (fun _ => by simp only [List.append_assoc, List.cons_append, List.nil_append, List.append_nil]) _ rfl (fun v uq hp => ?_) (fun E hx => absurd hx (no_x (jarK0 h296 (by decide))))
                                              obtain ⟨-, rfl, euq, hSq⟩ := hp
                                              refine KJ.eqs (st' := .int (dtl (br s1 kd) (kn (nI k)) (kn (nI 0))) :: []) rfl ?_
                                              refine KJ.topi (y := (dtl (br s1 kd) k 0)) (by rw [kn_ek h296, kn_ek (by decide)]) ?_
                                              obtain ⟨⟨saq, gaq⟩, sbq, gbq⟩ := uq
                                              dsimp only at euq hSq
                                              have euq2 := euq.symm
                                              subst euq2
                                              refine KJ.eqw (ws' := ((q0, .inr (3, [.ref (a 0), .ref (b 0)])) :: (wSt D a (br s1 kd) gaq ++ (wSt D b sbq gbq ++ ((q119, .inl (D.1 21, 40, .inl (cpf (wB s1) (fun _ => 0) 40))) :: ((q125, .inl (D.1 21, 40, .inl (cpf (pB s1) (fun _ => 0) 40))) :: (wSm D m pp rr (br s1 kd) u3))))))) rfl ?_
                                              have hSa := hSq
                                              refine k_if_lt hC 306 313 dL_law_306 (by decide) (fun h306 => ?_) (fun h306 => ?_)
                                              · skip
                                                exact absurd h306 (dtl0_in hs)
                                              · skip
                                                refine k_iconst hC 309 dL_law_309 (nI 1) (by decide) ?_
                                                refine k_goto hC 310 314 dL_law_310 (by decide) ?_
                                                refine k_istore hC 314 15 [(15, .int (nI 1)), (14, .int (nI k)), (13, .int (nI (if gx < k then 1 else 0))), (12, .int (nI (oc s1 kd))), (11, .ref q125), (10, .ref q119), (9, .int (loS s1)), (8, .int ((hiS s1) + (miS s1))), (7, .int (nI (plS s1))), (6, .int (nI (s1.1.length + s1.2.1.length))), (5, .int (nI kd)), (4, .int ((cv >>> ((nI ((i / 16) * 3)) &&& 31)) + (nI (373 * i)))), (3, .int (nI i)), (2, .ref m), (1, .ref q0), (0, .ref bb)] dL_law_314 (by decide) rfl ?_
                                                refine k_aload hC 316 dL_law_316 rfl ?_
                                                refine k_iload hC 318 dL_law_318 rfl ?_
                                                refine n_zald hC 320 31 (nI 1) dL_law_320 rfl (by omega) (by decide) ((cpf_in h296).trans (wB_in hw)) ?_
                                                refine n_if_eq hC 321 332 dL_law_321 (by decide) (by omega) (fun h321 => ?_) (fun h321 => ?_)
                                                · skip
                                                  exact absurd h321 (by decide)
                                                · skip
                                                  refine k_iload hC 324 dL_law_324 rfl ?_
                                                  refine n_if_ne hC 326 332 dL_law_326 (by decide) (by omega) (fun h326 => ?_) (fun h326 => ?_)
                                                  · skip
                                                    refine k_aload hC 332 dL_law_332 rfl ?_
                                                    refine k_iload hC 334 dL_law_334 rfl ?_
                                                    refine n_zald hC 336 32 (nI 1) dL_law_336 rfl (by omega) (by decide) ((cpf_in h296).trans (pB_in hp)) ?_
                                                    refine n_if_eq hC 337 345 dL_law_337 (by decide) (by omega) (fun h337 => ?_) (fun h337 => ?_)
                                                    · skip
                                                      exact absurd h337 (by decide)
                                                    · skip
                                                      refine k_iload hC 340 dL_law_340 rfl ?_
                                                      refine n_if_eq hC 342 365 dL_law_342 (by decide) (by omega) (fun h342 => ?_) (fun h342 => ?_)
                                                      · skip
                                                        exact absurd h342 (by decide)
                                                      · skip
                                                        refine k_aload hC 345 dL_law_345 rfl ?_
                                                        refine k_iload hC 347 dL_law_347 rfl ?_
                                                        refine n_zald hC 349 31 (nI 1) dL_law_349 rfl (by omega) (by decide) ((cpf_in h296).trans (wB_in hw)) ?_
                                                        refine n_if_ne hC 350 367 dL_law_350 (by decide) (by omega) (fun h350 => ?_) (fun h350 => ?_)
                                                        · skip
                                                          refine k_iinc hC 367 1 (nI (k + 1)) [(14, .int (nI (k + 1))), (15, .int (nI 1)), (13, .int (nI (if gx < k then 1 else 0))), (12, .int (nI (oc s1 kd))), (11, .ref q125), (10, .ref q119), (9, .int (loS s1)), (8, .int ((hiS s1) + (miS s1))), (7, .int (nI (plS s1))), (6, .int (nI (s1.1.length + s1.2.1.length))), (5, .int (nI kd)), (4, .int ((cv >>> ((nI ((i / 16) * 3)) &&& 31)) + (nI (373 * i)))), (3, .int (nI i)), (2, .ref m), (1, .ref q0), (0, .ref bb)] dL_law_367 rfl (nI_1 _) (by decide) rfl ?_
                                                          refine k_goto hC 370 292 dL_law_370 (by decide) ?_
                                                          refine KJ.lvp [0, 2, 3, 4, 5, 6, 7, 8, 9, 10, 11, 12, 13, 14, 15] rfl ?_
                                                          have eg : (if gx < k + 1 then 1 else 0) = (if gx < k then 1 else 0) := (by by_cases z : gx < k; exact (if_pos (by omega)).trans (if_pos z).symm; exact (if_neg (by omega)).trans (if_neg z).symm)
                                                          refine KJ.eql (lv' := [(14, .int (nI (k + 1))), (13, .int (nI (if gx < k + 1 then 1 else 0))), (12, .int (nI (oc s1 kd))), (11, .ref q125), (10, .ref q119), (9, .int (loS s1)), (8, .int ((hiS s1) + (miS s1))), (7, .int (nI (plS s1))), (6, .int (nI (s1.1.length + s1.2.1.length))), (5, .int (nI kd)), (4, .int ((cv >>> ((nI ((i / 16) * 3)) &&& 31)) + (nI (373 * i)))), (3, .int (nI i)), (2, .ref m), (1, .ref q0), (0, .ref bb)]) (by rw [eg] <;> rfl) ?_
                                                          exact KJ.wide (by omega) (by omega) (ih292 (k + 1) gaq sbq gbq (by omega) (by omega) hSa)
                                                        · skip
                                                          exact absurd h350 (by decide)
                                                  · skip
                                                    exact absurd h326 (by decide)
                                            · skip
                                              refine k_aload_n hC 299 dL_law_299 rfl ?_
                                              refine k_iload hC 300 dL_law_300 rfl ?_
                                              refine k_iconst hC 302 dL_law_302 (nI 0) (by decide) ?_
                                              refine g_callV hC hX 303 0 ([]) ((q119, .inl (D.1 21, 40, .inl (cpf (wB s1) (fun _ => 0) 40))) :: ((q125, .inl (D.1 21, 40, .inl (cpf (pB s1) (fun _ => 0) 40))) :: (wSm D m pp rr (br s1 kd) u3))) (fun uq => ((q0, .inr (3, [.ref (a 0), .ref (b 0)])) :: (wSt D a uq.1.1 uq.1.2 ++ (wSt D b uq.2.1 uq.2.2 ++ ((q119, .inl (D.1 21, 40, .inl (cpf (wB s1) (fun _ => 0) 40))) :: ((q125, .inl (D.1 21, 40, .inl (cpf (pB s1) (fun _ => 0) 40))) :: (wSm D m pp rr (br s1 kd) u3))))))) (c_X3_jar l hfl D q0 a b (br s1 kd) sb ga gb (nI k) (nI 0) hSa hWT) cw_RL_100 dL_law_303 ⟨Nat.le_of_ble_eq_true rfl, Nat.le_of_ble_eq_true rfl, (show 205028 + 3170 * i + 0 + 2770 + 0 + 1 + 1 + 1 + 1 + 1 + 1 + 1 + 1 + 4 * 40 + 2 + 92 + 1 + 1 + 2 + 2 * k + 2 ≤ 600130 by omega), (show 2665372 + 39010 * i + 0 + 36010 + 0 + 6 + 6 + 6 + 6 + 6 + 6 + 40 + 40 + 24 * 40 + 12 + 1196 + 6 + 6 + 12 + 12 * k + 12 ≤ 7301080 by omega)⟩ rfl (Nat.le_of_ble_eq_true rfl) rfl rfl rfl (by simp only [List.append_assoc, List.cons_append, List.nil_append, List.append_nil]) (fun _ => rfl) (fun _ => by simp only [List.append_assoc, List.cons_append, List.nil_append, List.append_nil]) _ rfl (fun v uq hp => ?_) (fun E hx => absurd hx (no_x (jarK0 h296 (by decide))))
                                              obtain ⟨-, rfl, euq, hSq⟩ := hp
                                              refine KJ.eqs (st' := .int (dtl (br s1 kd) (kn (nI k)) (kn (nI 0))) :: []) rfl ?_
                                              refine KJ.topi (y := (dtl (br s1 kd) k 0)) (by rw [kn_ek h296, kn_ek (by decide)]) ?_
                                              obtain ⟨⟨saq, gaq⟩, sbq, gbq⟩ := uq
                                              dsimp only at euq hSq
                                              have euq2 := euq.symm
                                              subst euq2
                                              refine KJ.eqw (ws' := ((q0, .inr (3, [.ref (a 0), .ref (b 0)])) :: (wSt D a (br s1 kd) gaq ++ (wSt D b sbq gbq ++ ((q119, .inl (D.1 21, 40, .inl (cpf (wB s1) (fun _ => 0) 40))) :: ((q125, .inl (D.1 21, 40, .inl (cpf (pB s1) (fun _ => 0) 40))) :: (wSm D m pp rr (br s1 kd) u3))))))) rfl ?_
                                              have hSa := hSq
                                              refine k_if_lt hC 306 313 dL_law_306 (by decide) (fun h306 => ?_) (fun h306 => ?_)
                                              · skip
                                                exact absurd h306 (dtl0_in hs)
                                              · skip
                                                refine k_iconst hC 309 dL_law_309 (nI 1) (by decide) ?_
                                                refine k_goto hC 310 314 dL_law_310 (by decide) ?_
                                                refine k_istore hC 314 15 [(15, .int (nI 1)), (14, .int (nI k)), (13, .int (nI (if gx < k then 1 else 0))), (12, .int (nI (oc s1 kd))), (11, .ref q125), (10, .ref q119), (9, .int (loS s1)), (8, .int ((hiS s1) + (miS s1))), (7, .int (nI (plS s1))), (6, .int (nI (s1.1.length + s1.2.1.length))), (5, .int (nI kd)), (4, .int ((cv >>> ((nI ((i / 16) * 3)) &&& 31)) + (nI (373 * i)))), (3, .int (nI i)), (2, .ref m), (1, .ref q0), (0, .ref bb)] dL_law_314 (by decide) rfl ?_
                                                refine k_aload hC 316 dL_law_316 rfl ?_
                                                refine k_iload hC 318 dL_law_318 rfl ?_
                                                refine n_zald hC 320 31 (nI 1) dL_law_320 rfl (by omega) (by decide) ((cpf_in h296).trans (wB_in hw)) ?_
                                                refine n_if_eq hC 321 332 dL_law_321 (by decide) (by omega) (fun h321 => ?_) (fun h321 => ?_)
                                                · skip
                                                  exact absurd h321 (by decide)
                                                · skip
                                                  refine k_iload hC 324 dL_law_324 rfl ?_
                                                  refine n_if_ne hC 326 332 dL_law_326 (by decide) (by omega) (fun h326 => ?_) (fun h326 => ?_)
                                                  · skip
                                                    refine k_aload hC 332 dL_law_332 rfl ?_
                                                    refine k_iload hC 334 dL_law_334 rfl ?_
                                                    refine n_zald hC 336 32 (nI 0) dL_law_336 rfl (by omega) (by decide) ((cpf_in h296).trans (pB_no hp)) ?_
                                                    refine n_if_eq hC 337 345 dL_law_337 (by decide) (by omega) (fun h337 => ?_) (fun h337 => ?_)
                                                    · skip
                                                      refine k_aload hC 345 dL_law_345 rfl ?_
                                                      refine k_iload hC 347 dL_law_347 rfl ?_
                                                      refine n_zald hC 349 31 (nI 1) dL_law_349 rfl (by omega) (by decide) ((cpf_in h296).trans (wB_in hw)) ?_
                                                      refine n_if_ne hC 350 367 dL_law_350 (by decide) (by omega) (fun h350 => ?_) (fun h350 => ?_)
                                                      · skip
                                                        refine k_iinc hC 367 1 (nI (k + 1)) [(14, .int (nI (k + 1))), (15, .int (nI 1)), (13, .int (nI (if gx < k then 1 else 0))), (12, .int (nI (oc s1 kd))), (11, .ref q125), (10, .ref q119), (9, .int (loS s1)), (8, .int ((hiS s1) + (miS s1))), (7, .int (nI (plS s1))), (6, .int (nI (s1.1.length + s1.2.1.length))), (5, .int (nI kd)), (4, .int ((cv >>> ((nI ((i / 16) * 3)) &&& 31)) + (nI (373 * i)))), (3, .int (nI i)), (2, .ref m), (1, .ref q0), (0, .ref bb)] dL_law_367 rfl (nI_1 _) (by decide) rfl ?_
                                                        refine k_goto hC 370 292 dL_law_370 (by decide) ?_
                                                        refine KJ.lvp [0, 2, 3, 4, 5, 6, 7, 8, 9, 10, 11, 12, 13, 14, 15] rfl ?_
                                                        have eg : (if gx < k + 1 then 1 else 0) = (if gx < k then 1 else 0) := (by by_cases z : gx < k; exact (if_pos (by omega)).trans (if_pos z).symm; exact (if_neg (by omega)).trans (if_neg z).symm)
                                                        refine KJ.eql (lv' := [(14, .int (nI (k + 1))), (13, .int (nI (if gx < k + 1 then 1 else 0))), (12, .int (nI (oc s1 kd))), (11, .ref q125), (10, .ref q119), (9, .int (loS s1)), (8, .int ((hiS s1) + (miS s1))), (7, .int (nI (plS s1))), (6, .int (nI (s1.1.length + s1.2.1.length))), (5, .int (nI kd)), (4, .int ((cv >>> ((nI ((i / 16) * 3)) &&& 31)) + (nI (373 * i)))), (3, .int (nI i)), (2, .ref m), (1, .ref q0), (0, .ref bb)]) (by rw [eg] <;> rfl) ?_
                                                        exact KJ.wide (by omega) (by omega) (ih292 (k + 1) gaq sbq gbq (by omega) (by omega) hSa)
                                                      · skip
                                                        exact absurd h350 (by decide)
                                                    · skip
                                                      exact absurd h337 (by decide)
                                                  · skip
                                                    exact absurd h326 (by decide)
                                          · skip
                                            have heq : k = gx := fA k hw hs
                                            have hp : ¬ (inn s1 k ∧ 0 < piS s1 k) := fun z => hs (fC k z.1 z.2)
                                            refine k_aload_n hC 299 dL_law_299 rfl ?_
                                            refine k_iload hC 300 dL_law_300 rfl ?_
                                            refine k_iconst hC 302 dL_law_302 (nI 0) (by decide) ?_
                                            refine g_callV hC hX 303 0 ([]) ((q119, .inl (D.1 21, 40, .inl (cpf (wB s1) (fun _ => 0) 40))) :: ((q125, .inl (D.1 21, 40, .inl (cpf (pB s1) (fun _ => 0) 40))) :: (wSm D m pp rr (br s1 kd) u3))) (fun uq => ((q0, .inr (3, [.ref (a 0), .ref (b 0)])) :: (wSt D a uq.1.1 uq.1.2 ++ (wSt D b uq.2.1 uq.2.2 ++ ((q119, .inl (D.1 21, 40, .inl (cpf (wB s1) (fun _ => 0) 40))) :: ((q125, .inl (D.1 21, 40, .inl (cpf (pB s1) (fun _ => 0) 40))) :: (wSm D m pp rr (br s1 kd) u3))))))) (c_X3_jar l hfl D q0 a b (br s1 kd) sb ga gb (nI k) (nI 0) hSa hWT) cw_RL_100 dL_law_303 ⟨Nat.le_of_ble_eq_true rfl, Nat.le_of_ble_eq_true rfl, (show 205028 + 3170 * i + 0 + 2770 + 0 + 1 + 1 + 1 + 1 + 1 + 1 + 1 + 1 + 4 * 40 + 2 + 92 + 1 + 1 + 2 + 2 * k + 2 ≤ 600130 by omega), (show 2665372 + 39010 * i + 0 + 36010 + 0 + 6 + 6 + 6 + 6 + 6 + 6 + 40 + 40 + 24 * 40 + 12 + 1196 + 6 + 6 + 12 + 12 * k + 12 ≤ 7301080 by omega)⟩ rfl (Nat.le_of_ble_eq_true rfl) rfl rfl rfl (by simp only [List.append_assoc, List.cons_append, List.nil_append, List.append_nil]) (fun _ => rfl) (fun _ => by simp only [List.append_assoc, List.cons_append, List.nil_append, List.append_nil]) _ rfl (fun v uq hp => ?_) (fun E hx => absurd hx (no_x (jarK0 h296 (by decide))))
                                            obtain ⟨-, rfl, euq, hSq⟩ := hp
                                            refine KJ.eqs (st' := .int (dtl (br s1 kd) (kn (nI k)) (kn (nI 0))) :: []) rfl ?_
                                            refine KJ.topi (y := (dtl (br s1 kd) k 0)) (by rw [kn_ek h296, kn_ek (by decide)]) ?_
                                            obtain ⟨⟨saq, gaq⟩, sbq, gbq⟩ := uq
                                            dsimp only at euq hSq
                                            have euq2 := euq.symm
                                            subst euq2
                                            refine KJ.eqw (ws' := ((q0, .inr (3, [.ref (a 0), .ref (b 0)])) :: (wSt D a (br s1 kd) gaq ++ (wSt D b sbq gbq ++ ((q119, .inl (D.1 21, 40, .inl (cpf (wB s1) (fun _ => 0) 40))) :: ((q125, .inl (D.1 21, 40, .inl (cpf (pB s1) (fun _ => 0) 40))) :: (wSm D m pp rr (br s1 kd) u3))))))) rfl ?_
                                            have hSa := hSq
                                            refine k_if_lt hC 306 313 dL_law_306 (by decide) (fun h306 => ?_) (fun h306 => ?_)
                                            · skip
                                              refine k_iconst hC 313 dL_law_313 (nI 0) (by decide) ?_
                                              refine k_istore hC 314 15 [(15, .int (nI 0)), (14, .int (nI k)), (13, .int (nI (if gx < k then 1 else 0))), (12, .int (nI (oc s1 kd))), (11, .ref q125), (10, .ref q119), (9, .int (loS s1)), (8, .int ((hiS s1) + (miS s1))), (7, .int (nI (plS s1))), (6, .int (nI (s1.1.length + s1.2.1.length))), (5, .int (nI kd)), (4, .int ((cv >>> ((nI ((i / 16) * 3)) &&& 31)) + (nI (373 * i)))), (3, .int (nI i)), (2, .ref m), (1, .ref q0), (0, .ref bb)] dL_law_314 (by decide) rfl ?_
                                              refine k_aload hC 316 dL_law_316 rfl ?_
                                              refine k_iload hC 318 dL_law_318 rfl ?_
                                              refine n_zald hC 320 31 (nI 1) dL_law_320 rfl (by omega) (by decide) ((cpf_in h296).trans (wB_in hw)) ?_
                                              refine n_if_eq hC 321 332 dL_law_321 (by decide) (by omega) (fun h321 => ?_) (fun h321 => ?_)
                                              · skip
                                                exact absurd h321 (by decide)
                                              · skip
                                                refine k_iload hC 324 dL_law_324 rfl ?_
                                                refine n_if_ne hC 326 332 dL_law_326 (by decide) (by omega) (fun h326 => ?_) (fun h326 => ?_)
                                                · skip
                                                  exact absurd h326 (by decide)
                                                · skip
                                                  refine k_iinc hC 329 2 (nI ((if gx < k then 1 else 0) + 1)) [(13, .int (nI ((if gx < k then 1 else 0) + 1))), (15, .int (nI 0)), (14, .int (nI k)), (12, .int (nI (oc s1 kd))), (11, .ref q125), (10, .ref q119), (9, .int (loS s1)), (8, .int ((hiS s1) + (miS s1))), (7, .int (nI (plS s1))), (6, .int (nI (s1.1.length + s1.2.1.length))), (5, .int (nI kd)), (4, .int ((cv >>> ((nI ((i / 16) * 3)) &&& 31)) + (nI (373 * i)))), (3, .int (nI i)), (2, .ref m), (1, .ref q0), (0, .ref bb)] dL_law_329 rfl (nI_1 _) (by decide) rfl ?_
                                                  refine k_aload hC 332 dL_law_332 rfl ?_
                                                  refine k_iload hC 334 dL_law_334 rfl ?_
                                                  refine n_zald hC 336 32 (nI 0) dL_law_336 rfl (by omega) (by decide) ((cpf_in h296).trans (pB_no hp)) ?_
                                                  refine n_if_eq hC 337 345 dL_law_337 (by decide) (by omega) (fun h337 => ?_) (fun h337 => ?_)
                                                  · skip
                                                    refine k_aload hC 345 dL_law_345 rfl ?_
                                                    refine k_iload hC 347 dL_law_347 rfl ?_
                                                    refine n_zald hC 349 31 (nI 1) dL_law_349 rfl (by omega) (by decide) ((cpf_in h296).trans (wB_in hw)) ?_
                                                    refine n_if_ne hC 350 367 dL_law_350 (by decide) (by omega) (fun h350 => ?_) (fun h350 => ?_)
                                                    · skip
                                                      refine k_iinc hC 367 2 (nI (k + 1)) [(14, .int (nI (k + 1))), (13, .int (nI ((if gx < k then 1 else 0) + 1))), (15, .int (nI 0)), (12, .int (nI (oc s1 kd))), (11, .ref q125), (10, .ref q119), (9, .int (loS s1)), (8, .int ((hiS s1) + (miS s1))), (7, .int (nI (plS s1))), (6, .int (nI (s1.1.length + s1.2.1.length))), (5, .int (nI kd)), (4, .int ((cv >>> ((nI ((i / 16) * 3)) &&& 31)) + (nI (373 * i)))), (3, .int (nI i)), (2, .ref m), (1, .ref q0), (0, .ref bb)] dL_law_367 rfl (nI_1 _) (by decide) rfl ?_
                                                      refine k_goto hC 370 292 dL_law_370 (by decide) ?_
                                                      refine KJ.lvp [0, 1, 3, 4, 5, 6, 7, 8, 9, 10, 11, 12, 13, 14, 15] rfl ?_
                                                      have eg : (if gx < k + 1 then 1 else 0) = (if gx < k then 1 else 0) + 1 := (by rw [if_pos (by omega), if_neg (by omega)])
                                                      refine KJ.eql (lv' := [(14, .int (nI (k + 1))), (13, .int (nI (if gx < k + 1 then 1 else 0))), (12, .int (nI (oc s1 kd))), (11, .ref q125), (10, .ref q119), (9, .int (loS s1)), (8, .int ((hiS s1) + (miS s1))), (7, .int (nI (plS s1))), (6, .int (nI (s1.1.length + s1.2.1.length))), (5, .int (nI kd)), (4, .int ((cv >>> ((nI ((i / 16) * 3)) &&& 31)) + (nI (373 * i)))), (3, .int (nI i)), (2, .ref m), (1, .ref q0), (0, .ref bb)]) (by rw [eg] <;> rfl) ?_
                                                      exact KJ.wide (by omega) (by omega) (ih292 (k + 1) gaq sbq gbq (by omega) (by omega) hSa)
                                                    · skip
                                                      exact absurd h350 (by decide)
                                                  · skip
                                                    exact absurd h337 (by decide)
                                            · skip
                                              exact absurd (dtl0_no hs) h306
                                        · skip
                                          have hne : k ≠ gx := fun z => hw (by have y := (fB (by omega)).1; rw [← z] at y; exact y)
                                          have hp : ¬ (inn s1 k ∧ 0 < piS s1 k) := fun z => hw z.1
                                          by_cases hs : inn (br s1 kd) k
                                          · skip
                                            have hkk : k = kd := fD k hw hs
                                            refine k_aload_n hC 299 dL_law_299 rfl ?_
                                            refine k_iload hC 300 dL_law_300 rfl ?_
                                            refine k_iconst hC 302 dL_law_302 (nI 0) (by decide) ?_
                                            refine g_callV hC hX 303 0 ([]) ((q119, .inl (D.1 21, 40, .inl (cpf (wB s1) (fun _ => 0) 40))) :: ((q125, .inl (D.1 21, 40, .inl (cpf (pB s1) (fun _ => 0) 40))) :: (wSm D m pp rr (br s1 kd) u3))) (fun uq => ((q0, .inr (3, [.ref (a 0), .ref (b 0)])) :: (wSt D a uq.1.1 uq.1.2 ++ (wSt D b uq.2.1 uq.2.2 ++ ((q119, .inl (D.1 21, 40, .inl (cpf (wB s1) (fun _ => 0) 40))) :: ((q125, .inl (D.1 21, 40, .inl (cpf (pB s1) (fun _ => 0) 40))) :: (wSm D m pp rr (br s1 kd) u3))))))) (c_X3_jar l hfl D q0 a b (br s1 kd) sb ga gb (nI k) (nI 0) hSa hWT) cw_RL_100 dL_law_303 ⟨Nat.le_of_ble_eq_true rfl, Nat.le_of_ble_eq_true rfl, (show 205028 + 3170 * i + 0 + 2770 + 0 + 1 + 1 + 1 + 1 + 1 + 1 + 1 + 1 + 4 * 40 + 2 + 92 + 1 + 1 + 2 + 2 * k + 2 ≤ 600130 by omega), (show 2665372 + 39010 * i + 0 + 36010 + 0 + 6 + 6 + 6 + 6 + 6 + 6 + 40 + 40 + 24 * 40 + 12 + 1196 + 6 + 6 + 12 + 12 * k + 12 ≤ 7301080 by omega)⟩ rfl (Nat.le_of_ble_eq_true rfl) rfl rfl rfl (by simp only [List.append_assoc, List.cons_append, List.nil_append, List.append_nil]) (fun _ => rfl) (fun _ => by simp only [List.append_assoc, List.cons_append, List.nil_append, List.append_nil]) _ rfl (fun v uq hp => ?_) (fun E hx => absurd hx (no_x (jarK0 h296 (by decide))))
                                            obtain ⟨-, rfl, euq, hSq⟩ := hp
                                            refine KJ.eqs (st' := .int (dtl (br s1 kd) (kn (nI k)) (kn (nI 0))) :: []) rfl ?_
                                            refine KJ.topi (y := (dtl (br s1 kd) k 0)) (by rw [kn_ek h296, kn_ek (by decide)]) ?_
                                            obtain ⟨⟨saq, gaq⟩, sbq, gbq⟩ := uq
                                            dsimp only at euq hSq
                                            have euq2 := euq.symm
                                            subst euq2
                                            refine KJ.eqw (ws' := ((q0, .inr (3, [.ref (a 0), .ref (b 0)])) :: (wSt D a (br s1 kd) gaq ++ (wSt D b sbq gbq ++ ((q119, .inl (D.1 21, 40, .inl (cpf (wB s1) (fun _ => 0) 40))) :: ((q125, .inl (D.1 21, 40, .inl (cpf (pB s1) (fun _ => 0) 40))) :: (wSm D m pp rr (br s1 kd) u3))))))) rfl ?_
                                            have hSa := hSq
                                            refine k_if_lt hC 306 313 dL_law_306 (by decide) (fun h306 => ?_) (fun h306 => ?_)
                                            · skip
                                              exact absurd h306 (dtl0_in hs)
                                            · skip
                                              refine k_iconst hC 309 dL_law_309 (nI 1) (by decide) ?_
                                              refine k_goto hC 310 314 dL_law_310 (by decide) ?_
                                              refine k_istore hC 314 15 [(15, .int (nI 1)), (14, .int (nI k)), (13, .int (nI (if gx < k then 1 else 0))), (12, .int (nI (oc s1 kd))), (11, .ref q125), (10, .ref q119), (9, .int (loS s1)), (8, .int ((hiS s1) + (miS s1))), (7, .int (nI (plS s1))), (6, .int (nI (s1.1.length + s1.2.1.length))), (5, .int (nI kd)), (4, .int ((cv >>> ((nI ((i / 16) * 3)) &&& 31)) + (nI (373 * i)))), (3, .int (nI i)), (2, .ref m), (1, .ref q0), (0, .ref bb)] dL_law_314 (by decide) rfl ?_
                                              refine k_aload hC 316 dL_law_316 rfl ?_
                                              refine k_iload hC 318 dL_law_318 rfl ?_
                                              refine n_zald hC 320 31 (nI 0) dL_law_320 rfl (by omega) (by decide) ((cpf_in h296).trans (wB_no hw)) ?_
                                              refine n_if_eq hC 321 332 dL_law_321 (by decide) (by omega) (fun h321 => ?_) (fun h321 => ?_)
                                              · skip
                                                refine k_aload hC 332 dL_law_332 rfl ?_
                                                refine k_iload hC 334 dL_law_334 rfl ?_
                                                refine n_zald hC 336 32 (nI 0) dL_law_336 rfl (by omega) (by decide) ((cpf_in h296).trans (pB_no hp)) ?_
                                                refine n_if_eq hC 337 345 dL_law_337 (by decide) (by omega) (fun h337 => ?_) (fun h337 => ?_)
                                                · skip
                                                  refine k_aload hC 345 dL_law_345 rfl ?_
                                                  refine k_iload hC 347 dL_law_347 rfl ?_
                                                  refine n_zald hC 349 31 (nI 0) dL_law_349 rfl (by omega) (by decide) ((cpf_in h296).trans (wB_no hw)) ?_
                                                  refine n_if_ne hC 350 367 dL_law_350 (by decide) (by omega) (fun h350 => ?_) (fun h350 => ?_)
                                                  · skip
                                                    exact absurd h350 (by decide)
                                                  · skip
                                                    refine k_iload hC 353 dL_law_353 rfl ?_
                                                    refine n_if_eq hC 355 367 dL_law_355 (by decide) (by omega) (fun h355 => ?_) (fun h355 => ?_)
                                                    · skip
                                                      exact absurd h355 (by decide)
                                                    · skip
                                                      refine k_iload hC 358 dL_law_358 rfl ?_
                                                      refine k_iload hC 360 dL_law_360 rfl ?_
                                                      refine n_icmp_eq hC 362 367 dL_law_362 (by decide) (by omega) (by omega) (fun h362 => ?_) (fun h362 => ?_)
                                                      · skip
                                                        refine k_iinc hC 367 1 (nI (k + 1)) [(14, .int (nI (k + 1))), (15, .int (nI 1)), (13, .int (nI (if gx < k then 1 else 0))), (12, .int (nI (oc s1 kd))), (11, .ref q125), (10, .ref q119), (9, .int (loS s1)), (8, .int ((hiS s1) + (miS s1))), (7, .int (nI (plS s1))), (6, .int (nI (s1.1.length + s1.2.1.length))), (5, .int (nI kd)), (4, .int ((cv >>> ((nI ((i / 16) * 3)) &&& 31)) + (nI (373 * i)))), (3, .int (nI i)), (2, .ref m), (1, .ref q0), (0, .ref bb)] dL_law_367 rfl (nI_1 _) (by decide) rfl ?_
                                                        refine k_goto hC 370 292 dL_law_370 (by decide) ?_
                                                        refine KJ.lvp [0, 2, 3, 4, 5, 6, 7, 8, 9, 10, 11, 12, 13, 14, 15] rfl ?_
                                                        have eg : (if gx < k + 1 then 1 else 0) = (if gx < k then 1 else 0) := (by by_cases z : gx < k; exact (if_pos (by omega)).trans (if_pos z).symm; exact (if_neg (by omega)).trans (if_neg z).symm)
                                                        refine KJ.eql (lv' := [(14, .int (nI (k + 1))), (13, .int (nI (if gx < k + 1 then 1 else 0))), (12, .int (nI (oc s1 kd))), (11, .ref q125), (10, .ref q119), (9, .int (loS s1)), (8, .int ((hiS s1) + (miS s1))), (7, .int (nI (plS s1))), (6, .int (nI (s1.1.length + s1.2.1.length))), (5, .int (nI kd)), (4, .int ((cv >>> ((nI ((i / 16) * 3)) &&& 31)) + (nI (373 * i)))), (3, .int (nI i)), (2, .ref m), (1, .ref q0), (0, .ref bb)]) (by rw [eg] <;> rfl) ?_
                                                        exact KJ.wide (by omega) (by omega) (ih292 (k + 1) gaq sbq gbq (by omega) (by omega) hSa)
                                                      · skip
                                                        exact absurd hkk h362
                                                · skip
                                                  exact absurd h337 (by decide)
                                              · skip
                                                exact absurd h321 (by decide)
                                          · skip
                                            refine k_aload_n hC 299 dL_law_299 rfl ?_
                                            refine k_iload hC 300 dL_law_300 rfl ?_
                                            refine k_iconst hC 302 dL_law_302 (nI 0) (by decide) ?_
                                            refine g_callV hC hX 303 0 ([]) ((q119, .inl (D.1 21, 40, .inl (cpf (wB s1) (fun _ => 0) 40))) :: ((q125, .inl (D.1 21, 40, .inl (cpf (pB s1) (fun _ => 0) 40))) :: (wSm D m pp rr (br s1 kd) u3))) (fun uq => ((q0, .inr (3, [.ref (a 0), .ref (b 0)])) :: (wSt D a uq.1.1 uq.1.2 ++ (wSt D b uq.2.1 uq.2.2 ++ ((q119, .inl (D.1 21, 40, .inl (cpf (wB s1) (fun _ => 0) 40))) :: ((q125, .inl (D.1 21, 40, .inl (cpf (pB s1) (fun _ => 0) 40))) :: (wSm D m pp rr (br s1 kd) u3))))))) (c_X3_jar l hfl D q0 a b (br s1 kd) sb ga gb (nI k) (nI 0) hSa hWT) cw_RL_100 dL_law_303 ⟨Nat.le_of_ble_eq_true rfl, Nat.le_of_ble_eq_true rfl, (show 205028 + 3170 * i + 0 + 2770 + 0 + 1 + 1 + 1 + 1 + 1 + 1 + 1 + 1 + 4 * 40 + 2 + 92 + 1 + 1 + 2 + 2 * k + 2 ≤ 600130 by omega), (show 2665372 + 39010 * i + 0 + 36010 + 0 + 6 + 6 + 6 + 6 + 6 + 6 + 40 + 40 + 24 * 40 + 12 + 1196 + 6 + 6 + 12 + 12 * k + 12 ≤ 7301080 by omega)⟩ rfl (Nat.le_of_ble_eq_true rfl) rfl rfl rfl (by simp only [List.append_assoc, List.cons_append, List.nil_append, List.append_nil]) (fun _ => rfl) (fun _ => by simp only [List.append_assoc, List.cons_append, List.nil_append, List.append_nil]) _ rfl (fun v uq hp => ?_) (fun E hx => absurd hx (no_x (jarK0 h296 (by decide))))
                                            obtain ⟨-, rfl, euq, hSq⟩ := hp
                                            refine KJ.eqs (st' := .int (dtl (br s1 kd) (kn (nI k)) (kn (nI 0))) :: []) rfl ?_
                                            refine KJ.topi (y := (dtl (br s1 kd) k 0)) (by rw [kn_ek h296, kn_ek (by decide)]) ?_
                                            obtain ⟨⟨saq, gaq⟩, sbq, gbq⟩ := uq
                                            dsimp only at euq hSq
                                            have euq2 := euq.symm
                                            subst euq2
                                            refine KJ.eqw (ws' := ((q0, .inr (3, [.ref (a 0), .ref (b 0)])) :: (wSt D a (br s1 kd) gaq ++ (wSt D b sbq gbq ++ ((q119, .inl (D.1 21, 40, .inl (cpf (wB s1) (fun _ => 0) 40))) :: ((q125, .inl (D.1 21, 40, .inl (cpf (pB s1) (fun _ => 0) 40))) :: (wSm D m pp rr (br s1 kd) u3))))))) rfl ?_
                                            have hSa := hSq
                                            refine k_if_lt hC 306 313 dL_law_306 (by decide) (fun h306 => ?_) (fun h306 => ?_)
                                            · skip
                                              refine k_iconst hC 313 dL_law_313 (nI 0) (by decide) ?_
                                              refine k_istore hC 314 15 [(15, .int (nI 0)), (14, .int (nI k)), (13, .int (nI (if gx < k then 1 else 0))), (12, .int (nI (oc s1 kd))), (11, .ref q125), (10, .ref q119), (9, .int (loS s1)), (8, .int ((hiS s1) + (miS s1))), (7, .int (nI (plS s1))), (6, .int (nI (s1.1.length + s1.2.1.length))), (5, .int (nI kd)), (4, .int ((cv >>> ((nI ((i / 16) * 3)) &&& 31)) + (nI (373 * i)))), (3, .int (nI i)), (2, .ref m), (1, .ref q0), (0, .ref bb)] dL_law_314 (by decide) rfl ?_
                                              refine k_aload hC 316 dL_law_316 rfl ?_
                                              refine k_iload hC 318 dL_law_318 rfl ?_
                                              refine n_zald hC 320 31 (nI 0) dL_law_320 rfl (by omega) (by decide) ((cpf_in h296).trans (wB_no hw)) ?_
                                              refine n_if_eq hC 321 332 dL_law_321 (by decide) (by omega) (fun h321 => ?_) (fun h321 => ?_)
                                              · skip
                                                refine k_aload hC 332 dL_law_332 rfl ?_
                                                refine k_iload hC 334 dL_law_334 rfl ?_
                                                refine n_zald hC 336 32 (nI 0) dL_law_336 rfl (by omega) (by decide) ((cpf_in h296).trans (pB_no hp)) ?_
                                                refine n_if_eq hC 337 345 dL_law_337 (by decide) (by omega) (fun h337 => ?_) (fun h337 => ?_)
                                                · skip
                                                  refine k_aload hC 345 dL_law_345 rfl ?_
                                                  refine k_iload hC 347 dL_law_347 rfl ?_
                                                  refine n_zald hC 349 31 (nI 0) dL_law_349 rfl (by omega) (by decide) ((cpf_in h296).trans (wB_no hw)) ?_
                                                  refine n_if_ne hC 350 367 dL_law_350 (by decide) (by omega) (fun h350 => ?_) (fun h350 => ?_)
                                                  · skip
                                                    exact absurd h350 (by decide)
                                                  · skip
                                                    refine k_iload hC 353 dL_law_353 rfl ?_
                                                    refine n_if_eq hC 355 367 dL_law_355 (by decide) (by omega) (fun h355 => ?_) (fun h355 => ?_)
                                                    · skip
                                                      refine k_iinc hC 367 1 (nI (k + 1)) [(14, .int (nI (k + 1))), (15, .int (nI 0)), (13, .int (nI (if gx < k then 1 else 0))), (12, .int (nI (oc s1 kd))), (11, .ref q125), (10, .ref q119), (9, .int (loS s1)), (8, .int ((hiS s1) + (miS s1))), (7, .int (nI (plS s1))), (6, .int (nI (s1.1.length + s1.2.1.length))), (5, .int (nI kd)), (4, .int ((cv >>> ((nI ((i / 16) * 3)) &&& 31)) + (nI (373 * i)))), (3, .int (nI i)), (2, .ref m), (1, .ref q0), (0, .ref bb)] dL_law_367 rfl (nI_1 _) (by decide) rfl ?_
                                                      refine k_goto hC 370 292 dL_law_370 (by decide) ?_
                                                      refine KJ.lvp [0, 2, 3, 4, 5, 6, 7, 8, 9, 10, 11, 12, 13, 14, 15] rfl ?_
                                                      have eg : (if gx < k + 1 then 1 else 0) = (if gx < k then 1 else 0) := (by by_cases z : gx < k; exact (if_pos (by omega)).trans (if_pos z).symm; exact (if_neg (by omega)).trans (if_neg z).symm)
                                                      refine KJ.eql (lv' := [(14, .int (nI (k + 1))), (13, .int (nI (if gx < k + 1 then 1 else 0))), (12, .int (nI (oc s1 kd))), (11, .ref q125), (10, .ref q119), (9, .int (loS s1)), (8, .int ((hiS s1) + (miS s1))), (7, .int (nI (plS s1))), (6, .int (nI (s1.1.length + s1.2.1.length))), (5, .int (nI kd)), (4, .int ((cv >>> ((nI ((i / 16) * 3)) &&& 31)) + (nI (373 * i)))), (3, .int (nI i)), (2, .ref m), (1, .ref q0), (0, .ref bb)]) (by rw [eg] <;> rfl) ?_
                                                      exact KJ.wide (by omega) (by omega) (ih292 (k + 1) gaq sbq gbq (by omega) (by omega) hSa)
                                                    · skip
                                                      exact absurd h355 (by decide)
                                                · skip
                                                  exact absurd h337 (by decide)
                                              · skip
                                                exact absurd h321 (by decide)
                                            · skip
                                              exact absurd (dtl0_no hs) h306
                                  exact KJ.wide (by omega) (by omega) (loop292 41 0 gaq sbq gbq (by omega) (by omega) hSa)
                                · skip
                                  exact absurd (Int32.not_lt.mp (dtl0_in hT)) h281
                            · skip
                              exact h255.elim
                          · skip
                            exact absurd rfl h248
                        · skip
                          exact h239.elim
                    · skip
                      exact absurd h206 (by omega)
                · skip
                  have hjT : (br s1 kd).1.length + (br s1 kd).2.1.length = s1.1.length + s1.2.1.length := hjr
                  have hfl2 : s1.1.length + s1.2.1.length = plS s1 := hful
                  have hi3b : i0 ≤ 3 * (s1.1.length + s1.2.1.length) := hi3
                  refine k_aload_n hC 185 dL_law_185 rfl ?_
                  refine k_iload hC 186 dL_law_186 rfl ?_
                  refine hf_callS (n := 2) hC hX 188 [] ((q119, .inl (D.1 21, 40, .inl (cpf (wB s1) (fun _ => 0) 40))) :: ((q125, .inl (D.1 21, 40, .inl (cpf (pB s1) (fun _ => 0) 40))) :: (wSm D m pp rr s1 x1))) (fun u => ((q0, .inr (3, [.ref (a 0), .ref (b 0)])) :: (wSt D a u.1.1 u.1.2 ++ (wSt D b u.2.1 u.2.2 ++ ((q119, .inl (D.1 21, 40, .inl (cpf (wB s1) (fun _ => 0) 40))) :: ((q125, .inl (D.1 21, 40, .inl (cpf (pB s1) (fun _ => 0) 40))) :: (wSm D m pp rr s1 x1))))))) (h_fetch l hfl D q0 a b s1 sb ga gb kd hSa hW1 hkd) wq_13_11 wq_13_12 wq_2_23 wq_13_13 ⟨by decide, by decide, by decide +kernel⟩ dL_law_188 ⟨Nat.le_of_ble_eq_true rfl, Nat.le_of_ble_eq_true rfl, (show 205028 + 3170 * i + 0 + 2770 + 0 + 1 + 1 + 1 + 1 + 1 + 1 + 1 + 1 + 4 * 40 + 2 ≤ 600130 by omega), (show 2665372 + 39010 * i + 0 + 36010 + 0 + 6 + 6 + 6 + 6 + 6 + 6 + 40 + 40 + 24 * 40 + 12 ≤ 7301080 by omega)⟩ rfl (Nat.le_of_ble_eq_true rfl) (by simp only [List.append_assoc, List.cons_append, List.nil_append]) (fun _ => rfl) (fun _ => by simp only [List.append_assoc, List.cons_append, List.nil_append]) _ rfl (fun v u hp => ?_)
                  obtain ⟨rfl, eu, hSu⟩ := hp
                  refine KJ.eqs (st' := .int (ocI (oc s1 kd)) :: []) rfl ?_
                  refine KJ.topi (y := (nI (oc s1 kd))) (ocI_n (by omega)) ?_
                  obtain ⟨⟨saq, gaq⟩, sbq, gbq⟩ := u
                  dsimp only at eu hSu
                  subst eu
                  have hSa := hSu
                  refine KJ.eqw (ws' := ((q0, .inr (3, [.ref (a 0), .ref (b 0)])) :: (wSt D a (br s1 kd) gaq ++ (wSt D b sbq gbq ++ ((q119, .inl (D.1 21, 40, .inl (cpf (wB s1) (fun _ => 0) 40))) :: ((q125, .inl (D.1 21, 40, .inl (cpf (pB s1) (fun _ => 0) 40))) :: (wSm D m pp rr s1 x1))))))) rfl ?_
                  refine k_istore hC 191 12 [(12, .int (nI (oc s1 kd))), (11, .ref q125), (10, .ref q119), (9, .int (loS s1)), (8, .int ((hiS s1) + (miS s1))), (7, .int (nI (plS s1))), (6, .int (nI (s1.1.length + s1.2.1.length))), (5, .int (nI kd)), (4, .int ((cv >>> ((nI ((i / 16) * 3)) &&& 31)) + (nI (373 * i)))), (3, .int (nI i)), (2, .ref m), (1, .ref q0), (0, .ref bb)] dL_law_191 (by decide) rfl ?_
                  refine k_aload_n hC 193 dL_law_193 rfl ?_
                  refine k_iload hC 194 dL_law_194 rfl ?_
                  refine fp_callVe hC 196 33 ((q0, .inr (3, [.ref (a 0), .ref (b 0)])) :: (wSt D a (br s1 kd) gaq ++ (wSt D b sbq gbq ++ ((q119, .inl (D.1 21, 40, .inl (cpf (wB s1) (fun _ => 0) 40))) :: ((q125, .inl (D.1 21, 40, .inl (cpf (pB s1) (fun _ => 0) 40))) :: []))))) (fun u3 => ((q0, .inr (3, [.ref (a 0), .ref (b 0)])) :: (wSt D a (br s1 kd) gaq ++ (wSt D b sbq gbq ++ ((q119, .inl (D.1 21, 40, .inl (cpf (wB s1) (fun _ => 0) 40))) :: ((q125, .inl (D.1 21, 40, .inl (cpf (pB s1) (fun _ => 0) 40))) :: (wSm D m pp rr (br s1 kd) u3))))))) (f_sim_fetch l D m pp rr s1 x1 kd hW1 hJ1 hI1 hkd) cw_RL_82 dL_law_196 ⟨Nat.le_of_ble_eq_true rfl, Nat.le_of_ble_eq_true rfl, (show 205028 + 3170 * i + 0 + 2770 + 0 + 1 + 1 + 1 + 1 + 1 + 1 + 1 + 1 + 4 * 40 + 2 + 92 ≤ 600130 by omega), (show 2665372 + 39010 * i + 0 + 36010 + 0 + 6 + 6 + 6 + 6 + 6 + 6 + 40 + 40 + 24 * 40 + 12 + 1196 ≤ 7301080 by omega)⟩ rfl (Nat.le_of_ble_eq_true rfl) rfl rfl rfl (by simp only [List.append_assoc, List.cons_append, List.nil_append, List.append_nil]) (fun _ u hp => wSm_le hp.2.2) (fun _ => by simp only [List.append_assoc, List.cons_append, List.nil_append, List.append_nil]) _ rfl (fun v u3 hp => ?_)
                  obtain ⟨rfl, hJ3, hL3⟩ := hp
                  refine KJ.eqs (st' := .int (ocI (oc s1 kd)) :: []) rfl ?_
                  refine KJ.topi (y := (nI (oc s1 kd))) (ocI_n (by omega)) ?_
                  refine k_iload hC 199 dL_law_199 rfl ?_
                  refine n_icmp_ne hC 201 251 dL_law_201 (by decide) (by omega) (by omega) (fun h201 => ?_) (fun h201 => ?_)
                  · skip
                    exact absurd rfl h201
                  · skip
                    refine k_iload hC 204 dL_law_204 rfl ?_
                    refine n_if_ne hC 206 213 dL_law_206 (by decide) (by omega) (fun h206 => ?_) (fun h206 => ?_)
                    · skip
                      refine k_iconst hC 213 dL_law_213 (nI 0) (by decide) ?_
                      refine k_aload hC 214 dL_law_214 rfl ?_
                      refine k_iload hC 216 dL_law_216 rfl ?_
                      refine n_zald hC 218 31 (nI 0) dL_law_218 rfl (by omega) (by decide) ((cpf_in hkd).trans (wB_no hin)) ?_
                      refine n_icmp_ne hC 219 251 dL_law_219 (by decide) (by omega) (by omega) (fun h219 => ?_) (fun h219 => ?_)
                      · skip
                        exact absurd h219 (by decide)
                      · skip
                        refine k_aload_n hC 222 dL_law_222 rfl ?_
                        refine k_bipush hC 223 dL_law_223 (nI 6) (by decide) ?_
                        refine g_callV hC hX 225 0 ([]) ((q119, .inl (D.1 21, 40, .inl (cpf (wB s1) (fun _ => 0) 40))) :: ((q125, .inl (D.1 21, 40, .inl (cpf (pB s1) (fun _ => 0) 40))) :: (wSm D m pp rr (br s1 kd) u3))) (fun uq => ((q0, .inr (3, [.ref (a 0), .ref (b 0)])) :: (wSt D a uq.1.1 uq.1.2 ++ (wSt D b uq.2.1 uq.2.2 ++ ((q119, .inl (D.1 21, 40, .inl (cpf (wB s1) (fun _ => 0) 40))) :: ((q125, .inl (D.1 21, 40, .inl (cpf (pB s1) (fun _ => 0) 40))) :: (wSm D m pp rr (br s1 kd) u3))))))) (c_X3_count l hfl D q0 a b (br s1 kd) sbq gaq gbq (nI 6) hSa hWT) cw_RL_97 dL_law_225 ⟨Nat.le_of_ble_eq_true rfl, Nat.le_of_ble_eq_true rfl, (show 205028 + 3170 * i + 0 + 2770 + 0 + 1 + 1 + 1 + 1 + 1 + 1 + 1 + 1 + 4 * 40 + 2 + 92 + 1 ≤ 600130 by omega), (show 2665372 + 39010 * i + 0 + 36010 + 0 + 6 + 6 + 6 + 6 + 6 + 6 + 40 + 40 + 24 * 40 + 12 + 1196 + 6 ≤ 7301080 by omega)⟩ rfl (Nat.le_of_ble_eq_true rfl) rfl rfl rfl (by simp only [List.append_assoc, List.cons_append, List.nil_append, List.append_nil]) (fun _ => rfl) (fun _ => by simp only [List.append_assoc, List.cons_append, List.nil_append, List.append_nil]) _ rfl (fun v uq hp => ?_) (fun E hx => absurd hx (no_x (countK0 (by decide))))
                        obtain ⟨-, rfl, euq, hSq⟩ := hp
                        refine KJ.eqs (st' := .int (ct (br s1 kd) (kn (nI 6))) :: []) rfl ?_
                        refine KJ.topi (y := (hiS (br s1 kd))) (by rw [kn_ek (by decide)]; rfl) ?_
                        obtain ⟨⟨saq, gaq⟩, sbq, gbq⟩ := uq
                        dsimp only at euq hSq
                        have euq2 := euq.symm
                        subst euq2
                        refine KJ.eqw (ws' := ((q0, .inr (3, [.ref (a 0), .ref (b 0)])) :: (wSt D a (br s1 kd) gaq ++ (wSt D b sbq gbq ++ ((q119, .inl (D.1 21, 40, .inl (cpf (wB s1) (fun _ => 0) 40))) :: ((q125, .inl (D.1 21, 40, .inl (cpf (pB s1) (fun _ => 0) 40))) :: (wSm D m pp rr (br s1 kd) u3))))))) rfl ?_
                        have hSa := hSq
                        refine k_aload_n hC 228 dL_law_228 rfl ?_
                        refine k_bipush hC 229 dL_law_229 (nI 7) (by decide) ?_
                        refine g_callV hC hX 231 0 ([]) ((q119, .inl (D.1 21, 40, .inl (cpf (wB s1) (fun _ => 0) 40))) :: ((q125, .inl (D.1 21, 40, .inl (cpf (pB s1) (fun _ => 0) 40))) :: (wSm D m pp rr (br s1 kd) u3))) (fun uq => ((q0, .inr (3, [.ref (a 0), .ref (b 0)])) :: (wSt D a uq.1.1 uq.1.2 ++ (wSt D b uq.2.1 uq.2.2 ++ ((q119, .inl (D.1 21, 40, .inl (cpf (wB s1) (fun _ => 0) 40))) :: ((q125, .inl (D.1 21, 40, .inl (cpf (pB s1) (fun _ => 0) 40))) :: (wSm D m pp rr (br s1 kd) u3))))))) (c_X3_count l hfl D q0 a b (br s1 kd) sbq gaq gbq (nI 7) hSa hWT) cw_RL_97 dL_law_231 ⟨Nat.le_of_ble_eq_true rfl, Nat.le_of_ble_eq_true rfl, (show 205028 + 3170 * i + 0 + 2770 + 0 + 1 + 1 + 1 + 1 + 1 + 1 + 1 + 1 + 4 * 40 + 2 + 92 + 1 + 1 ≤ 600130 by omega), (show 2665372 + 39010 * i + 0 + 36010 + 0 + 6 + 6 + 6 + 6 + 6 + 6 + 40 + 40 + 24 * 40 + 12 + 1196 + 6 + 6 ≤ 7301080 by omega)⟩ rfl (Nat.le_of_ble_eq_true rfl) rfl rfl rfl (by simp only [List.append_assoc, List.cons_append, List.nil_append, List.append_nil]) (fun _ => rfl) (fun _ => by simp only [List.append_assoc, List.cons_append, List.nil_append, List.append_nil]) _ rfl (fun v uq hp => ?_) (fun E hx => absurd hx (no_x (countK0 (by decide))))
                        obtain ⟨-, rfl, euq, hSq⟩ := hp
                        refine KJ.eqs (st' := .int (ct (br s1 kd) (kn (nI 7))) :: .int (hiS (br s1 kd)) :: []) rfl ?_
                        refine KJ.topi (y := (miS (br s1 kd))) (by rw [kn_ek (by decide)]; rfl) ?_
                        obtain ⟨⟨saq, gaq⟩, sbq, gbq⟩ := uq
                        dsimp only at euq hSq
                        have euq2 := euq.symm
                        subst euq2
                        refine KJ.eqw (ws' := ((q0, .inr (3, [.ref (a 0), .ref (b 0)])) :: (wSt D a (br s1 kd) gaq ++ (wSt D b sbq gbq ++ ((q119, .inl (D.1 21, 40, .inl (cpf (wB s1) (fun _ => 0) 40))) :: ((q125, .inl (D.1 21, 40, .inl (cpf (pB s1) (fun _ => 0) 40))) :: (wSm D m pp rr (br s1 kd) u3))))))) rfl ?_
                        have hSa := hSq
                        refine k_iadd hC 234 dL_law_234 ?_
                        refine k_iload hC 235 dL_law_235 rfl ?_
                        refine k_iload hC 237 dL_law_237 rfl ?_
                        refine n_if_ge hC 239 246 dL_law_239 (by decide) (by omega) (fun h239 => ?_) (fun h239 => ?_)
                        · skip
                          refine k_iconst hC 246 dL_law_246 (nI 1) (by decide) ?_
                          refine k_iadd hC 247 dL_law_247 ?_
                          refine KJ.topi (y := hiS (br s1 kd) + miS (br s1 kd)) (by rw [hsum]; rfl) ?_
                          refine k_icmp_eq hC 248 253 dL_law_248 (by decide) (fun h248 => ?_) (fun h248 => ?_)
                          · skip
                            refine k_iload hC 253 dL_law_253 rfl ?_
                            refine n_if_ge hC 255 269 dL_law_255 (by decide) (by omega) (fun h255 => ?_) (fun h255 => ?_)
                            · skip
                              refine k_iload hC 269 dL_law_269 rfl ?_
                              refine n_if_lt hC 271 286 dL_law_271 (by decide) (by omega) (fun h271 => ?_) (fun h271 => ?_)
                              · skip
                                exact h271.elim
                              · skip
                                refine k_aload_n hC 274 dL_law_274 rfl ?_
                                refine k_iload hC 275 dL_law_275 rfl ?_
                                refine k_iconst hC 277 dL_law_277 (nI 0) (by decide) ?_
                                refine g_callV hC hX 278 0 ([]) ((q119, .inl (D.1 21, 40, .inl (cpf (wB s1) (fun _ => 0) 40))) :: ((q125, .inl (D.1 21, 40, .inl (cpf (pB s1) (fun _ => 0) 40))) :: (wSm D m pp rr (br s1 kd) u3))) (fun uq => ((q0, .inr (3, [.ref (a 0), .ref (b 0)])) :: (wSt D a uq.1.1 uq.1.2 ++ (wSt D b uq.2.1 uq.2.2 ++ ((q119, .inl (D.1 21, 40, .inl (cpf (wB s1) (fun _ => 0) 40))) :: ((q125, .inl (D.1 21, 40, .inl (cpf (pB s1) (fun _ => 0) 40))) :: (wSm D m pp rr (br s1 kd) u3))))))) (c_X3_jar l hfl D q0 a b (br s1 kd) sbq gaq gbq (nI kd) (nI 0) hSa hWT) cw_RL_100 dL_law_278 ⟨Nat.le_of_ble_eq_true rfl, Nat.le_of_ble_eq_true rfl, (show 205028 + 3170 * i + 0 + 2770 + 0 + 1 + 1 + 1 + 1 + 1 + 1 + 1 + 1 + 4 * 40 + 2 + 92 + 1 + 1 + 2 ≤ 600130 by omega), (show 2665372 + 39010 * i + 0 + 36010 + 0 + 6 + 6 + 6 + 6 + 6 + 6 + 40 + 40 + 24 * 40 + 12 + 1196 + 6 + 6 + 12 ≤ 7301080 by omega)⟩ rfl (Nat.le_of_ble_eq_true rfl) rfl rfl rfl (by simp only [List.append_assoc, List.cons_append, List.nil_append, List.append_nil]) (fun _ => rfl) (fun _ => by simp only [List.append_assoc, List.cons_append, List.nil_append, List.append_nil]) _ rfl (fun v uq hp => ?_) (fun E hx => absurd hx (no_x (jarK0 hkd (by decide))))
                                obtain ⟨-, rfl, euq, hSq⟩ := hp
                                refine KJ.eqs (st' := .int (dtl (br s1 kd) (kn (nI kd)) (kn (nI 0))) :: []) rfl ?_
                                refine KJ.topi (y := (dtl (br s1 kd) kd 0)) (by rw [kn_ek hkd, kn_ek (by decide)]) ?_
                                obtain ⟨⟨saq, gaq⟩, sbq, gbq⟩ := uq
                                dsimp only at euq hSq
                                have euq2 := euq.symm
                                subst euq2
                                refine KJ.eqw (ws' := ((q0, .inr (3, [.ref (a 0), .ref (b 0)])) :: (wSt D a (br s1 kd) gaq ++ (wSt D b sbq gbq ++ ((q119, .inl (D.1 21, 40, .inl (cpf (wB s1) (fun _ => 0) 40))) :: ((q125, .inl (D.1 21, 40, .inl (cpf (pB s1) (fun _ => 0) 40))) :: (wSm D m pp rr (br s1 kd) u3))))))) rfl ?_
                                have hSa := hSq
                                refine k_if_ge hC 281 286 dL_law_281 (by decide) (fun h281 => ?_) (fun h281 => ?_)
                                · skip
                                  refine k_iconst hC 286 dL_law_286 (nI 0) (by decide) ?_
                                  refine k_istore hC 287 13 [(13, .int (nI 0)), (12, .int (nI (oc s1 kd))), (11, .ref q125), (10, .ref q119), (9, .int (loS s1)), (8, .int ((hiS s1) + (miS s1))), (7, .int (nI (plS s1))), (6, .int (nI (s1.1.length + s1.2.1.length))), (5, .int (nI kd)), (4, .int ((cv >>> ((nI ((i / 16) * 3)) &&& 31)) + (nI (373 * i)))), (3, .int (nI i)), (2, .ref m), (1, .ref q0), (0, .ref bb)] dL_law_287 (by decide) rfl ?_
                                  refine k_iconst hC 289 dL_law_289 (nI 0) (by decide) ?_
                                  refine k_istore hC 290 14 [(14, .int (nI 0)), (13, .int (nI 0)), (12, .int (nI (oc s1 kd))), (11, .ref q125), (10, .ref q119), (9, .int (loS s1)), (8, .int ((hiS s1) + (miS s1))), (7, .int (nI (plS s1))), (6, .int (nI (s1.1.length + s1.2.1.length))), (5, .int (nI kd)), (4, .int ((cv >>> ((nI ((i / 16) * 3)) &&& 31)) + (nI (373 * i)))), (3, .int (nI i)), (2, .ref m), (1, .ref q0), (0, .ref bb)] dL_law_290 (by decide) rfl ?_
                                  refine KJ.eql (lv' := [(14, .int (nI 0)), (13, .int (nI (if gx < 0 then 1 else 0))), (12, .int (nI (oc s1 kd))), (11, .ref q125), (10, .ref q119), (9, .int (loS s1)), (8, .int ((hiS s1) + (miS s1))), (7, .int (nI (plS s1))), (6, .int (nI (s1.1.length + s1.2.1.length))), (5, .int (nI kd)), (4, .int ((cv >>> ((nI ((i / 16) * 3)) &&& 31)) + (nI (373 * i)))), (3, .int (nI i)), (2, .ref m), (1, .ref q0), (0, .ref bb)]) (by rw [if_neg (Nat.not_lt_zero gx)]) ?_
                                  have loop292 : ∀ (nn292 : Nat) (k : Nat) (ga : PG) (sb : PS) (gb : PG), 40 - k < nn292 → k ≤ 40 → SR (br s1 kd) ga → KJ l G D room_1 16 (205028 + 3170 * i + 0 + 2770 + 0 + 1 + 1 + 1 + 1 + 1 + 1 + 1 + 1 + 4 * 40 + 2 + 92 + 1 + 1 + 2 + 2 * k) (2665372 + 39010 * i + 0 + 36010 + 0 + 6 + 6 + 6 + 6 + 6 + 6 + 40 + 40 + 24 * 40 + 12 + 1196 + 6 + 6 + 12 + 12 * k) ((q0, .inr (3, [.ref (a 0), .ref (b 0)])) :: (wSt D a (br s1 kd) ga ++ (wSt D b sb gb ++ ((q119, .inl (D.1 21, 40, .inl (cpf (wB s1) (fun _ => 0) 40))) :: ((q125, .inl (D.1 21, 40, .inl (cpf (pB s1) (fun _ => 0) 40))) :: (wSm D m pp rr (br s1 kd) u3)))))) [(14, .int (nI k)), (13, .int (nI (if gx < k then 1 else 0))), (12, .int (nI (oc s1 kd))), (11, .ref q125), (10, .ref q119), (9, .int (loS s1)), (8, .int ((hiS s1) + (miS s1))), (7, .int (nI (plS s1))), (6, .int (nI (s1.1.length + s1.2.1.length))), (5, .int (nI kd)), (4, .int ((cv >>> ((nI ((i / 16) * 3)) &&& 31)) + (nI (373 * i)))), (3, .int (nI i)), (2, .ref m), (1, .ref q0), (0, .ref bb)] 292 ([]) := by
                                    intro nn292
                                    induction nn292 with
                                    | zero => intro k ga sb gb h; exact absurd h (Nat.not_lt_zero _)
                                    | succ nn292 ih292 =>
                                      intro k ga sb gb hn292 hk40 hSa
                                      refine k_iload hC 292 dL_law_292 rfl ?_
                                      refine k_bipush hC 294 dL_law_294 (nI 40) (by decide) ?_
                                      refine n_icmp_ge hC 296 373 dL_law_296 (by decide) (by omega) (by omega) (fun h296 => ?_) (fun h296 => ?_)
                                      · skip
                                        obtain rfl : k = 40 := by omega
                                        refine KJ.eql (lv' := [(14, .int (nI 40)), (13, .int (nI 1)), (12, .int (nI (oc s1 kd))), (11, .ref q125), (10, .ref q119), (9, .int (loS s1)), (8, .int ((hiS s1) + (miS s1))), (7, .int (nI (plS s1))), (6, .int (nI (s1.1.length + s1.2.1.length))), (5, .int (nI kd)), (4, .int ((cv >>> ((nI ((i / 16) * 3)) &&& 31)) + (nI (373 * i)))), (3, .int (nI i)), (2, .ref m), (1, .ref q0), (0, .ref bb)]) (by rw [if_pos hgx]) ?_
                                        refine k_iload hC 373 dL_law_373 rfl ?_
                                        refine n_if_le hC 375 389 dL_law_375 (by decide) (by omega) (fun h375 => ?_) (fun h375 => ?_)
                                        · skip
                                          exact absurd h375 (by omega)
                                        · skip
                                          refine k_iload hC 378 dL_law_378 rfl ?_
                                          refine k_iload hC 380 dL_law_380 rfl ?_
                                          refine n_icmp_ne hC 382 389 dL_law_382 (by decide) (by omega) (by omega) (fun h382 => ?_) (fun h382 => ?_)
                                          · skip
                                            exact absurd hfl2 h382
                                          · skip
                                            refine k_iconst hC 385 dL_law_385 (nI 1) (by decide) ?_
                                            refine k_goto hC 386 390 dL_law_386 (by decide) ?_
                                            refine k_istore hC 390 14 [(14, .int (nI 1)), (13, .int (nI 1)), (12, .int (nI (oc s1 kd))), (11, .ref q125), (10, .ref q119), (9, .int (loS s1)), (8, .int ((hiS s1) + (miS s1))), (7, .int (nI (plS s1))), (6, .int (nI (s1.1.length + s1.2.1.length))), (5, .int (nI kd)), (4, .int ((cv >>> ((nI ((i / 16) * 3)) &&& 31)) + (nI (373 * i)))), (3, .int (nI i)), (2, .ref m), (1, .ref q0), (0, .ref bb)] dL_law_390 (by decide) rfl ?_
                                            refine k_iload hC 392 dL_law_392 rfl ?_
                                            refine k_iload hC 394 dL_law_394 rfl ?_
                                            refine n_if_eq hC 396 403 dL_law_396 (by decide) (by omega) (fun h396 => ?_) (fun h396 => ?_)
                                            · skip
                                              exact absurd h396 (by decide)
                                            · skip
                                              refine k_iconst hC 399 dL_law_399 (nI 1) (by decide) ?_
                                              refine k_goto hC 400 404 dL_law_400 (by decide) ?_
                                              refine n_icmp_ne hC 404 448 dL_law_404 (by decide) (by omega) (by omega) (fun h404 => ?_) (fun h404 => ?_)
                                              · skip
                                                exact absurd h404 (by decide)
                                              · skip
                                                refine k_aload_n hC 407 dL_law_407 rfl ?_
                                                refine k_bipush hC 408 dL_law_408 (nI 9) (by decide) ?_
                                                refine g_callV hC hX 410 0 ([]) ((q119, .inl (D.1 21, 40, .inl (cpf (wB s1) (fun _ => 0) 40))) :: ((q125, .inl (D.1 21, 40, .inl (cpf (pB s1) (fun _ => 0) 40))) :: (wSm D m pp rr (br s1 kd) u3))) (fun uq => ((q0, .inr (3, [.ref (a 0), .ref (b 0)])) :: (wSt D a uq.1.1 uq.1.2 ++ (wSt D b uq.2.1 uq.2.2 ++ ((q119, .inl (D.1 21, 40, .inl (cpf (wB s1) (fun _ => 0) 40))) :: ((q125, .inl (D.1 21, 40, .inl (cpf (pB s1) (fun _ => 0) 40))) :: (wSm D m pp rr (br s1 kd) u3))))))) (c_X3_count l hfl D q0 a b (br s1 kd) sb ga gb (nI 9) hSa hWT) cw_RL_97 dL_law_410 ⟨Nat.le_of_ble_eq_true rfl, Nat.le_of_ble_eq_true rfl, (show 205028 + 3170 * i + 0 + 2770 + 0 + 1 + 1 + 1 + 1 + 1 + 1 + 1 + 1 + 4 * 40 + 2 + 92 + 1 + 1 + 2 + 2 * 40 + 1 ≤ 600130 by omega), (show 2665372 + 39010 * i + 0 + 36010 + 0 + 6 + 6 + 6 + 6 + 6 + 6 + 40 + 40 + 24 * 40 + 12 + 1196 + 6 + 6 + 12 + 12 * 40 + 6 ≤ 7301080 by omega)⟩ rfl (Nat.le_of_ble_eq_true rfl) rfl rfl rfl (by simp only [List.append_assoc, List.cons_append, List.nil_append, List.append_nil]) (fun _ => rfl) (fun _ => by simp only [List.append_assoc, List.cons_append, List.nil_append, List.append_nil]) _ rfl (fun v uq hp => ?_) (fun E hx => absurd hx (no_x (countK0 (by decide))))
                                                obtain ⟨-, rfl, euq, hSq⟩ := hp
                                                refine KJ.eqs (st' := .int (ct (br s1 kd) (kn (nI 9))) :: []) rfl ?_
                                                refine KJ.topi (y := (loS (br s1 kd))) (by rw [kn_ek (by decide)]; rfl) ?_
                                                obtain ⟨⟨saq, gaq⟩, sbq, gbq⟩ := uq
                                                dsimp only at euq hSq
                                                have euq2 := euq.symm
                                                subst euq2
                                                refine KJ.eqw (ws' := ((q0, .inr (3, [.ref (a 0), .ref (b 0)])) :: (wSt D a (br s1 kd) gaq ++ (wSt D b sbq gbq ++ ((q119, .inl (D.1 21, 40, .inl (cpf (wB s1) (fun _ => 0) 40))) :: ((q125, .inl (D.1 21, 40, .inl (cpf (pB s1) (fun _ => 0) 40))) :: (wSm D m pp rr (br s1 kd) u3))))))) rfl ?_
                                                have hSa := hSq
                                                refine k_iload hC 413 dL_law_413 rfl ?_
                                                refine k_isub hC 415 dL_law_415 (KJ.topi (y := (nI i0)) (by rw [hlo]; exact add_sub_cl _ _) ?_)
                                                refine k_iload hC 416 dL_law_416 rfl ?_
                                                refine n_if_eq hC 418 428 dL_law_418 (by decide) (by omega) (fun h418 => ?_) (fun h418 => ?_)
                                                · skip
                                                  exact absurd h418 (by decide)
                                                · skip
                                                  refine k_iconst hC 421 dL_law_421 (nI 3) (by decide) ?_
                                                  refine k_iload hC 422 dL_law_422 rfl ?_
                                                  refine n_imul hC 424 (3 * (s1.1.length + s1.2.1.length)) dL_law_424 rfl ?_
                                                  refine k_goto hC 425 429 dL_law_425 (by decide) ?_
                                                  refine n_icmp_gt hC 429 448 dL_law_429 (by decide) (by omega) (by omega) (fun h429 => ?_) (fun h429 => ?_)
                                                  · skip
                                                    exact absurd h429 (by omega)
                                                  · skip
                                                    refine k_iload hC 432 dL_law_432 rfl ?_
                                                    refine n_if_eq hC 434 450 dL_law_434 (by decide) (by omega) (fun h434 => ?_) (fun h434 => ?_)
                                                    · skip
                                                      exact absurd h434 (by decide)
                                                    · skip
                                                      refine k_aload_n hC 437 dL_law_437 rfl ?_
                                                      refine k_bipush hC 438 dL_law_438 (nI 9) (by decide) ?_
                                                      refine g_callV hC hX 440 0 ([]) ((q119, .inl (D.1 21, 40, .inl (cpf (wB s1) (fun _ => 0) 40))) :: ((q125, .inl (D.1 21, 40, .inl (cpf (pB s1) (fun _ => 0) 40))) :: (wSm D m pp rr (br s1 kd) u3))) (fun uq => ((q0, .inr (3, [.ref (a 0), .ref (b 0)])) :: (wSt D a uq.1.1 uq.1.2 ++ (wSt D b uq.2.1 uq.2.2 ++ ((q119, .inl (D.1 21, 40, .inl (cpf (wB s1) (fun _ => 0) 40))) :: ((q125, .inl (D.1 21, 40, .inl (cpf (pB s1) (fun _ => 0) 40))) :: (wSm D m pp rr (br s1 kd) u3))))))) (c_X3_count l hfl D q0 a b (br s1 kd) sbq gaq gbq (nI 9) hSa hWT) cw_RL_97 dL_law_440 ⟨Nat.le_of_ble_eq_true rfl, Nat.le_of_ble_eq_true rfl, (show 205028 + 3170 * i + 0 + 2770 + 0 + 1 + 1 + 1 + 1 + 1 + 1 + 1 + 1 + 4 * 40 + 2 + 92 + 1 + 1 + 2 + 2 * 40 + 1 + 1 ≤ 600130 by omega), (show 2665372 + 39010 * i + 0 + 36010 + 0 + 6 + 6 + 6 + 6 + 6 + 6 + 40 + 40 + 24 * 40 + 12 + 1196 + 6 + 6 + 12 + 12 * 40 + 6 + 6 ≤ 7301080 by omega)⟩ rfl (Nat.le_of_ble_eq_true rfl) rfl rfl rfl (by simp only [List.append_assoc, List.cons_append, List.nil_append, List.append_nil]) (fun _ => rfl) (fun _ => by simp only [List.append_assoc, List.cons_append, List.nil_append, List.append_nil]) _ rfl (fun v uq hp => ?_) (fun E hx => absurd hx (no_x (countK0 (by decide))))
                                                      obtain ⟨-, rfl, euq, hSq⟩ := hp
                                                      refine KJ.eqs (st' := .int (ct (br s1 kd) (kn (nI 9))) :: []) rfl ?_
                                                      refine KJ.topi (y := (loS (br s1 kd))) (by rw [kn_ek (by decide)]; rfl) ?_
                                                      obtain ⟨⟨saq, gaq⟩, sbq, gbq⟩ := uq
                                                      dsimp only at euq hSq
                                                      have euq2 := euq.symm
                                                      subst euq2
                                                      refine KJ.eqw (ws' := ((q0, .inr (3, [.ref (a 0), .ref (b 0)])) :: (wSt D a (br s1 kd) gaq ++ (wSt D b sbq gbq ++ ((q119, .inl (D.1 21, 40, .inl (cpf (wB s1) (fun _ => 0) 40))) :: ((q125, .inl (D.1 21, 40, .inl (cpf (pB s1) (fun _ => 0) 40))) :: (wSm D m pp rr (br s1 kd) u3))))))) rfl ?_
                                                      have hSa := hSq
                                                      refine k_iload hC 443 dL_law_443 rfl ?_
                                                      refine k_icmp_ne hC 445 450 dL_law_445 (by decide) (fun h445 => ?_) (fun h445 => ?_)
                                                      · skip
                                                        refine k_aload_n hC 450 dL_law_450 rfl ?_
                                                        refine k_iconst hC 451 dL_law_451 (nI 1) (by decide) ?_
                                                        refine g_callV hC hX 452 0 ([]) ((q119, .inl (D.1 21, 40, .inl (cpf (wB s1) (fun _ => 0) 40))) :: ((q125, .inl (D.1 21, 40, .inl (cpf (pB s1) (fun _ => 0) 40))) :: (wSm D m pp rr (br s1 kd) u3))) (fun uq => ((q0, .inr (3, [.ref (a 0), .ref (b 0)])) :: (wSt D a uq.1.1 uq.1.2 ++ (wSt D b uq.2.1 uq.2.2 ++ ((q119, .inl (D.1 21, 40, .inl (cpf (wB s1) (fun _ => 0) 40))) :: ((q125, .inl (D.1 21, 40, .inl (cpf (pB s1) (fun _ => 0) 40))) :: (wSm D m pp rr (br s1 kd) u3))))))) (c_X3_count l hfl D q0 a b (br s1 kd) sbq gaq gbq (nI 1) hSa hWT) cw_RL_97 dL_law_452 ⟨Nat.le_of_ble_eq_true rfl, Nat.le_of_ble_eq_true rfl, (show 205028 + 3170 * i + 0 + 2770 + 0 + 1 + 1 + 1 + 1 + 1 + 1 + 1 + 1 + 4 * 40 + 2 + 92 + 1 + 1 + 2 + 2 * 40 + 1 + 1 + 1 ≤ 600130 by omega), (show 2665372 + 39010 * i + 0 + 36010 + 0 + 6 + 6 + 6 + 6 + 6 + 6 + 40 + 40 + 24 * 40 + 12 + 1196 + 6 + 6 + 12 + 12 * 40 + 6 + 6 + 6 ≤ 7301080 by omega)⟩ rfl (Nat.le_of_ble_eq_true rfl) rfl rfl rfl (by simp only [List.append_assoc, List.cons_append, List.nil_append, List.append_nil]) (fun _ => rfl) (fun _ => by simp only [List.append_assoc, List.cons_append, List.nil_append, List.append_nil]) _ rfl (fun v uq hp => ?_) (fun E hx => absurd hx (no_x (countK0 (by decide))))
                                                        obtain ⟨-, rfl, euq, hSq⟩ := hp
                                                        refine KJ.eqs (st' := .int (ct (br s1 kd) (kn (nI 1))) :: []) rfl ?_
                                                        refine KJ.topi (y := (nI ((br s1 kd).1.length))) (by rw [kn_ek (by decide)]; rfl) ?_
                                                        obtain ⟨⟨saq, gaq⟩, sbq, gbq⟩ := uq
                                                        dsimp only at euq hSq
                                                        have euq2 := euq.symm
                                                        subst euq2
                                                        refine KJ.eqw (ws' := ((q0, .inr (3, [.ref (a 0), .ref (b 0)])) :: (wSt D a (br s1 kd) gaq ++ (wSt D b sbq gbq ++ ((q119, .inl (D.1 21, 40, .inl (cpf (wB s1) (fun _ => 0) 40))) :: ((q125, .inl (D.1 21, 40, .inl (cpf (pB s1) (fun _ => 0) 40))) :: (wSm D m pp rr (br s1 kd) u3))))))) rfl ?_
                                                        have hSa := hSq
                                                        refine k_aload_n hC 455 dL_law_455 rfl ?_
                                                        refine k_iconst hC 456 dL_law_456 (nI 2) (by decide) ?_
                                                        refine g_callV hC hX 457 0 ([]) ((q119, .inl (D.1 21, 40, .inl (cpf (wB s1) (fun _ => 0) 40))) :: ((q125, .inl (D.1 21, 40, .inl (cpf (pB s1) (fun _ => 0) 40))) :: (wSm D m pp rr (br s1 kd) u3))) (fun uq => ((q0, .inr (3, [.ref (a 0), .ref (b 0)])) :: (wSt D a uq.1.1 uq.1.2 ++ (wSt D b uq.2.1 uq.2.2 ++ ((q119, .inl (D.1 21, 40, .inl (cpf (wB s1) (fun _ => 0) 40))) :: ((q125, .inl (D.1 21, 40, .inl (cpf (pB s1) (fun _ => 0) 40))) :: (wSm D m pp rr (br s1 kd) u3))))))) (c_X3_count l hfl D q0 a b (br s1 kd) sbq gaq gbq (nI 2) hSa hWT) cw_RL_97 dL_law_457 ⟨Nat.le_of_ble_eq_true rfl, Nat.le_of_ble_eq_true rfl, (show 205028 + 3170 * i + 0 + 2770 + 0 + 1 + 1 + 1 + 1 + 1 + 1 + 1 + 1 + 4 * 40 + 2 + 92 + 1 + 1 + 2 + 2 * 40 + 1 + 1 + 1 + 1 ≤ 600130 by omega), (show 2665372 + 39010 * i + 0 + 36010 + 0 + 6 + 6 + 6 + 6 + 6 + 6 + 40 + 40 + 24 * 40 + 12 + 1196 + 6 + 6 + 12 + 12 * 40 + 6 + 6 + 6 + 6 ≤ 7301080 by omega)⟩ rfl (Nat.le_of_ble_eq_true rfl) rfl rfl rfl (by simp only [List.append_assoc, List.cons_append, List.nil_append, List.append_nil]) (fun _ => rfl) (fun _ => by simp only [List.append_assoc, List.cons_append, List.nil_append, List.append_nil]) _ rfl (fun v uq hp => ?_) (fun E hx => absurd hx (no_x (countK0 (by decide))))
                                                        obtain ⟨-, rfl, euq, hSq⟩ := hp
                                                        refine KJ.eqs (st' := .int (ct (br s1 kd) (kn (nI 2))) :: .int (nI ((br s1 kd).1.length)) :: []) rfl ?_
                                                        refine KJ.topi (y := (nI ((br s1 kd).2.1.length))) (by rw [kn_ek (by decide)]; rfl) ?_
                                                        obtain ⟨⟨saq, gaq⟩, sbq, gbq⟩ := uq
                                                        dsimp only at euq hSq
                                                        have euq2 := euq.symm
                                                        subst euq2
                                                        refine KJ.eqw (ws' := ((q0, .inr (3, [.ref (a 0), .ref (b 0)])) :: (wSt D a (br s1 kd) gaq ++ (wSt D b sbq gbq ++ ((q119, .inl (D.1 21, 40, .inl (cpf (wB s1) (fun _ => 0) 40))) :: ((q125, .inl (D.1 21, 40, .inl (cpf (pB s1) (fun _ => 0) 40))) :: (wSm D m pp rr (br s1 kd) u3))))))) rfl ?_
                                                        have hSa := hSq
                                                        refine n_iadd hC 460 (((br s1 kd).1.length) + ((br s1 kd).2.1.length)) dL_law_460 rfl ?_
                                                        refine k_iload hC 461 dL_law_461 rfl ?_
                                                        refine k_iload hC 463 dL_law_463 rfl ?_
                                                        refine n_if_le hC 465 477 dL_law_465 (by decide) (by omega) (fun h465 => ?_) (fun h465 => ?_)
                                                        · skip
                                                          exact absurd h465 (by omega)
                                                        · skip
                                                          refine k_iload hC 468 dL_law_468 rfl ?_
                                                          refine n_if_ne hC 470 477 dL_law_470 (by decide) (by omega) (fun h470 => ?_) (fun h470 => ?_)
                                                          · skip
                                                            refine k_iconst hC 477 dL_law_477 (nI 0) (by decide) ?_
                                                            refine n_iadd hC 478 ((s1.1.length + s1.2.1.length) + 0) dL_law_478 rfl ?_
                                                            refine n_icmp_eq hC 479 484 dL_law_479 (by decide) (by omega) (by omega) (fun h479 => ?_) (fun h479 => ?_)
                                                            · skip
                                                              by_cases hpj : pnd (br s1 kd) < jrs (br s1 kd)
                                                              · skip
                                                                have hpj2 : pnd (br s1 kd) < (br s1 kd).1.length + (br s1 kd).2.1.length := hpj
                                                                have hsl : (sw (br s1 kd)).2 < 40 := inn_lt hWT (((sw_f hWT hpj).2.2.2.2.2.1 _).mp (Or.inr rfl))
                                                                refine k_aload_n hC 484 dL_law_484 rfl ?_
                                                                refine f_callV hC 485 0 ([]) ((q119, .inl (D.1 21, 40, .inl (cpf (wB s1) (fun _ => 0) 40))) :: ((q125, .inl (D.1 21, 40, .inl (cpf (pB s1) (fun _ => 0) 40))) :: (wSm D m pp rr (br s1 kd) u3))) (fun (uN : PS × PG) => ((q0, .inr (3, [.ref (a 0), .ref (b 0)])) :: (wSt D a (br s1 kd) gaq ++ (wSt D b uN.1 uN.2 ++ ((q119, .inl (D.1 21, 40, .inl (cpf (wB s1) (fun _ => 0) 40))) :: ((q125, .inl (D.1 21, 40, .inl (cpf (pB s1) (fun _ => 0) 40))) :: (wSm D m pp rr (br s1 kd) u3))))))) (c_X3_next l D q0 a b (br s1 kd) sbq gaq gbq hSa hWT) cw_RL_103 dL_law_485 ⟨Nat.le_of_ble_eq_true rfl, Nat.le_of_ble_eq_true rfl, (show 205028 + 3170 * i + 0 + 2770 + 0 + 1 + 1 + 1 + 1 + 1 + 1 + 1 + 1 + 4 * 40 + 2 + 92 + 1 + 1 + 2 + 2 * 40 + 1 + 1 + 1 + 1 + 0 ≤ 600130 by omega), (show 2665372 + 39010 * i + 0 + 36010 + 0 + 6 + 6 + 6 + 6 + 6 + 6 + 40 + 40 + 24 * 40 + 12 + 1196 + 6 + 6 + 12 + 12 * 40 + 6 + 6 + 6 + 6 + 0 ≤ 7301080 by omega)⟩ rfl (Nat.le_of_ble_eq_true rfl) rfl rfl rfl (by simp only [List.append_assoc, List.cons_append, List.nil_append, List.append_nil]) (fun _ => rfl) (fun _ => by simp only [List.append_assoc, List.cons_append, List.nil_append, List.append_nil]) _ rfl (fun v (uN : PS × PG) hp => ?_)
                                                                obtain rfl := hp
                                                                refine KJ.eqs (st' := .int (nextV (br s1 kd)) :: []) rfl ?_
                                                                refine KJ.topi (y := (nI ((sw (br s1 kd)).2))) (if_pos hpj) ?_
                                                                refine n_if_ge hC 488 495 dL_law_488 (by decide) (by omega) (fun h488 => ?_) (fun h488 => ?_)
                                                                · skip
                                                                  refine k_iconst hC 495 dL_law_495 (nI 0) (by decide) ?_
                                                                  refine k_aload_n hC 496 dL_law_496 rfl ?_
                                                                  refine k_bipush hC 497 dL_law_497 (nI 10) (by decide) ?_
                                                                  refine g_callV hC hX 499 0 ([]) ((q119, .inl (D.1 21, 40, .inl (cpf (wB s1) (fun _ => 0) 40))) :: ((q125, .inl (D.1 21, 40, .inl (cpf (pB s1) (fun _ => 0) 40))) :: (wSm D m pp rr (br s1 kd) u3))) (fun uq => ((q0, .inr (3, [.ref (a 0), .ref (b 0)])) :: (wSt D a uq.1.1 uq.1.2 ++ (wSt D b uq.2.1 uq.2.2 ++ ((q119, .inl (D.1 21, 40, .inl (cpf (wB s1) (fun _ => 0) 40))) :: ((q125, .inl (D.1 21, 40, .inl (cpf (pB s1) (fun _ => 0) 40))) :: (wSm D m pp rr (br s1 kd) u3))))))) (c_X3_count l hfl D q0 a b (br s1 kd) uN.1 gaq uN.2 (nI 10) hSa hWT) cw_RL_97 dL_law_499 ⟨Nat.le_of_ble_eq_true rfl, Nat.le_of_ble_eq_true rfl, (show 205028 + 3170 * i + 0 + 2770 + 0 + 1 + 1 + 1 + 1 + 1 + 1 + 1 + 1 + 4 * 40 + 2 + 92 + 1 + 1 + 2 + 2 * 40 + 1 + 1 + 1 + 1 + 0 + 1 ≤ 600130 by omega), (show 2665372 + 39010 * i + 0 + 36010 + 0 + 6 + 6 + 6 + 6 + 6 + 6 + 40 + 40 + 24 * 40 + 12 + 1196 + 6 + 6 + 12 + 12 * 40 + 6 + 6 + 6 + 6 + 0 + 6 ≤ 7301080 by omega)⟩ rfl (Nat.le_of_ble_eq_true rfl) rfl rfl rfl (by simp only [List.append_assoc, List.cons_append, List.nil_append, List.append_nil]) (fun _ => rfl) (fun _ => by simp only [List.append_assoc, List.cons_append, List.nil_append, List.append_nil]) _ rfl (fun v uq hp => ?_) (fun E hx => absurd hx (no_x (countK0 (by decide))))
                                                                  obtain ⟨-, rfl, euq, hSq⟩ := hp
                                                                  refine KJ.eqs (st' := .int (ct (br s1 kd) (kn (nI 10))) :: .int (nI 0) :: []) rfl ?_
                                                                  refine KJ.topi (y := (nI (pnd (br s1 kd)))) (by rw [kn_ek (by decide)]; rfl) ?_
                                                                  obtain ⟨⟨saq, gaq⟩, sbq, gbq⟩ := uq
                                                                  dsimp only at euq hSq
                                                                  have euq2 := euq.symm
                                                                  subst euq2
                                                                  refine KJ.eqw (ws' := ((q0, .inr (3, [.ref (a 0), .ref (b 0)])) :: (wSt D a (br s1 kd) gaq ++ (wSt D b sbq gbq ++ ((q119, .inl (D.1 21, 40, .inl (cpf (wB s1) (fun _ => 0) 40))) :: ((q125, .inl (D.1 21, 40, .inl (cpf (pB s1) (fun _ => 0) 40))) :: (wSm D m pp rr (br s1 kd) u3))))))) rfl ?_
                                                                  have hSa := hSq
                                                                  refine k_aload_n hC 502 dL_law_502 rfl ?_
                                                                  refine k_iconst hC 503 dL_law_503 (nI 1) (by decide) ?_
                                                                  refine g_callV hC hX 504 0 ([]) ((q119, .inl (D.1 21, 40, .inl (cpf (wB s1) (fun _ => 0) 40))) :: ((q125, .inl (D.1 21, 40, .inl (cpf (pB s1) (fun _ => 0) 40))) :: (wSm D m pp rr (br s1 kd) u3))) (fun uq => ((q0, .inr (3, [.ref (a 0), .ref (b 0)])) :: (wSt D a uq.1.1 uq.1.2 ++ (wSt D b uq.2.1 uq.2.2 ++ ((q119, .inl (D.1 21, 40, .inl (cpf (wB s1) (fun _ => 0) 40))) :: ((q125, .inl (D.1 21, 40, .inl (cpf (pB s1) (fun _ => 0) 40))) :: (wSm D m pp rr (br s1 kd) u3))))))) (c_X3_count l hfl D q0 a b (br s1 kd) sbq gaq gbq (nI 1) hSa hWT) cw_RL_97 dL_law_504 ⟨Nat.le_of_ble_eq_true rfl, Nat.le_of_ble_eq_true rfl, (show 205028 + 3170 * i + 0 + 2770 + 0 + 1 + 1 + 1 + 1 + 1 + 1 + 1 + 1 + 4 * 40 + 2 + 92 + 1 + 1 + 2 + 2 * 40 + 1 + 1 + 1 + 1 + 0 + 1 + 1 ≤ 600130 by omega), (show 2665372 + 39010 * i + 0 + 36010 + 0 + 6 + 6 + 6 + 6 + 6 + 6 + 40 + 40 + 24 * 40 + 12 + 1196 + 6 + 6 + 12 + 12 * 40 + 6 + 6 + 6 + 6 + 0 + 6 + 6 ≤ 7301080 by omega)⟩ rfl (Nat.le_of_ble_eq_true rfl) rfl rfl rfl (by simp only [List.append_assoc, List.cons_append, List.nil_append, List.append_nil]) (fun _ => rfl) (fun _ => by simp only [List.append_assoc, List.cons_append, List.nil_append, List.append_nil]) _ rfl (fun v uq hp => ?_) (fun E hx => absurd hx (no_x (countK0 (by decide))))
                                                                  obtain ⟨-, rfl, euq, hSq⟩ := hp
                                                                  refine KJ.eqs (st' := .int (ct (br s1 kd) (kn (nI 1))) :: .int (nI (pnd (br s1 kd))) :: .int (nI 0) :: []) rfl ?_
                                                                  refine KJ.topi (y := (nI ((br s1 kd).1.length))) (by rw [kn_ek (by decide)]; rfl) ?_
                                                                  obtain ⟨⟨saq, gaq⟩, sbq, gbq⟩ := uq
                                                                  dsimp only at euq hSq
                                                                  have euq2 := euq.symm
                                                                  subst euq2
                                                                  refine KJ.eqw (ws' := ((q0, .inr (3, [.ref (a 0), .ref (b 0)])) :: (wSt D a (br s1 kd) gaq ++ (wSt D b sbq gbq ++ ((q119, .inl (D.1 21, 40, .inl (cpf (wB s1) (fun _ => 0) 40))) :: ((q125, .inl (D.1 21, 40, .inl (cpf (pB s1) (fun _ => 0) 40))) :: (wSm D m pp rr (br s1 kd) u3))))))) rfl ?_
                                                                  have hSa := hSq
                                                                  refine k_aload_n hC 507 dL_law_507 rfl ?_
                                                                  refine k_iconst hC 508 dL_law_508 (nI 2) (by decide) ?_
                                                                  refine g_callV hC hX 509 0 ([]) ((q119, .inl (D.1 21, 40, .inl (cpf (wB s1) (fun _ => 0) 40))) :: ((q125, .inl (D.1 21, 40, .inl (cpf (pB s1) (fun _ => 0) 40))) :: (wSm D m pp rr (br s1 kd) u3))) (fun uq => ((q0, .inr (3, [.ref (a 0), .ref (b 0)])) :: (wSt D a uq.1.1 uq.1.2 ++ (wSt D b uq.2.1 uq.2.2 ++ ((q119, .inl (D.1 21, 40, .inl (cpf (wB s1) (fun _ => 0) 40))) :: ((q125, .inl (D.1 21, 40, .inl (cpf (pB s1) (fun _ => 0) 40))) :: (wSm D m pp rr (br s1 kd) u3))))))) (c_X3_count l hfl D q0 a b (br s1 kd) sbq gaq gbq (nI 2) hSa hWT) cw_RL_97 dL_law_509 ⟨Nat.le_of_ble_eq_true rfl, Nat.le_of_ble_eq_true rfl, (show 205028 + 3170 * i + 0 + 2770 + 0 + 1 + 1 + 1 + 1 + 1 + 1 + 1 + 1 + 4 * 40 + 2 + 92 + 1 + 1 + 2 + 2 * 40 + 1 + 1 + 1 + 1 + 0 + 1 + 1 + 1 ≤ 600130 by omega), (show 2665372 + 39010 * i + 0 + 36010 + 0 + 6 + 6 + 6 + 6 + 6 + 6 + 40 + 40 + 24 * 40 + 12 + 1196 + 6 + 6 + 12 + 12 * 40 + 6 + 6 + 6 + 6 + 0 + 6 + 6 + 6 ≤ 7301080 by omega)⟩ rfl (Nat.le_of_ble_eq_true rfl) rfl rfl rfl (by simp only [List.append_assoc, List.cons_append, List.nil_append, List.append_nil]) (fun _ => rfl) (fun _ => by simp only [List.append_assoc, List.cons_append, List.nil_append, List.append_nil]) _ rfl (fun v uq hp => ?_) (fun E hx => absurd hx (no_x (countK0 (by decide))))
                                                                  obtain ⟨-, rfl, euq, hSq⟩ := hp
                                                                  refine KJ.eqs (st' := .int (ct (br s1 kd) (kn (nI 2))) :: .int (nI ((br s1 kd).1.length)) :: .int (nI (pnd (br s1 kd))) :: .int (nI 0) :: []) rfl ?_
                                                                  refine KJ.topi (y := (nI ((br s1 kd).2.1.length))) (by rw [kn_ek (by decide)]; rfl) ?_
                                                                  obtain ⟨⟨saq, gaq⟩, sbq, gbq⟩ := uq
                                                                  dsimp only at euq hSq
                                                                  have euq2 := euq.symm
                                                                  subst euq2
                                                                  refine KJ.eqw (ws' := ((q0, .inr (3, [.ref (a 0), .ref (b 0)])) :: (wSt D a (br s1 kd) gaq ++ (wSt D b sbq gbq ++ ((q119, .inl (D.1 21, 40, .inl (cpf (wB s1) (fun _ => 0) 40))) :: ((q125, .inl (D.1 21, 40, .inl (cpf (pB s1) (fun _ => 0) 40))) :: (wSm D m pp rr (br s1 kd) u3))))))) rfl ?_
                                                                  have hSa := hSq
                                                                  refine n_iadd hC 512 (((br s1 kd).1.length) + ((br s1 kd).2.1.length)) dL_law_512 rfl ?_
                                                                  refine n_icmp_ne hC 513 520 dL_law_513 (by decide) (by omega) (by omega) (fun h513 => ?_) (fun h513 => ?_)
                                                                  · skip
                                                                    refine k_iconst hC 520 dL_law_520 (nI 0) (by decide) ?_
                                                                    refine n_icmp_eq hC 521 526 dL_law_521 (by decide) (by omega) (by omega) (fun h521 => ?_) (fun h521 => ?_)
                                                                    · skip
                                                                      refine k_iinc hC 526 11 (nI (i + 1)) [(3, .int (nI (i + 1))), (14, .int (nI 1)), (13, .int (nI 1)), (12, .int (nI (oc s1 kd))), (11, .ref q125), (10, .ref q119), (9, .int (loS s1)), (8, .int ((hiS s1) + (miS s1))), (7, .int (nI (plS s1))), (6, .int (nI (s1.1.length + s1.2.1.length))), (5, .int (nI kd)), (4, .int ((cv >>> ((nI ((i / 16) * 3)) &&& 31)) + (nI (373 * i)))), (2, .ref m), (1, .ref q0), (0, .ref bb)] dL_law_526 rfl (nI_1 _) (by decide) rfl ?_
                                                                      refine k_goto hC 529 22 dL_law_529 (by decide) ?_
                                                                      refine KJ.lvp [0, 12, 13, 14] rfl ?_
                                                                      refine KJ.dr ((q0, .inr (3, [.ref (a 0), .ref (b 0)])) :: (wSt D a (br s1 kd) gaq ++ wSt D b sbq gbq)) ((q125, .inl (D.1 21, 40, .inl (cpf (pB s1) (fun _ => 0) 40))) :: (wSm D m pp rr (br s1 kd) u3)) (q119, .inl (D.1 21, 40, .inl (cpf (wB s1) (fun _ => 0) 40))) (by simp only [List.append_assoc, List.cons_append, List.nil_append]) (by simp only [List.append_assoc, List.cons_append, List.nil_append]) (ws' := ((q0, .inr (3, [.ref (a 0), .ref (b 0)])) :: (wSt D a (br s1 kd) gaq ++ (wSt D b sbq gbq ++ ((q125, .inl (D.1 21, 40, .inl (cpf (pB s1) (fun _ => 0) 40))) :: (wSm D m pp rr (br s1 kd) u3)))))) ?_
                                                                      refine KJ.dr ((q0, .inr (3, [.ref (a 0), .ref (b 0)])) :: (wSt D a (br s1 kd) gaq ++ wSt D b sbq gbq)) (wSm D m pp rr (br s1 kd) u3) (q125, .inl (D.1 21, 40, .inl (cpf (pB s1) (fun _ => 0) 40))) (by simp only [List.append_assoc, List.cons_append, List.nil_append]) (by simp only [List.append_assoc, List.cons_append, List.nil_append]) (ws' := ((q0, .inr (3, [.ref (a 0), .ref (b 0)])) :: (wSt D a (br s1 kd) gaq ++ (wSt D b sbq gbq ++ (wSm D m pp rr (br s1 kd) u3))))) ?_
                                                                      exact KJ.wide (by omega) (by omega) (ih22 (i + 1) (br s1 kd) gaq sbq gbq u3 (by omega) (by omega) ⟨hSa, hWT, hJ3, hIT⟩)
                                                                    · skip
                                                                      exact absurd h521 (by decide)
                                                                  · skip
                                                                    exact absurd h513 (by omega)
                                                                · skip
                                                                  exact h488.elim
                                                              · skip
                                                                have hpj2 : ¬ pnd (br s1 kd) < (br s1 kd).1.length + (br s1 kd).2.1.length := hpj
                                                                refine k_aload_n hC 484 dL_law_484 rfl ?_
                                                                refine f_callV hC 485 0 ([]) ((q119, .inl (D.1 21, 40, .inl (cpf (wB s1) (fun _ => 0) 40))) :: ((q125, .inl (D.1 21, 40, .inl (cpf (pB s1) (fun _ => 0) 40))) :: (wSm D m pp rr (br s1 kd) u3))) (fun (uN : PS × PG) => ((q0, .inr (3, [.ref (a 0), .ref (b 0)])) :: (wSt D a (br s1 kd) gaq ++ (wSt D b uN.1 uN.2 ++ ((q119, .inl (D.1 21, 40, .inl (cpf (wB s1) (fun _ => 0) 40))) :: ((q125, .inl (D.1 21, 40, .inl (cpf (pB s1) (fun _ => 0) 40))) :: (wSm D m pp rr (br s1 kd) u3))))))) (c_X3_next l D q0 a b (br s1 kd) sbq gaq gbq hSa hWT) cw_RL_103 dL_law_485 ⟨Nat.le_of_ble_eq_true rfl, Nat.le_of_ble_eq_true rfl, (show 205028 + 3170 * i + 0 + 2770 + 0 + 1 + 1 + 1 + 1 + 1 + 1 + 1 + 1 + 4 * 40 + 2 + 92 + 1 + 1 + 2 + 2 * 40 + 1 + 1 + 1 + 1 + 0 ≤ 600130 by omega), (show 2665372 + 39010 * i + 0 + 36010 + 0 + 6 + 6 + 6 + 6 + 6 + 6 + 40 + 40 + 24 * 40 + 12 + 1196 + 6 + 6 + 12 + 12 * 40 + 6 + 6 + 6 + 6 + 0 ≤ 7301080 by omega)⟩ rfl (Nat.le_of_ble_eq_true rfl) rfl rfl rfl (by simp only [List.append_assoc, List.cons_append, List.nil_append, List.append_nil]) (fun _ => rfl) (fun _ => by simp only [List.append_assoc, List.cons_append, List.nil_append, List.append_nil]) _ rfl (fun v (uN : PS × PG) hp => ?_)
                                                                obtain rfl := hp
                                                                refine KJ.eqs (st' := .int (nextV (br s1 kd)) :: []) rfl ?_
                                                                refine KJ.topi (y := (-1)) (if_neg hpj) ?_
                                                                refine k_if_ge hC 488 495 dL_law_488 (by decide) (fun h488 => ?_) (fun h488 => ?_)
                                                                · skip
                                                                  exact absurd h488 (by decide)
                                                                · skip
                                                                  refine k_iconst hC 491 dL_law_491 (nI 1) (by decide) ?_
                                                                  refine k_goto hC 492 496 dL_law_492 (by decide) ?_
                                                                  refine k_aload_n hC 496 dL_law_496 rfl ?_
                                                                  refine k_bipush hC 497 dL_law_497 (nI 10) (by decide) ?_
                                                                  refine g_callV hC hX 499 0 ([]) ((q119, .inl (D.1 21, 40, .inl (cpf (wB s1) (fun _ => 0) 40))) :: ((q125, .inl (D.1 21, 40, .inl (cpf (pB s1) (fun _ => 0) 40))) :: (wSm D m pp rr (br s1 kd) u3))) (fun uq => ((q0, .inr (3, [.ref (a 0), .ref (b 0)])) :: (wSt D a uq.1.1 uq.1.2 ++ (wSt D b uq.2.1 uq.2.2 ++ ((q119, .inl (D.1 21, 40, .inl (cpf (wB s1) (fun _ => 0) 40))) :: ((q125, .inl (D.1 21, 40, .inl (cpf (pB s1) (fun _ => 0) 40))) :: (wSm D m pp rr (br s1 kd) u3))))))) (c_X3_count l hfl D q0 a b (br s1 kd) uN.1 gaq uN.2 (nI 10) hSa hWT) cw_RL_97 dL_law_499 ⟨Nat.le_of_ble_eq_true rfl, Nat.le_of_ble_eq_true rfl, (show 205028 + 3170 * i + 0 + 2770 + 0 + 1 + 1 + 1 + 1 + 1 + 1 + 1 + 1 + 4 * 40 + 2 + 92 + 1 + 1 + 2 + 2 * 40 + 1 + 1 + 1 + 1 + 0 + 1 ≤ 600130 by omega), (show 2665372 + 39010 * i + 0 + 36010 + 0 + 6 + 6 + 6 + 6 + 6 + 6 + 40 + 40 + 24 * 40 + 12 + 1196 + 6 + 6 + 12 + 12 * 40 + 6 + 6 + 6 + 6 + 0 + 6 ≤ 7301080 by omega)⟩ rfl (Nat.le_of_ble_eq_true rfl) rfl rfl rfl (by simp only [List.append_assoc, List.cons_append, List.nil_append, List.append_nil]) (fun _ => rfl) (fun _ => by simp only [List.append_assoc, List.cons_append, List.nil_append, List.append_nil]) _ rfl (fun v uq hp => ?_) (fun E hx => absurd hx (no_x (countK0 (by decide))))
                                                                  obtain ⟨-, rfl, euq, hSq⟩ := hp
                                                                  refine KJ.eqs (st' := .int (ct (br s1 kd) (kn (nI 10))) :: .int (nI 1) :: []) rfl ?_
                                                                  refine KJ.topi (y := (nI (pnd (br s1 kd)))) (by rw [kn_ek (by decide)]; rfl) ?_
                                                                  obtain ⟨⟨saq, gaq⟩, sbq, gbq⟩ := uq
                                                                  dsimp only at euq hSq
                                                                  have euq2 := euq.symm
                                                                  subst euq2
                                                                  refine KJ.eqw (ws' := ((q0, .inr (3, [.ref (a 0), .ref (b 0)])) :: (wSt D a (br s1 kd) gaq ++ (wSt D b sbq gbq ++ ((q119, .inl (D.1 21, 40, .inl (cpf (wB s1) (fun _ => 0) 40))) :: ((q125, .inl (D.1 21, 40, .inl (cpf (pB s1) (fun _ => 0) 40))) :: (wSm D m pp rr (br s1 kd) u3))))))) rfl ?_
                                                                  have hSa := hSq
                                                                  refine k_aload_n hC 502 dL_law_502 rfl ?_
                                                                  refine k_iconst hC 503 dL_law_503 (nI 1) (by decide) ?_
                                                                  refine g_callV hC hX 504 0 ([]) ((q119, .inl (D.1 21, 40, .inl (cpf (wB s1) (fun _ => 0) 40))) :: ((q125, .inl (D.1 21, 40, .inl (cpf (pB s1) (fun _ => 0) 40))) :: (wSm D m pp rr (br s1 kd) u3))) (fun uq => ((q0, .inr (3, [.ref (a 0), .ref (b 0)])) :: (wSt D a uq.1.1 uq.1.2 ++ (wSt D b uq.2.1 uq.2.2 ++ ((q119, .inl (D.1 21, 40, .inl (cpf (wB s1) (fun _ => 0) 40))) :: ((q125, .inl (D.1 21, 40, .inl (cpf (pB s1) (fun _ => 0) 40))) :: (wSm D m pp rr (br s1 kd) u3))))))) (c_X3_count l hfl D q0 a b (br s1 kd) sbq gaq gbq (nI 1) hSa hWT) cw_RL_97 dL_law_504 ⟨Nat.le_of_ble_eq_true rfl, Nat.le_of_ble_eq_true rfl, (show 205028 + 3170 * i + 0 + 2770 + 0 + 1 + 1 + 1 + 1 + 1 + 1 + 1 + 1 + 4 * 40 + 2 + 92 + 1 + 1 + 2 + 2 * 40 + 1 + 1 + 1 + 1 + 0 + 1 + 1 ≤ 600130 by omega), (show 2665372 + 39010 * i + 0 + 36010 + 0 + 6 + 6 + 6 + 6 + 6 + 6 + 40 + 40 + 24 * 40 + 12 + 1196 + 6 + 6 + 12 + 12 * 40 + 6 + 6 + 6 + 6 + 0 + 6 + 6 ≤ 7301080 by omega)⟩ rfl (Nat.le_of_ble_eq_true rfl) rfl rfl rfl (by simp only [List.append_assoc, List.cons_append, List.nil_append, List.append_nil]) (fun _ => rfl) (fun _ => by simp only [List.append_assoc, List.cons_append, List.nil_append, List.append_nil]) _ rfl (fun v uq hp => ?_) (fun E hx => absurd hx (no_x (countK0 (by decide))))
                                                                  obtain ⟨-, rfl, euq, hSq⟩ := hp
                                                                  refine KJ.eqs (st' := .int (ct (br s1 kd) (kn (nI 1))) :: .int (nI (pnd (br s1 kd))) :: .int (nI 1) :: []) rfl ?_
                                                                  refine KJ.topi (y := (nI ((br s1 kd).1.length))) (by rw [kn_ek (by decide)]; rfl) ?_
                                                                  obtain ⟨⟨saq, gaq⟩, sbq, gbq⟩ := uq
                                                                  dsimp only at euq hSq
                                                                  have euq2 := euq.symm
                                                                  subst euq2
                                                                  refine KJ.eqw (ws' := ((q0, .inr (3, [.ref (a 0), .ref (b 0)])) :: (wSt D a (br s1 kd) gaq ++ (wSt D b sbq gbq ++ ((q119, .inl (D.1 21, 40, .inl (cpf (wB s1) (fun _ => 0) 40))) :: ((q125, .inl (D.1 21, 40, .inl (cpf (pB s1) (fun _ => 0) 40))) :: (wSm D m pp rr (br s1 kd) u3))))))) rfl ?_
                                                                  have hSa := hSq
                                                                  refine k_aload_n hC 507 dL_law_507 rfl ?_
                                                                  refine k_iconst hC 508 dL_law_508 (nI 2) (by decide) ?_
                                                                  refine g_callV hC hX 509 0 ([]) ((q119, .inl (D.1 21, 40, .inl (cpf (wB s1) (fun _ => 0) 40))) :: ((q125, .inl (D.1 21, 40, .inl (cpf (pB s1) (fun _ => 0) 40))) :: (wSm D m pp rr (br s1 kd) u3))) (fun uq => ((q0, .inr (3, [.ref (a 0), .ref (b 0)])) :: (wSt D a uq.1.1 uq.1.2 ++ (wSt D b uq.2.1 uq.2.2 ++ ((q119, .inl (D.1 21, 40, .inl (cpf (wB s1) (fun _ => 0) 40))) :: ((q125, .inl (D.1 21, 40, .inl (cpf (pB s1) (fun _ => 0) 40))) :: (wSm D m pp rr (br s1 kd) u3))))))) (c_X3_count l hfl D q0 a b (br s1 kd) sbq gaq gbq (nI 2) hSa hWT) cw_RL_97 dL_law_509 ⟨Nat.le_of_ble_eq_true rfl, Nat.le_of_ble_eq_true rfl, (show 205028 + 3170 * i + 0 + 2770 + 0 + 1 + 1 + 1 + 1 + 1 + 1 + 1 + 1 + 4 * 40 + 2 + 92 + 1 + 1 + 2 + 2 * 40 + 1 + 1 + 1 + 1 + 0 + 1 + 1 + 1 ≤ 600130 by omega), (show 2665372 + 39010 * i + 0 + 36010 + 0 + 6 + 6 + 6 + 6 + 6 + 6 + 40 + 40 + 24 * 40 + 12 + 1196 + 6 + 6 + 12 + 12 * 40 + 6 + 6 + 6 + 6 + 0 + 6 + 6 + 6 ≤ 7301080 by omega)⟩ rfl (Nat.le_of_ble_eq_true rfl) rfl rfl rfl (by simp only [List.append_assoc, List.cons_append, List.nil_append, List.append_nil]) (fun _ => rfl) (fun _ => by simp only [List.append_assoc, List.cons_append, List.nil_append, List.append_nil]) _ rfl (fun v uq hp => ?_) (fun E hx => absurd hx (no_x (countK0 (by decide))))
                                                                  obtain ⟨-, rfl, euq, hSq⟩ := hp
                                                                  refine KJ.eqs (st' := .int (ct (br s1 kd) (kn (nI 2))) :: .int (nI ((br s1 kd).1.length)) :: .int (nI (pnd (br s1 kd))) :: .int (nI 1) :: []) rfl ?_
                                                                  refine KJ.topi (y := (nI ((br s1 kd).2.1.length))) (by rw [kn_ek (by decide)]; rfl) ?_
                                                                  obtain ⟨⟨saq, gaq⟩, sbq, gbq⟩ := uq
                                                                  dsimp only at euq hSq
                                                                  have euq2 := euq.symm
                                                                  subst euq2
                                                                  refine KJ.eqw (ws' := ((q0, .inr (3, [.ref (a 0), .ref (b 0)])) :: (wSt D a (br s1 kd) gaq ++ (wSt D b sbq gbq ++ ((q119, .inl (D.1 21, 40, .inl (cpf (wB s1) (fun _ => 0) 40))) :: ((q125, .inl (D.1 21, 40, .inl (cpf (pB s1) (fun _ => 0) 40))) :: (wSm D m pp rr (br s1 kd) u3))))))) rfl ?_
                                                                  have hSa := hSq
                                                                  refine n_iadd hC 512 (((br s1 kd).1.length) + ((br s1 kd).2.1.length)) dL_law_512 rfl ?_
                                                                  refine n_icmp_ne hC 513 520 dL_law_513 (by decide) (by omega) (by omega) (fun h513 => ?_) (fun h513 => ?_)
                                                                  · skip
                                                                    exact absurd (by omega) h513
                                                                  · skip
                                                                    refine k_iconst hC 516 dL_law_516 (nI 1) (by decide) ?_
                                                                    refine k_goto hC 517 521 dL_law_517 (by decide) ?_
                                                                    refine n_icmp_eq hC 521 526 dL_law_521 (by decide) (by omega) (by omega) (fun h521 => ?_) (fun h521 => ?_)
                                                                    · skip
                                                                      refine k_iinc hC 526 11 (nI (i + 1)) [(3, .int (nI (i + 1))), (14, .int (nI 1)), (13, .int (nI 1)), (12, .int (nI (oc s1 kd))), (11, .ref q125), (10, .ref q119), (9, .int (loS s1)), (8, .int ((hiS s1) + (miS s1))), (7, .int (nI (plS s1))), (6, .int (nI (s1.1.length + s1.2.1.length))), (5, .int (nI kd)), (4, .int ((cv >>> ((nI ((i / 16) * 3)) &&& 31)) + (nI (373 * i)))), (2, .ref m), (1, .ref q0), (0, .ref bb)] dL_law_526 rfl (nI_1 _) (by decide) rfl ?_
                                                                      refine k_goto hC 529 22 dL_law_529 (by decide) ?_
                                                                      refine KJ.lvp [0, 12, 13, 14] rfl ?_
                                                                      refine KJ.dr ((q0, .inr (3, [.ref (a 0), .ref (b 0)])) :: (wSt D a (br s1 kd) gaq ++ wSt D b sbq gbq)) ((q125, .inl (D.1 21, 40, .inl (cpf (pB s1) (fun _ => 0) 40))) :: (wSm D m pp rr (br s1 kd) u3)) (q119, .inl (D.1 21, 40, .inl (cpf (wB s1) (fun _ => 0) 40))) (by simp only [List.append_assoc, List.cons_append, List.nil_append]) (by simp only [List.append_assoc, List.cons_append, List.nil_append]) (ws' := ((q0, .inr (3, [.ref (a 0), .ref (b 0)])) :: (wSt D a (br s1 kd) gaq ++ (wSt D b sbq gbq ++ ((q125, .inl (D.1 21, 40, .inl (cpf (pB s1) (fun _ => 0) 40))) :: (wSm D m pp rr (br s1 kd) u3)))))) ?_
                                                                      refine KJ.dr ((q0, .inr (3, [.ref (a 0), .ref (b 0)])) :: (wSt D a (br s1 kd) gaq ++ wSt D b sbq gbq)) (wSm D m pp rr (br s1 kd) u3) (q125, .inl (D.1 21, 40, .inl (cpf (pB s1) (fun _ => 0) 40))) (by simp only [List.append_assoc, List.cons_append, List.nil_append]) (by simp only [List.append_assoc, List.cons_append, List.nil_append]) (ws' := ((q0, .inr (3, [.ref (a 0), .ref (b 0)])) :: (wSt D a (br s1 kd) gaq ++ (wSt D b sbq gbq ++ (wSm D m pp rr (br s1 kd) u3))))) ?_
                                                                      exact KJ.wide (by omega) (by omega) (ih22 (i + 1) (br s1 kd) gaq sbq gbq u3 (by omega) (by omega) ⟨hSa, hWT, hJ3, hIT⟩)
                                                                    · skip
                                                                      exact absurd h521 (by decide)
                                                            · skip
                                                              exact absurd (by omega) h479
                                                          · skip
                                                            exact absurd h470 (by decide)
                                                      · skip
                                                        exact absurd (hlo.symm.trans h445) (add_ne hi1 (by omega))
                                      · skip
                                        by_cases hw : inn s1 k
                                        · skip
                                          by_cases hs : inn (br s1 kd) k
                                          · skip
                                            have hne : k ≠ gx := fun z => (fB (by omega)).2 (z ▸ hs)
                                            by_cases hp : inn s1 k ∧ 0 < piS s1 k
                                            · skip
                                              refine k_aload_n hC 299 dL_law_299 rfl ?_
                                              refine k_iload hC 300 dL_law_300 rfl ?_
                                              refine k_iconst hC 302 dL_law_302 (nI 0) (by decide) ?_
                                              refine g_callV hC hX 303 0 ([]) ((q119, .inl (D.1 21, 40, .inl (cpf (wB s1) (fun _ => 0) 40))) :: ((q125, .inl (D.1 21, 40, .inl (cpf (pB s1) (fun _ => 0) 40))) :: (wSm D m pp rr (br s1 kd) u3))) (fun uq => ((q0, .inr (3, [.ref (a 0), .ref (b 0)])) :: (wSt D a uq.1.1 uq.1.2 ++ (wSt D b uq.2.1 uq.2.2 ++ ((q119, .inl (D.1 21, 40, .inl (cpf (wB s1) (fun _ => 0) 40))) :: ((q125, .inl (D.1 21, 40, .inl (cpf (pB s1) (fun _ => 0) 40))) :: (wSm D m pp rr (br s1 kd) u3))))))) (c_X3_jar l hfl D q0 a b (br s1 kd) sb ga gb (nI k) (nI 0) hSa hWT) cw_RL_100 dL_law_303 ⟨Nat.le_of_ble_eq_true rfl, Nat.le_of_ble_eq_true rfl, (show 205028 + 3170 * i + 0 + 2770 + 0 + 1 + 1 + 1 + 1 + 1 + 1 + 1 + 1 + 4 * 40 + 2 + 92 + 1 + 1 + 2 + 2 * k + 2 ≤ 600130 by omega), (show 2665372 + 39010 * i + 0 + 36010 + 0 + 6 + 6 + 6 + 6 + 6 + 6 + 40 + 40 + 24 * 40 + 12 + 1196 + 6 + 6 + 12 + 12 * k + 12 ≤ 7301080 by omega)⟩ rfl (Nat.le_of_ble_eq_true rfl) rfl rfl rfl (by simp only [List.append_assoc, List.cons_append, List.nil_append, List.append_nil]) (fun _ => rfl) (fun _ => by simp only [List.append_assoc, List.cons_append, List.nil_append, List.append_nil]) _ rfl (fun v uq hp => ?_) (fun E hx => absurd hx (no_x (jarK0 h296 (by decide))))
                                              obtain ⟨-, rfl, euq, hSq⟩ := hp
                                              refine KJ.eqs (st' := .int (dtl (br s1 kd) (kn (nI k)) (kn (nI 0))) :: []) rfl ?_
                                              refine KJ.topi (y := (dtl (br s1 kd) k 0)) (by rw [kn_ek h296, kn_ek (by decide)]) ?_
                                              obtain ⟨⟨saq, gaq⟩, sbq, gbq⟩ := uq
                                              dsimp only at euq hSq
                                              have euq2 := euq.symm
                                              subst euq2
                                              refine KJ.eqw (ws' := ((q0, .inr (3, [.ref (a 0), .ref (b 0)])) :: (wSt D a (br s1 kd) gaq ++ (wSt D b sbq gbq ++ ((q119, .inl (D.1 21, 40, .inl (cpf (wB s1) (fun _ => 0) 40))) :: ((q125, .inl (D.1 21, 40, .inl (cpf (pB s1) (fun _ => 0) 40))) :: (wSm D m pp rr (br s1 kd) u3))))))) rfl ?_
                                              have hSa := hSq
                                              refine k_if_lt hC 306 313 dL_law_306 (by decide) (fun h306 => ?_) (fun h306 => ?_)
                                              · skip
                                                exact absurd h306 (dtl0_in hs)
                                              · skip
                                                refine k_iconst hC 309 dL_law_309 (nI 1) (by decide) ?_
                                                refine k_goto hC 310 314 dL_law_310 (by decide) ?_
                                                refine k_istore hC 314 15 [(15, .int (nI 1)), (14, .int (nI k)), (13, .int (nI (if gx < k then 1 else 0))), (12, .int (nI (oc s1 kd))), (11, .ref q125), (10, .ref q119), (9, .int (loS s1)), (8, .int ((hiS s1) + (miS s1))), (7, .int (nI (plS s1))), (6, .int (nI (s1.1.length + s1.2.1.length))), (5, .int (nI kd)), (4, .int ((cv >>> ((nI ((i / 16) * 3)) &&& 31)) + (nI (373 * i)))), (3, .int (nI i)), (2, .ref m), (1, .ref q0), (0, .ref bb)] dL_law_314 (by decide) rfl ?_
                                                refine k_aload hC 316 dL_law_316 rfl ?_
                                                refine k_iload hC 318 dL_law_318 rfl ?_
                                                refine n_zald hC 320 31 (nI 1) dL_law_320 rfl (by omega) (by decide) ((cpf_in h296).trans (wB_in hw)) ?_
                                                refine n_if_eq hC 321 332 dL_law_321 (by decide) (by omega) (fun h321 => ?_) (fun h321 => ?_)
                                                · skip
                                                  exact absurd h321 (by decide)
                                                · skip
                                                  refine k_iload hC 324 dL_law_324 rfl ?_
                                                  refine n_if_ne hC 326 332 dL_law_326 (by decide) (by omega) (fun h326 => ?_) (fun h326 => ?_)
                                                  · skip
                                                    refine k_aload hC 332 dL_law_332 rfl ?_
                                                    refine k_iload hC 334 dL_law_334 rfl ?_
                                                    refine n_zald hC 336 32 (nI 1) dL_law_336 rfl (by omega) (by decide) ((cpf_in h296).trans (pB_in hp)) ?_
                                                    refine n_if_eq hC 337 345 dL_law_337 (by decide) (by omega) (fun h337 => ?_) (fun h337 => ?_)
                                                    · skip
                                                      exact absurd h337 (by decide)
                                                    · skip
                                                      refine k_iload hC 340 dL_law_340 rfl ?_
                                                      refine n_if_eq hC 342 365 dL_law_342 (by decide) (by omega) (fun h342 => ?_) (fun h342 => ?_)
                                                      · skip
                                                        exact absurd h342 (by decide)
                                                      · skip
                                                        refine k_aload hC 345 dL_law_345 rfl ?_
                                                        refine k_iload hC 347 dL_law_347 rfl ?_
                                                        refine n_zald hC 349 31 (nI 1) dL_law_349 rfl (by omega) (by decide) ((cpf_in h296).trans (wB_in hw)) ?_
                                                        refine n_if_ne hC 350 367 dL_law_350 (by decide) (by omega) (fun h350 => ?_) (fun h350 => ?_)
                                                        · skip
                                                          refine k_iinc hC 367 1 (nI (k + 1)) [(14, .int (nI (k + 1))), (15, .int (nI 1)), (13, .int (nI (if gx < k then 1 else 0))), (12, .int (nI (oc s1 kd))), (11, .ref q125), (10, .ref q119), (9, .int (loS s1)), (8, .int ((hiS s1) + (miS s1))), (7, .int (nI (plS s1))), (6, .int (nI (s1.1.length + s1.2.1.length))), (5, .int (nI kd)), (4, .int ((cv >>> ((nI ((i / 16) * 3)) &&& 31)) + (nI (373 * i)))), (3, .int (nI i)), (2, .ref m), (1, .ref q0), (0, .ref bb)] dL_law_367 rfl (nI_1 _) (by decide) rfl ?_
                                                          refine k_goto hC 370 292 dL_law_370 (by decide) ?_
                                                          refine KJ.lvp [0, 2, 3, 4, 5, 6, 7, 8, 9, 10, 11, 12, 13, 14, 15] rfl ?_
                                                          have eg : (if gx < k + 1 then 1 else 0) = (if gx < k then 1 else 0) := (by by_cases z : gx < k; exact (if_pos (by omega)).trans (if_pos z).symm; exact (if_neg (by omega)).trans (if_neg z).symm)
                                                          refine KJ.eql (lv' := [(14, .int (nI (k + 1))), (13, .int (nI (if gx < k + 1 then 1 else 0))), (12, .int (nI (oc s1 kd))), (11, .ref q125), (10, .ref q119), (9, .int (loS s1)), (8, .int ((hiS s1) + (miS s1))), (7, .int (nI (plS s1))), (6, .int (nI (s1.1.length + s1.2.1.length))), (5, .int (nI kd)), (4, .int ((cv >>> ((nI ((i / 16) * 3)) &&& 31)) + (nI (373 * i)))), (3, .int (nI i)), (2, .ref m), (1, .ref q0), (0, .ref bb)]) (by rw [eg] <;> rfl) ?_
                                                          exact KJ.wide (by omega) (by omega) (ih292 (k + 1) gaq sbq gbq (by omega) (by omega) hSa)
                                                        · skip
                                                          exact absurd h350 (by decide)
                                                  · skip
                                                    exact absurd h326 (by decide)
                                            · skip
                                              refine k_aload_n hC 299 dL_law_299 rfl ?_
                                              refine k_iload hC 300 dL_law_300 rfl ?_
                                              refine k_iconst hC 302 dL_law_302 (nI 0) (by decide) ?_
                                              refine g_callV hC hX 303 0 ([]) ((q119, .inl (D.1 21, 40, .inl (cpf (wB s1) (fun _ => 0) 40))) :: ((q125, .inl (D.1 21, 40, .inl (cpf (pB s1) (fun _ => 0) 40))) :: (wSm D m pp rr (br s1 kd) u3))) (fun uq => ((q0, .inr (3, [.ref (a 0), .ref (b 0)])) :: (wSt D a uq.1.1 uq.1.2 ++ (wSt D b uq.2.1 uq.2.2 ++ ((q119, .inl (D.1 21, 40, .inl (cpf (wB s1) (fun _ => 0) 40))) :: ((q125, .inl (D.1 21, 40, .inl (cpf (pB s1) (fun _ => 0) 40))) :: (wSm D m pp rr (br s1 kd) u3))))))) (c_X3_jar l hfl D q0 a b (br s1 kd) sb ga gb (nI k) (nI 0) hSa hWT) cw_RL_100 dL_law_303 ⟨Nat.le_of_ble_eq_true rfl, Nat.le_of_ble_eq_true rfl, (show 205028 + 3170 * i + 0 + 2770 + 0 + 1 + 1 + 1 + 1 + 1 + 1 + 1 + 1 + 4 * 40 + 2 + 92 + 1 + 1 + 2 + 2 * k + 2 ≤ 600130 by omega), (show 2665372 + 39010 * i + 0 + 36010 + 0 + 6 + 6 + 6 + 6 + 6 + 6 + 40 + 40 + 24 * 40 + 12 + 1196 + 6 + 6 + 12 + 12 * k + 12 ≤ 7301080 by omega)⟩ rfl (Nat.le_of_ble_eq_true rfl) rfl rfl rfl (by simp only [List.append_assoc, List.cons_append, List.nil_append, List.append_nil]) (fun _ => rfl) (fun _ => by simp only [List.append_assoc, List.cons_append, List.nil_append, List.append_nil]) _ rfl (fun v uq hp => ?_) (fun E hx => absurd hx (no_x (jarK0 h296 (by decide))))
                                              obtain ⟨-, rfl, euq, hSq⟩ := hp
                                              refine KJ.eqs (st' := .int (dtl (br s1 kd) (kn (nI k)) (kn (nI 0))) :: []) rfl ?_
                                              refine KJ.topi (y := (dtl (br s1 kd) k 0)) (by rw [kn_ek h296, kn_ek (by decide)]) ?_
                                              obtain ⟨⟨saq, gaq⟩, sbq, gbq⟩ := uq
                                              dsimp only at euq hSq
                                              have euq2 := euq.symm
                                              subst euq2
                                              refine KJ.eqw (ws' := ((q0, .inr (3, [.ref (a 0), .ref (b 0)])) :: (wSt D a (br s1 kd) gaq ++ (wSt D b sbq gbq ++ ((q119, .inl (D.1 21, 40, .inl (cpf (wB s1) (fun _ => 0) 40))) :: ((q125, .inl (D.1 21, 40, .inl (cpf (pB s1) (fun _ => 0) 40))) :: (wSm D m pp rr (br s1 kd) u3))))))) rfl ?_
                                              have hSa := hSq
                                              refine k_if_lt hC 306 313 dL_law_306 (by decide) (fun h306 => ?_) (fun h306 => ?_)
                                              · skip
                                                exact absurd h306 (dtl0_in hs)
                                              · skip
                                                refine k_iconst hC 309 dL_law_309 (nI 1) (by decide) ?_
                                                refine k_goto hC 310 314 dL_law_310 (by decide) ?_
                                                refine k_istore hC 314 15 [(15, .int (nI 1)), (14, .int (nI k)), (13, .int (nI (if gx < k then 1 else 0))), (12, .int (nI (oc s1 kd))), (11, .ref q125), (10, .ref q119), (9, .int (loS s1)), (8, .int ((hiS s1) + (miS s1))), (7, .int (nI (plS s1))), (6, .int (nI (s1.1.length + s1.2.1.length))), (5, .int (nI kd)), (4, .int ((cv >>> ((nI ((i / 16) * 3)) &&& 31)) + (nI (373 * i)))), (3, .int (nI i)), (2, .ref m), (1, .ref q0), (0, .ref bb)] dL_law_314 (by decide) rfl ?_
                                                refine k_aload hC 316 dL_law_316 rfl ?_
                                                refine k_iload hC 318 dL_law_318 rfl ?_
                                                refine n_zald hC 320 31 (nI 1) dL_law_320 rfl (by omega) (by decide) ((cpf_in h296).trans (wB_in hw)) ?_
                                                refine n_if_eq hC 321 332 dL_law_321 (by decide) (by omega) (fun h321 => ?_) (fun h321 => ?_)
                                                · skip
                                                  exact absurd h321 (by decide)
                                                · skip
                                                  refine k_iload hC 324 dL_law_324 rfl ?_
                                                  refine n_if_ne hC 326 332 dL_law_326 (by decide) (by omega) (fun h326 => ?_) (fun h326 => ?_)
                                                  · skip
                                                    refine k_aload hC 332 dL_law_332 rfl ?_
                                                    refine k_iload hC 334 dL_law_334 rfl ?_
                                                    refine n_zald hC 336 32 (nI 0) dL_law_336 rfl (by omega) (by decide) ((cpf_in h296).trans (pB_no hp)) ?_
                                                    refine n_if_eq hC 337 345 dL_law_337 (by decide) (by omega) (fun h337 => ?_) (fun h337 => ?_)
                                                    · skip
                                                      refine k_aload hC 345 dL_law_345 rfl ?_
                                                      refine k_iload hC 347 dL_law_347 rfl ?_
                                                      refine n_zald hC 349 31 (nI 1) dL_law_349 rfl (by omega) (by decide) ((cpf_in h296).trans (wB_in hw)) ?_
                                                      refine n_if_ne hC 350 367 dL_law_350 (by decide) (by omega) (fun h350 => ?_) (fun h350 => ?_)
                                                      · skip
                                                        refine k_iinc hC 367 1 (nI (k + 1)) [(14, .int (nI (k + 1))), (15, .int (nI 1)), (13, .int (nI (if gx < k then 1 else 0))), (12, .int (nI (oc s1 kd))), (11, .ref q125), (10, .ref q119), (9, .int (loS s1)), (8, .int ((hiS s1) + (miS s1))), (7, .int (nI (plS s1))), (6, .int (nI (s1.1.length + s1.2.1.length))), (5, .int (nI kd)), (4, .int ((cv >>> ((nI ((i / 16) * 3)) &&& 31)) + (nI (373 * i)))), (3, .int (nI i)), (2, .ref m), (1, .ref q0), (0, .ref bb)] dL_law_367 rfl (nI_1 _) (by decide) rfl ?_
                                                        refine k_goto hC 370 292 dL_law_370 (by decide) ?_
                                                        refine KJ.lvp [0, 2, 3, 4, 5, 6, 7, 8, 9, 10, 11, 12, 13, 14, 15] rfl ?_
                                                        have eg : (if gx < k + 1 then 1 else 0) = (if gx < k then 1 else 0) := (by by_cases z : gx < k; exact (if_pos (by omega)).trans (if_pos z).symm; exact (if_neg (by omega)).trans (if_neg z).symm)
                                                        refine KJ.eql (lv' := [(14, .int (nI (k + 1))), (13, .int (nI (if gx < k + 1 then 1 else 0))), (12, .int (nI (oc s1 kd))), (11, .ref q125), (10, .ref q119), (9, .int (loS s1)), (8, .int ((hiS s1) + (miS s1))), (7, .int (nI (plS s1))), (6, .int (nI (s1.1.length + s1.2.1.length))), (5, .int (nI kd)), (4, .int ((cv >>> ((nI ((i / 16) * 3)) &&& 31)) + (nI (373 * i)))), (3, .int (nI i)), (2, .ref m), (1, .ref q0), (0, .ref bb)]) (by rw [eg] <;> rfl) ?_
                                                        exact KJ.wide (by omega) (by omega) (ih292 (k + 1) gaq sbq gbq (by omega) (by omega) hSa)
                                                      · skip
                                                        exact absurd h350 (by decide)
                                                    · skip
                                                      exact absurd h337 (by decide)
                                                  · skip
                                                    exact absurd h326 (by decide)
                                          · skip
                                            have heq : k = gx := fA k hw hs
                                            have hp : ¬ (inn s1 k ∧ 0 < piS s1 k) := fun z => hs (fC k z.1 z.2)
                                            refine k_aload_n hC 299 dL_law_299 rfl ?_
                                            refine k_iload hC 300 dL_law_300 rfl ?_
                                            refine k_iconst hC 302 dL_law_302 (nI 0) (by decide) ?_
                                            refine g_callV hC hX 303 0 ([]) ((q119, .inl (D.1 21, 40, .inl (cpf (wB s1) (fun _ => 0) 40))) :: ((q125, .inl (D.1 21, 40, .inl (cpf (pB s1) (fun _ => 0) 40))) :: (wSm D m pp rr (br s1 kd) u3))) (fun uq => ((q0, .inr (3, [.ref (a 0), .ref (b 0)])) :: (wSt D a uq.1.1 uq.1.2 ++ (wSt D b uq.2.1 uq.2.2 ++ ((q119, .inl (D.1 21, 40, .inl (cpf (wB s1) (fun _ => 0) 40))) :: ((q125, .inl (D.1 21, 40, .inl (cpf (pB s1) (fun _ => 0) 40))) :: (wSm D m pp rr (br s1 kd) u3))))))) (c_X3_jar l hfl D q0 a b (br s1 kd) sb ga gb (nI k) (nI 0) hSa hWT) cw_RL_100 dL_law_303 ⟨Nat.le_of_ble_eq_true rfl, Nat.le_of_ble_eq_true rfl, (show 205028 + 3170 * i + 0 + 2770 + 0 + 1 + 1 + 1 + 1 + 1 + 1 + 1 + 1 + 4 * 40 + 2 + 92 + 1 + 1 + 2 + 2 * k + 2 ≤ 600130 by omega), (show 2665372 + 39010 * i + 0 + 36010 + 0 + 6 + 6 + 6 + 6 + 6 + 6 + 40 + 40 + 24 * 40 + 12 + 1196 + 6 + 6 + 12 + 12 * k + 12 ≤ 7301080 by omega)⟩ rfl (Nat.le_of_ble_eq_true rfl) rfl rfl rfl (by simp only [List.append_assoc, List.cons_append, List.nil_append, List.append_nil]) (fun _ => rfl) (fun _ => by simp only [List.append_assoc, List.cons_append, List.nil_append, List.append_nil]) _ rfl (fun v uq hp => ?_) (fun E hx => absurd hx (no_x (jarK0 h296 (by decide))))
                                            obtain ⟨-, rfl, euq, hSq⟩ := hp
                                            refine KJ.eqs (st' := .int (dtl (br s1 kd) (kn (nI k)) (kn (nI 0))) :: []) rfl ?_
                                            refine KJ.topi (y := (dtl (br s1 kd) k 0)) (by rw [kn_ek h296, kn_ek (by decide)]) ?_
                                            obtain ⟨⟨saq, gaq⟩, sbq, gbq⟩ := uq
                                            dsimp only at euq hSq
                                            have euq2 := euq.symm
                                            subst euq2
                                            refine KJ.eqw (ws' := ((q0, .inr (3, [.ref (a 0), .ref (b 0)])) :: (wSt D a (br s1 kd) gaq ++ (wSt D b sbq gbq ++ ((q119, .inl (D.1 21, 40, .inl (cpf (wB s1) (fun _ => 0) 40))) :: ((q125, .inl (D.1 21, 40, .inl (cpf (pB s1) (fun _ => 0) 40))) :: (wSm D m pp rr (br s1 kd) u3))))))) rfl ?_
                                            have hSa := hSq
                                            refine k_if_lt hC 306 313 dL_law_306 (by decide) (fun h306 => ?_) (fun h306 => ?_)
                                            · skip
                                              refine k_iconst hC 313 dL_law_313 (nI 0) (by decide) ?_
                                              refine k_istore hC 314 15 [(15, .int (nI 0)), (14, .int (nI k)), (13, .int (nI (if gx < k then 1 else 0))), (12, .int (nI (oc s1 kd))), (11, .ref q125), (10, .ref q119), (9, .int (loS s1)), (8, .int ((hiS s1) + (miS s1))), (7, .int (nI (plS s1))), (6, .int (nI (s1.1.length + s1.2.1.length))), (5, .int (nI kd)), (4, .int ((cv >>> ((nI ((i / 16) * 3)) &&& 31)) + (nI (373 * i)))), (3, .int (nI i)), (2, .ref m), (1, .ref q0), (0, .ref bb)] dL_law_314 (by decide) rfl ?_
                                              refine k_aload hC 316 dL_law_316 rfl ?_
                                              refine k_iload hC 318 dL_law_318 rfl ?_
                                              refine n_zald hC 320 31 (nI 1) dL_law_320 rfl (by omega) (by decide) ((cpf_in h296).trans (wB_in hw)) ?_
                                              refine n_if_eq hC 321 332 dL_law_321 (by decide) (by omega) (fun h321 => ?_) (fun h321 => ?_)
                                              · skip
                                                exact absurd h321 (by decide)
                                              · skip
                                                refine k_iload hC 324 dL_law_324 rfl ?_
                                                refine n_if_ne hC 326 332 dL_law_326 (by decide) (by omega) (fun h326 => ?_) (fun h326 => ?_)
                                                · skip
                                                  exact absurd h326 (by decide)
                                                · skip
                                                  refine k_iinc hC 329 2 (nI ((if gx < k then 1 else 0) + 1)) [(13, .int (nI ((if gx < k then 1 else 0) + 1))), (15, .int (nI 0)), (14, .int (nI k)), (12, .int (nI (oc s1 kd))), (11, .ref q125), (10, .ref q119), (9, .int (loS s1)), (8, .int ((hiS s1) + (miS s1))), (7, .int (nI (plS s1))), (6, .int (nI (s1.1.length + s1.2.1.length))), (5, .int (nI kd)), (4, .int ((cv >>> ((nI ((i / 16) * 3)) &&& 31)) + (nI (373 * i)))), (3, .int (nI i)), (2, .ref m), (1, .ref q0), (0, .ref bb)] dL_law_329 rfl (nI_1 _) (by decide) rfl ?_
                                                  refine k_aload hC 332 dL_law_332 rfl ?_
                                                  refine k_iload hC 334 dL_law_334 rfl ?_
                                                  refine n_zald hC 336 32 (nI 0) dL_law_336 rfl (by omega) (by decide) ((cpf_in h296).trans (pB_no hp)) ?_
                                                  refine n_if_eq hC 337 345 dL_law_337 (by decide) (by omega) (fun h337 => ?_) (fun h337 => ?_)
                                                  · skip
                                                    refine k_aload hC 345 dL_law_345 rfl ?_
                                                    refine k_iload hC 347 dL_law_347 rfl ?_
                                                    refine n_zald hC 349 31 (nI 1) dL_law_349 rfl (by omega) (by decide) ((cpf_in h296).trans (wB_in hw)) ?_
                                                    refine n_if_ne hC 350 367 dL_law_350 (by decide) (by omega) (fun h350 => ?_) (fun h350 => ?_)
                                                    · skip
                                                      refine k_iinc hC 367 2 (nI (k + 1)) [(14, .int (nI (k + 1))), (13, .int (nI ((if gx < k then 1 else 0) + 1))), (15, .int (nI 0)), (12, .int (nI (oc s1 kd))), (11, .ref q125), (10, .ref q119), (9, .int (loS s1)), (8, .int ((hiS s1) + (miS s1))), (7, .int (nI (plS s1))), (6, .int (nI (s1.1.length + s1.2.1.length))), (5, .int (nI kd)), (4, .int ((cv >>> ((nI ((i / 16) * 3)) &&& 31)) + (nI (373 * i)))), (3, .int (nI i)), (2, .ref m), (1, .ref q0), (0, .ref bb)] dL_law_367 rfl (nI_1 _) (by decide) rfl ?_
                                                      refine k_goto hC 370 292 dL_law_370 (by decide) ?_
                                                      refine KJ.lvp [0, 1, 3, 4, 5, 6, 7, 8, 9, 10, 11, 12, 13, 14, 15] rfl ?_
                                                      have eg : (if gx < k + 1 then 1 else 0) = (if gx < k then 1 else 0) + 1 := (by rw [if_pos (by omega), if_neg (by omega)])
                                                      refine KJ.eql (lv' := [(14, .int (nI (k + 1))), (13, .int (nI (if gx < k + 1 then 1 else 0))), (12, .int (nI (oc s1 kd))), (11, .ref q125), (10, .ref q119), (9, .int (loS s1)), (8, .int ((hiS s1) + (miS s1))), (7, .int (nI (plS s1))), (6, .int (nI (s1.1.length + s1.2.1.length))), (5, .int (nI kd)), (4, .int ((cv >>> ((nI ((i / 16) * 3)) &&& 31)) + (nI (373 * i)))), (3, .int (nI i)), (2, .ref m), (1, .ref q0), (0, .ref bb)]) (by rw [eg] <;> rfl) ?_
                                                      exact KJ.wide (by omega) (by omega) (ih292 (k + 1) gaq sbq gbq (by omega) (by omega) hSa)
                                                    · skip
                                                      exact absurd h350 (by decide)
                                                  · skip
                                                    exact absurd h337 (by decide)
                                            · skip
                                              exact absurd (dtl0_no hs) h306
                                        · skip
                                          have hne : k ≠ gx := fun z => hw (by have y := (fB (by omega)).1; rw [← z] at y; exact y)
                                          have hp : ¬ (inn s1 k ∧ 0 < piS s1 k) := fun z => hw z.1
                                          by_cases hs : inn (br s1 kd) k
                                          · skip
                                            have hkk : k = kd := fD k hw hs
                                            refine k_aload_n hC 299 dL_law_299 rfl ?_
                                            refine k_iload hC 300 dL_law_300 rfl ?_
                                            refine k_iconst hC 302 dL_law_302 (nI 0) (by decide) ?_
                                            refine g_callV hC hX 303 0 ([]) ((q119, .inl (D.1 21, 40, .inl (cpf (wB s1) (fun _ => 0) 40))) :: ((q125, .inl (D.1 21, 40, .inl (cpf (pB s1) (fun _ => 0) 40))) :: (wSm D m pp rr (br s1 kd) u3))) (fun uq => ((q0, .inr (3, [.ref (a 0), .ref (b 0)])) :: (wSt D a uq.1.1 uq.1.2 ++ (wSt D b uq.2.1 uq.2.2 ++ ((q119, .inl (D.1 21, 40, .inl (cpf (wB s1) (fun _ => 0) 40))) :: ((q125, .inl (D.1 21, 40, .inl (cpf (pB s1) (fun _ => 0) 40))) :: (wSm D m pp rr (br s1 kd) u3))))))) (c_X3_jar l hfl D q0 a b (br s1 kd) sb ga gb (nI k) (nI 0) hSa hWT) cw_RL_100 dL_law_303 ⟨Nat.le_of_ble_eq_true rfl, Nat.le_of_ble_eq_true rfl, (show 205028 + 3170 * i + 0 + 2770 + 0 + 1 + 1 + 1 + 1 + 1 + 1 + 1 + 1 + 4 * 40 + 2 + 92 + 1 + 1 + 2 + 2 * k + 2 ≤ 600130 by omega), (show 2665372 + 39010 * i + 0 + 36010 + 0 + 6 + 6 + 6 + 6 + 6 + 6 + 40 + 40 + 24 * 40 + 12 + 1196 + 6 + 6 + 12 + 12 * k + 12 ≤ 7301080 by omega)⟩ rfl (Nat.le_of_ble_eq_true rfl) rfl rfl rfl (by simp only [List.append_assoc, List.cons_append, List.nil_append, List.append_nil]) (fun _ => rfl) (fun _ => by simp only [List.append_assoc, List.cons_append, List.nil_append, List.append_nil]) _ rfl (fun v uq hp => ?_) (fun E hx => absurd hx (no_x (jarK0 h296 (by decide))))
                                            obtain ⟨-, rfl, euq, hSq⟩ := hp
                                            refine KJ.eqs (st' := .int (dtl (br s1 kd) (kn (nI k)) (kn (nI 0))) :: []) rfl ?_
                                            refine KJ.topi (y := (dtl (br s1 kd) k 0)) (by rw [kn_ek h296, kn_ek (by decide)]) ?_
                                            obtain ⟨⟨saq, gaq⟩, sbq, gbq⟩ := uq
                                            dsimp only at euq hSq
                                            have euq2 := euq.symm
                                            subst euq2
                                            refine KJ.eqw (ws' := ((q0, .inr (3, [.ref (a 0), .ref (b 0)])) :: (wSt D a (br s1 kd) gaq ++ (wSt D b sbq gbq ++ ((q119, .inl (D.1 21, 40, .inl (cpf (wB s1) (fun _ => 0) 40))) :: ((q125, .inl (D.1 21, 40, .inl (cpf (pB s1) (fun _ => 0) 40))) :: (wSm D m pp rr (br s1 kd) u3))))))) rfl ?_
                                            have hSa := hSq
                                            refine k_if_lt hC 306 313 dL_law_306 (by decide) (fun h306 => ?_) (fun h306 => ?_)
                                            · skip
                                              exact absurd h306 (dtl0_in hs)
                                            · skip
                                              refine k_iconst hC 309 dL_law_309 (nI 1) (by decide) ?_
                                              refine k_goto hC 310 314 dL_law_310 (by decide) ?_
                                              refine k_istore hC 314 15 [(15, .int (nI 1)), (14, .int (nI k)), (13, .int (nI (if gx < k then 1 else 0))), (12, .int (nI (oc s1 kd))), (11, .ref q125), (10, .ref q119), (9, .int (loS s1)), (8, .int ((hiS s1) + (miS s1))), (7, .int (nI (plS s1))), (6, .int (nI (s1.1.length + s1.2.1.length))), (5, .int (nI kd)), (4, .int ((cv >>> ((nI ((i / 16) * 3)) &&& 31)) + (nI (373 * i)))), (3, .int (nI i)), (2, .ref m), (1, .ref q0), (0, .ref bb)] dL_law_314 (by decide) rfl ?_
                                              refine k_aload hC 316 dL_law_316 rfl ?_
                                              refine k_iload hC 318 dL_law_318 rfl ?_
                                              refine n_zald hC 320 31 (nI 0) dL_law_320 rfl (by omega) (by decide) ((cpf_in h296).trans (wB_no hw)) ?_
                                              refine n_if_eq hC 321 332 dL_law_321 (by decide) (by omega) (fun h321 => ?_) (fun h321 => ?_)
                                              · skip
                                                refine k_aload hC 332 dL_law_332 rfl ?_
                                                refine k_iload hC 334 dL_law_334 rfl ?_
                                                refine n_zald hC 336 32 (nI 0) dL_law_336 rfl (by omega) (by decide) ((cpf_in h296).trans (pB_no hp)) ?_
                                                refine n_if_eq hC 337 345 dL_law_337 (by decide) (by omega) (fun h337 => ?_) (fun h337 => ?_)
                                                · skip
                                                  refine k_aload hC 345 dL_law_345 rfl ?_
                                                  refine k_iload hC 347 dL_law_347 rfl ?_
                                                  refine n_zald hC 349 31 (nI 0) dL_law_349 rfl (by omega) (by decide) ((cpf_in h296).trans (wB_no hw)) ?_
                                                  refine n_if_ne hC 350 367 dL_law_350 (by decide) (by omega) (fun h350 => ?_) (fun h350 => ?_)
                                                  · skip
                                                    exact absurd h350 (by decide)
                                                  · skip
                                                    refine k_iload hC 353 dL_law_353 rfl ?_
                                                    refine n_if_eq hC 355 367 dL_law_355 (by decide) (by omega) (fun h355 => ?_) (fun h355 => ?_)
                                                    · skip
                                                      exact absurd h355 (by decide)
                                                    · skip
                                                      refine k_iload hC 358 dL_law_358 rfl ?_
                                                      refine k_iload hC 360 dL_law_360 rfl ?_
                                                      refine n_icmp_eq hC 362 367 dL_law_362 (by decide) (by omega) (by omega) (fun h362 => ?_) (fun h362 => ?_)
                                                      · skip
                                                        refine k_iinc hC 367 1 (nI (k + 1)) [(14, .int (nI (k + 1))), (15, .int (nI 1)), (13, .int (nI (if gx < k then 1 else 0))), (12, .int (nI (oc s1 kd))), (11, .ref q125), (10, .ref q119), (9, .int (loS s1)), (8, .int ((hiS s1) + (miS s1))), (7, .int (nI (plS s1))), (6, .int (nI (s1.1.length + s1.2.1.length))), (5, .int (nI kd)), (4, .int ((cv >>> ((nI ((i / 16) * 3)) &&& 31)) + (nI (373 * i)))), (3, .int (nI i)), (2, .ref m), (1, .ref q0), (0, .ref bb)] dL_law_367 rfl (nI_1 _) (by decide) rfl ?_
                                                        refine k_goto hC 370 292 dL_law_370 (by decide) ?_
                                                        refine KJ.lvp [0, 2, 3, 4, 5, 6, 7, 8, 9, 10, 11, 12, 13, 14, 15] rfl ?_
                                                        have eg : (if gx < k + 1 then 1 else 0) = (if gx < k then 1 else 0) := (by by_cases z : gx < k; exact (if_pos (by omega)).trans (if_pos z).symm; exact (if_neg (by omega)).trans (if_neg z).symm)
                                                        refine KJ.eql (lv' := [(14, .int (nI (k + 1))), (13, .int (nI (if gx < k + 1 then 1 else 0))), (12, .int (nI (oc s1 kd))), (11, .ref q125), (10, .ref q119), (9, .int (loS s1)), (8, .int ((hiS s1) + (miS s1))), (7, .int (nI (plS s1))), (6, .int (nI (s1.1.length + s1.2.1.length))), (5, .int (nI kd)), (4, .int ((cv >>> ((nI ((i / 16) * 3)) &&& 31)) + (nI (373 * i)))), (3, .int (nI i)), (2, .ref m), (1, .ref q0), (0, .ref bb)]) (by rw [eg] <;> rfl) ?_
                                                        exact KJ.wide (by omega) (by omega) (ih292 (k + 1) gaq sbq gbq (by omega) (by omega) hSa)
                                                      · skip
                                                        exact absurd hkk h362
                                                · skip
                                                  exact absurd h337 (by decide)
                                              · skip
                                                exact absurd h321 (by decide)
                                          · skip
                                            refine k_aload_n hC 299 dL_law_299 rfl ?_
                                            refine k_iload hC 300 dL_law_300 rfl ?_
                                            refine k_iconst hC 302 dL_law_302 (nI 0) (by decide) ?_
                                            refine g_callV hC hX 303 0 ([]) ((q119, .inl (D.1 21, 40, .inl (cpf (wB s1) (fun _ => 0) 40))) :: ((q125, .inl (D.1 21, 40, .inl (cpf (pB s1) (fun _ => 0) 40))) :: (wSm D m pp rr (br s1 kd) u3))) (fun uq => ((q0, .inr (3, [.ref (a 0), .ref (b 0)])) :: (wSt D a uq.1.1 uq.1.2 ++ (wSt D b uq.2.1 uq.2.2 ++ ((q119, .inl (D.1 21, 40, .inl (cpf (wB s1) (fun _ => 0) 40))) :: ((q125, .inl (D.1 21, 40, .inl (cpf (pB s1) (fun _ => 0) 40))) :: (wSm D m pp rr (br s1 kd) u3))))))) (c_X3_jar l hfl D q0 a b (br s1 kd) sb ga gb (nI k) (nI 0) hSa hWT) cw_RL_100 dL_law_303 ⟨Nat.le_of_ble_eq_true rfl, Nat.le_of_ble_eq_true rfl, (show 205028 + 3170 * i + 0 + 2770 + 0 + 1 + 1 + 1 + 1 + 1 + 1 + 1 + 1 + 4 * 40 + 2 + 92 + 1 + 1 + 2 + 2 * k + 2 ≤ 600130 by omega), (show 2665372 + 39010 * i + 0 + 36010 + 0 + 6 + 6 + 6 + 6 + 6 + 6 + 40 + 40 + 24 * 40 + 12 + 1196 + 6 + 6 + 12 + 12 * k + 12 ≤ 7301080 by omega)⟩ rfl (Nat.le_of_ble_eq_true rfl) rfl rfl rfl (by simp only [List.append_assoc, List.cons_append, List.nil_append, List.append_nil]) (fun _ => rfl) (fun _ => by simp only [List.append_assoc, List.cons_append, List.nil_append, List.append_nil]) _ rfl (fun v uq hp => ?_) (fun E hx => absurd hx (no_x (jarK0 h296 (by decide))))
                                            obtain ⟨-, rfl, euq, hSq⟩ := hp
                                            refine KJ.eqs (st' := .int (dtl (br s1 kd) (kn (nI k)) (kn (nI 0))) :: []) rfl ?_
                                            refine KJ.topi (y := (dtl (br s1 kd) k 0)) (by rw [kn_ek h296, kn_ek (by decide)]) ?_
                                            obtain ⟨⟨saq, gaq⟩, sbq, gbq⟩ := uq
                                            dsimp only at euq hSq
                                            have euq2 := euq.symm
                                            subst euq2
                                            refine KJ.eqw (ws' := ((q0, .inr (3, [.ref (a 0), .ref (b 0)])) :: (wSt D a (br s1 kd) gaq ++ (wSt D b sbq gbq ++ ((q119, .inl (D.1 21, 40, .inl (cpf (wB s1) (fun _ => 0) 40))) :: ((q125, .inl (D.1 21, 40, .inl (cpf (pB s1) (fun _ => 0) 40))) :: (wSm D m pp rr (br s1 kd) u3))))))) rfl ?_
                                            have hSa := hSq
                                            refine k_if_lt hC 306 313 dL_law_306 (by decide) (fun h306 => ?_) (fun h306 => ?_)
                                            · skip
                                              refine k_iconst hC 313 dL_law_313 (nI 0) (by decide) ?_
                                              refine k_istore hC 314 15 [(15, .int (nI 0)), (14, .int (nI k)), (13, .int (nI (if gx < k then 1 else 0))), (12, .int (nI (oc s1 kd))), (11, .ref q125), (10, .ref q119), (9, .int (loS s1)), (8, .int ((hiS s1) + (miS s1))), (7, .int (nI (plS s1))), (6, .int (nI (s1.1.length + s1.2.1.length))), (5, .int (nI kd)), (4, .int ((cv >>> ((nI ((i / 16) * 3)) &&& 31)) + (nI (373 * i)))), (3, .int (nI i)), (2, .ref m), (1, .ref q0), (0, .ref bb)] dL_law_314 (by decide) rfl ?_
                                              refine k_aload hC 316 dL_law_316 rfl ?_
                                              refine k_iload hC 318 dL_law_318 rfl ?_
                                              refine n_zald hC 320 31 (nI 0) dL_law_320 rfl (by omega) (by decide) ((cpf_in h296).trans (wB_no hw)) ?_
                                              refine n_if_eq hC 321 332 dL_law_321 (by decide) (by omega) (fun h321 => ?_) (fun h321 => ?_)
                                              · skip
                                                refine k_aload hC 332 dL_law_332 rfl ?_
                                                refine k_iload hC 334 dL_law_334 rfl ?_
                                                refine n_zald hC 336 32 (nI 0) dL_law_336 rfl (by omega) (by decide) ((cpf_in h296).trans (pB_no hp)) ?_
                                                refine n_if_eq hC 337 345 dL_law_337 (by decide) (by omega) (fun h337 => ?_) (fun h337 => ?_)
                                                · skip
                                                  refine k_aload hC 345 dL_law_345 rfl ?_
                                                  refine k_iload hC 347 dL_law_347 rfl ?_
                                                  refine n_zald hC 349 31 (nI 0) dL_law_349 rfl (by omega) (by decide) ((cpf_in h296).trans (wB_no hw)) ?_
                                                  refine n_if_ne hC 350 367 dL_law_350 (by decide) (by omega) (fun h350 => ?_) (fun h350 => ?_)
                                                  · skip
                                                    exact absurd h350 (by decide)
                                                  · skip
                                                    refine k_iload hC 353 dL_law_353 rfl ?_
                                                    refine n_if_eq hC 355 367 dL_law_355 (by decide) (by omega) (fun h355 => ?_) (fun h355 => ?_)
                                                    · skip
                                                      refine k_iinc hC 367 1 (nI (k + 1)) [(14, .int (nI (k + 1))), (15, .int (nI 0)), (13, .int (nI (if gx < k then 1 else 0))), (12, .int (nI (oc s1 kd))), (11, .ref q125), (10, .ref q119), (9, .int (loS s1)), (8, .int ((hiS s1) + (miS s1))), (7, .int (nI (plS s1))), (6, .int (nI (s1.1.length + s1.2.1.length))), (5, .int (nI kd)), (4, .int ((cv >>> ((nI ((i / 16) * 3)) &&& 31)) + (nI (373 * i)))), (3, .int (nI i)), (2, .ref m), (1, .ref q0), (0, .ref bb)] dL_law_367 rfl (nI_1 _) (by decide) rfl ?_
                                                      refine k_goto hC 370 292 dL_law_370 (by decide) ?_
                                                      refine KJ.lvp [0, 2, 3, 4, 5, 6, 7, 8, 9, 10, 11, 12, 13, 14, 15] rfl ?_
                                                      have eg : (if gx < k + 1 then 1 else 0) = (if gx < k then 1 else 0) := (by by_cases z : gx < k; exact (if_pos (by omega)).trans (if_pos z).symm; exact (if_neg (by omega)).trans (if_neg z).symm)
                                                      refine KJ.eql (lv' := [(14, .int (nI (k + 1))), (13, .int (nI (if gx < k + 1 then 1 else 0))), (12, .int (nI (oc s1 kd))), (11, .ref q125), (10, .ref q119), (9, .int (loS s1)), (8, .int ((hiS s1) + (miS s1))), (7, .int (nI (plS s1))), (6, .int (nI (s1.1.length + s1.2.1.length))), (5, .int (nI kd)), (4, .int ((cv >>> ((nI ((i / 16) * 3)) &&& 31)) + (nI (373 * i)))), (3, .int (nI i)), (2, .ref m), (1, .ref q0), (0, .ref bb)]) (by rw [eg] <;> rfl) ?_
                                                      exact KJ.wide (by omega) (by omega) (ih292 (k + 1) gaq sbq gbq (by omega) (by omega) hSa)
                                                    · skip
                                                      exact absurd h355 (by decide)
                                                · skip
                                                  exact absurd h337 (by decide)
                                              · skip
                                                exact absurd h321 (by decide)
                                            · skip
                                              exact absurd (dtl0_no hs) h306
                                  exact KJ.wide (by omega) (by omega) (loop292 41 0 gaq sbq gbq (by omega) (by omega) hSa)
                                · skip
                                  exact absurd (Int32.not_lt.mp (dtl0_in hT)) h281
                            · skip
                              exact h255.elim
                          · skip
                            exact absurd rfl h248
                        · skip
                          exact h239.elim
                    · skip
                      exact absurd h206 (by omega)
              · skip
                refine k_aload hC 139 dL_law_139 rfl ?_
                refine k_iload hC 141 dL_law_141 rfl ?_
                refine k_aload_n hC 143 dL_law_143 rfl ?_
                refine k_iload hC 144 dL_law_144 rfl ?_
                refine k_iconst hC 146 dL_law_146 (nI 0) (by decide) ?_
                refine g_callV hC hX 147 0 ([]) ((q119, .inl (D.1 21, 40, .inl (cpf (wB s1) (fun _ => 0) k))) :: ((q125, .inl (D.1 21, 40, .inl (cpf (pB s1) (fun _ => 0) k))) :: (wSm D m pp rr s1 x1))) (fun uq => ((q0, .inr (3, [.ref (a 0), .ref (b 0)])) :: (wSt D a uq.1.1 uq.1.2 ++ (wSt D b uq.2.1 uq.2.2 ++ ((q119, .inl (D.1 21, 40, .inl (cpf (wB s1) (fun _ => 0) k))) :: ((q125, .inl (D.1 21, 40, .inl (cpf (pB s1) (fun _ => 0) k))) :: (wSm D m pp rr s1 x1))))))) (c_X3_jar l hfl D q0 a b s1 sb ga gb (nI k) (nI 0) hSa hW1) cw_RL_100 dL_law_147 ⟨Nat.le_of_ble_eq_true rfl, Nat.le_of_ble_eq_true rfl, (show 205028 + 3170 * i + 0 + 2770 + 0 + 1 + 1 + 1 + 1 + 1 + 1 + 1 + 1 + 4 * k + 2 ≤ 600130 by omega), (show 2665372 + 39010 * i + 0 + 36010 + 0 + 6 + 6 + 6 + 6 + 6 + 6 + 40 + 40 + 24 * k + 12 ≤ 7301080 by omega)⟩ rfl (Nat.le_of_ble_eq_true rfl) rfl rfl rfl (by simp only [List.append_assoc, List.cons_append, List.nil_append, List.append_nil]) (fun _ => rfl) (fun _ => by simp only [List.append_assoc, List.cons_append, List.nil_append, List.append_nil]) _ rfl (fun v uq hp => ?_) (fun E hx => absurd hx (no_x (jarK0 h136 (by decide))))
                obtain ⟨-, rfl, euq, hSq⟩ := hp
                refine KJ.eqs (st' := .int (dtl s1 (kn (nI k)) (kn (nI 0))) :: .int (nI k) :: .ref q119 :: []) rfl ?_
                refine KJ.topi (y := (dtl s1 k 0)) (by rw [kn_ek h136, kn_ek (by decide)]) ?_
                obtain ⟨⟨saq, gaq⟩, sbq, gbq⟩ := uq
                dsimp only at euq hSq
                have euq2 := euq.symm
                subst euq2
                refine KJ.eqw (ws' := ((q0, .inr (3, [.ref (a 0), .ref (b 0)])) :: (wSt D a s1 gaq ++ (wSt D b sbq gbq ++ ((q119, .inl (D.1 21, 40, .inl (cpf (wB s1) (fun _ => 0) k))) :: ((q125, .inl (D.1 21, 40, .inl (cpf (pB s1) (fun _ => 0) k))) :: (wSm D m pp rr s1 x1))))))) rfl ?_
                have hSa := hSq
                refine k_if_lt hC 150 157 dL_law_150 (by decide) (fun h150 => ?_) (fun h150 => ?_)
                · skip
                  have hnk : ¬ inn s1 k := fun z => dtl0_in z h150
                  refine k_iconst hC 157 dL_law_157 (nI 0) (by decide) ?_
                  refine KJ.topi (y := wB s1 k) (wB_no hnk).symm ?_
                  refine n_zast hC 158 31 ((q0, .inr (3, [.ref (a 0), .ref (b 0)])) :: (wSt D a s1 gaq ++ (wSt D b sbq gbq ++ ((q119, .inl (D.1 21, 40, .inl (upd (cpf (wB s1) (fun _ => 0) k) k (wB s1 k)))) :: ((q125, .inl (D.1 21, 40, .inl (cpf (pB s1) (fun _ => 0) k))) :: (wSm D m pp rr s1 x1)))))) dL_law_158 rfl (by omega) (by decide) (nar_wB s1 k) rfl ?_
                  rw [cpf_step]
                  refine k_aload hC 159 dL_law_159 rfl ?_
                  refine k_iload hC 161 dL_law_161 rfl ?_
                  refine k_aload_n hC 163 dL_law_163 rfl ?_
                  refine k_iload hC 164 dL_law_164 rfl ?_
                  refine k_iconst hC 166 dL_law_166 (nI 3) (by decide) ?_
                  refine g_callV hC hX 167 0 ([]) ((q119, .inl (D.1 21, 40, .inl (cpf (wB s1) (fun _ => 0) (k + 1)))) :: ((q125, .inl (D.1 21, 40, .inl (cpf (pB s1) (fun _ => 0) k))) :: (wSm D m pp rr s1 x1))) (fun uq => ((q0, .inr (3, [.ref (a 0), .ref (b 0)])) :: (wSt D a uq.1.1 uq.1.2 ++ (wSt D b uq.2.1 uq.2.2 ++ ((q119, .inl (D.1 21, 40, .inl (cpf (wB s1) (fun _ => 0) (k + 1)))) :: ((q125, .inl (D.1 21, 40, .inl (cpf (pB s1) (fun _ => 0) k))) :: (wSm D m pp rr s1 x1))))))) (c_X3_jar l hfl D q0 a b s1 sbq gaq gbq (nI k) (nI 3) hSa hW1) cw_RL_100 dL_law_167 ⟨Nat.le_of_ble_eq_true rfl, Nat.le_of_ble_eq_true rfl, (show 205028 + 3170 * i + 0 + 2770 + 0 + 1 + 1 + 1 + 1 + 1 + 1 + 1 + 1 + 4 * k + 2 + 2 ≤ 600130 by omega), (show 2665372 + 39010 * i + 0 + 36010 + 0 + 6 + 6 + 6 + 6 + 6 + 6 + 40 + 40 + 24 * k + 12 + 12 ≤ 7301080 by omega)⟩ rfl (Nat.le_of_ble_eq_true rfl) rfl rfl rfl (by simp only [List.append_assoc, List.cons_append, List.nil_append, List.append_nil]) (fun _ => rfl) (fun _ => by simp only [List.append_assoc, List.cons_append, List.nil_append, List.append_nil]) _ rfl (fun v uq hp => ?_) (fun E hx => absurd hx (no_x (jarK0 h136 (by decide))))
                  obtain ⟨-, rfl, euq, hSq⟩ := hp
                  refine KJ.eqs (st' := .int (dtl s1 (kn (nI k)) (kn (nI 3))) :: .int (nI k) :: .ref q125 :: []) rfl ?_
                  refine KJ.topi (y := (dtl s1 k 3)) (by rw [kn_ek h136, kn_ek (by decide)]) ?_
                  obtain ⟨⟨saq, gaq⟩, sbq, gbq⟩ := uq
                  dsimp only at euq hSq
                  have euq2 := euq.symm
                  subst euq2
                  refine KJ.eqw (ws' := ((q0, .inr (3, [.ref (a 0), .ref (b 0)])) :: (wSt D a s1 gaq ++ (wSt D b sbq gbq ++ ((q119, .inl (D.1 21, 40, .inl (cpf (wB s1) (fun _ => 0) (k + 1)))) :: ((q125, .inl (D.1 21, 40, .inl (cpf (pB s1) (fun _ => 0) k))) :: (wSm D m pp rr s1 x1))))))) rfl ?_
                  have hSa := hSq
                  refine k_if_le hC 170 177 dL_law_170 (by decide) (fun h170 => ?_) (fun h170 => ?_)
                  · skip
                    have hnp : ¬ (inn s1 k ∧ 0 < piS s1 k) := fun z => dtl3_p hW1 z h170
                    refine k_iconst hC 177 dL_law_177 (nI 0) (by decide) ?_
                    refine KJ.topi (y := pB s1 k) (pB_no hnp).symm ?_
                    refine n_zast hC 178 32 ((q0, .inr (3, [.ref (a 0), .ref (b 0)])) :: (wSt D a s1 gaq ++ (wSt D b sbq gbq ++ ((q119, .inl (D.1 21, 40, .inl (cpf (wB s1) (fun _ => 0) (k + 1)))) :: ((q125, .inl (D.1 21, 40, .inl (upd (cpf (pB s1) (fun _ => 0) k) k (pB s1 k)))) :: (wSm D m pp rr s1 x1)))))) dL_law_178 rfl (by omega) (by decide) (nar_pB s1 k) rfl ?_
                    rw [cpf_step]
                    refine k_iinc hC 179 0 (nI (k + 1)) [(12, .int (nI (k + 1))), (11, .ref q125), (10, .ref q119), (9, .int (loS s1)), (8, .int ((hiS s1) + (miS s1))), (7, .int (nI (plS s1))), (6, .int (nI (s1.1.length + s1.2.1.length))), (5, .int (nI kd)), (4, .int ((cv >>> ((nI ((i / 16) * 3)) &&& 31)) + (nI (373 * i)))), (3, .int (nI i)), (2, .ref m), (1, .ref q0), (0, .ref bb)] dL_law_179 rfl (nI_1 _) (by decide) rfl ?_
                    refine k_goto hC 182 132 dL_law_182 (by decide) ?_
                    exact KJ.wide (by omega) (by omega) (ih132 (k + 1) gaq sbq gbq (by omega) (by omega) hSa)
                  · skip
                    have hpp : inn s1 k ∧ 0 < piS s1 k := Classical.byContradiction (fun z => h170 (dtl3_n z))
                    refine k_iconst hC 173 dL_law_173 (nI 1) (by decide) ?_
                    refine k_goto hC 174 178 dL_law_174 (by decide) ?_
                    refine KJ.topi (y := pB s1 k) (pB_in hpp).symm ?_
                    refine n_zast hC 178 32 ((q0, .inr (3, [.ref (a 0), .ref (b 0)])) :: (wSt D a s1 gaq ++ (wSt D b sbq gbq ++ ((q119, .inl (D.1 21, 40, .inl (cpf (wB s1) (fun _ => 0) (k + 1)))) :: ((q125, .inl (D.1 21, 40, .inl (upd (cpf (pB s1) (fun _ => 0) k) k (pB s1 k)))) :: (wSm D m pp rr s1 x1)))))) dL_law_178 rfl (by omega) (by decide) (nar_pB s1 k) rfl ?_
                    rw [cpf_step]
                    refine k_iinc hC 179 0 (nI (k + 1)) [(12, .int (nI (k + 1))), (11, .ref q125), (10, .ref q119), (9, .int (loS s1)), (8, .int ((hiS s1) + (miS s1))), (7, .int (nI (plS s1))), (6, .int (nI (s1.1.length + s1.2.1.length))), (5, .int (nI kd)), (4, .int ((cv >>> ((nI ((i / 16) * 3)) &&& 31)) + (nI (373 * i)))), (3, .int (nI i)), (2, .ref m), (1, .ref q0), (0, .ref bb)] dL_law_179 rfl (nI_1 _) (by decide) rfl ?_
                    refine k_goto hC 182 132 dL_law_182 (by decide) ?_
                    exact KJ.wide (by omega) (by omega) (ih132 (k + 1) gaq sbq gbq (by omega) (by omega) hSa)
                · skip
                  have hik : inn s1 k := Classical.byContradiction (fun z => h150 (dtl0_no z))
                  refine k_iconst hC 153 dL_law_153 (nI 1) (by decide) ?_
                  refine k_goto hC 154 158 dL_law_154 (by decide) ?_
                  refine KJ.topi (y := wB s1 k) (wB_in hik).symm ?_
                  refine n_zast hC 158 31 ((q0, .inr (3, [.ref (a 0), .ref (b 0)])) :: (wSt D a s1 gaq ++ (wSt D b sbq gbq ++ ((q119, .inl (D.1 21, 40, .inl (upd (cpf (wB s1) (fun _ => 0) k) k (wB s1 k)))) :: ((q125, .inl (D.1 21, 40, .inl (cpf (pB s1) (fun _ => 0) k))) :: (wSm D m pp rr s1 x1)))))) dL_law_158 rfl (by omega) (by decide) (nar_wB s1 k) rfl ?_
                  rw [cpf_step]
                  refine k_aload hC 159 dL_law_159 rfl ?_
                  refine k_iload hC 161 dL_law_161 rfl ?_
                  refine k_aload_n hC 163 dL_law_163 rfl ?_
                  refine k_iload hC 164 dL_law_164 rfl ?_
                  refine k_iconst hC 166 dL_law_166 (nI 3) (by decide) ?_
                  refine g_callV hC hX 167 0 ([]) ((q119, .inl (D.1 21, 40, .inl (cpf (wB s1) (fun _ => 0) (k + 1)))) :: ((q125, .inl (D.1 21, 40, .inl (cpf (pB s1) (fun _ => 0) k))) :: (wSm D m pp rr s1 x1))) (fun uq => ((q0, .inr (3, [.ref (a 0), .ref (b 0)])) :: (wSt D a uq.1.1 uq.1.2 ++ (wSt D b uq.2.1 uq.2.2 ++ ((q119, .inl (D.1 21, 40, .inl (cpf (wB s1) (fun _ => 0) (k + 1)))) :: ((q125, .inl (D.1 21, 40, .inl (cpf (pB s1) (fun _ => 0) k))) :: (wSm D m pp rr s1 x1))))))) (c_X3_jar l hfl D q0 a b s1 sbq gaq gbq (nI k) (nI 3) hSa hW1) cw_RL_100 dL_law_167 ⟨Nat.le_of_ble_eq_true rfl, Nat.le_of_ble_eq_true rfl, (show 205028 + 3170 * i + 0 + 2770 + 0 + 1 + 1 + 1 + 1 + 1 + 1 + 1 + 1 + 4 * k + 2 + 2 ≤ 600130 by omega), (show 2665372 + 39010 * i + 0 + 36010 + 0 + 6 + 6 + 6 + 6 + 6 + 6 + 40 + 40 + 24 * k + 12 + 12 ≤ 7301080 by omega)⟩ rfl (Nat.le_of_ble_eq_true rfl) rfl rfl rfl (by simp only [List.append_assoc, List.cons_append, List.nil_append, List.append_nil]) (fun _ => rfl) (fun _ => by simp only [List.append_assoc, List.cons_append, List.nil_append, List.append_nil]) _ rfl (fun v uq hp => ?_) (fun E hx => absurd hx (no_x (jarK0 h136 (by decide))))
                  obtain ⟨-, rfl, euq, hSq⟩ := hp
                  refine KJ.eqs (st' := .int (dtl s1 (kn (nI k)) (kn (nI 3))) :: .int (nI k) :: .ref q125 :: []) rfl ?_
                  refine KJ.topi (y := (dtl s1 k 3)) (by rw [kn_ek h136, kn_ek (by decide)]) ?_
                  obtain ⟨⟨saq, gaq⟩, sbq, gbq⟩ := uq
                  dsimp only at euq hSq
                  have euq2 := euq.symm
                  subst euq2
                  refine KJ.eqw (ws' := ((q0, .inr (3, [.ref (a 0), .ref (b 0)])) :: (wSt D a s1 gaq ++ (wSt D b sbq gbq ++ ((q119, .inl (D.1 21, 40, .inl (cpf (wB s1) (fun _ => 0) (k + 1)))) :: ((q125, .inl (D.1 21, 40, .inl (cpf (pB s1) (fun _ => 0) k))) :: (wSm D m pp rr s1 x1))))))) rfl ?_
                  have hSa := hSq
                  refine k_if_le hC 170 177 dL_law_170 (by decide) (fun h170 => ?_) (fun h170 => ?_)
                  · skip
                    have hnp : ¬ (inn s1 k ∧ 0 < piS s1 k) := fun z => dtl3_p hW1 z h170
                    refine k_iconst hC 177 dL_law_177 (nI 0) (by decide) ?_
                    refine KJ.topi (y := pB s1 k) (pB_no hnp).symm ?_
                    refine n_zast hC 178 32 ((q0, .inr (3, [.ref (a 0), .ref (b 0)])) :: (wSt D a s1 gaq ++ (wSt D b sbq gbq ++ ((q119, .inl (D.1 21, 40, .inl (cpf (wB s1) (fun _ => 0) (k + 1)))) :: ((q125, .inl (D.1 21, 40, .inl (upd (cpf (pB s1) (fun _ => 0) k) k (pB s1 k)))) :: (wSm D m pp rr s1 x1)))))) dL_law_178 rfl (by omega) (by decide) (nar_pB s1 k) rfl ?_
                    rw [cpf_step]
                    refine k_iinc hC 179 0 (nI (k + 1)) [(12, .int (nI (k + 1))), (11, .ref q125), (10, .ref q119), (9, .int (loS s1)), (8, .int ((hiS s1) + (miS s1))), (7, .int (nI (plS s1))), (6, .int (nI (s1.1.length + s1.2.1.length))), (5, .int (nI kd)), (4, .int ((cv >>> ((nI ((i / 16) * 3)) &&& 31)) + (nI (373 * i)))), (3, .int (nI i)), (2, .ref m), (1, .ref q0), (0, .ref bb)] dL_law_179 rfl (nI_1 _) (by decide) rfl ?_
                    refine k_goto hC 182 132 dL_law_182 (by decide) ?_
                    exact KJ.wide (by omega) (by omega) (ih132 (k + 1) gaq sbq gbq (by omega) (by omega) hSa)
                  · skip
                    have hpp : inn s1 k ∧ 0 < piS s1 k := Classical.byContradiction (fun z => h170 (dtl3_n z))
                    refine k_iconst hC 173 dL_law_173 (nI 1) (by decide) ?_
                    refine k_goto hC 174 178 dL_law_174 (by decide) ?_
                    refine KJ.topi (y := pB s1 k) (pB_in hpp).symm ?_
                    refine n_zast hC 178 32 ((q0, .inr (3, [.ref (a 0), .ref (b 0)])) :: (wSt D a s1 gaq ++ (wSt D b sbq gbq ++ ((q119, .inl (D.1 21, 40, .inl (cpf (wB s1) (fun _ => 0) (k + 1)))) :: ((q125, .inl (D.1 21, 40, .inl (upd (cpf (pB s1) (fun _ => 0) k) k (pB s1 k)))) :: (wSm D m pp rr s1 x1)))))) dL_law_178 rfl (by omega) (by decide) (nar_pB s1 k) rfl ?_
                    rw [cpf_step]
                    refine k_iinc hC 179 0 (nI (k + 1)) [(12, .int (nI (k + 1))), (11, .ref q125), (10, .ref q119), (9, .int (loS s1)), (8, .int ((hiS s1) + (miS s1))), (7, .int (nI (plS s1))), (6, .int (nI (s1.1.length + s1.2.1.length))), (5, .int (nI kd)), (4, .int ((cv >>> ((nI ((i / 16) * 3)) &&& 31)) + (nI (373 * i)))), (3, .int (nI i)), (2, .ref m), (1, .ref q0), (0, .ref bb)] dL_law_179 rfl (nI_1 _) (by decide) rfl ?_
                    refine k_goto hC 182 132 dL_law_182 (by decide) ?_
                    exact KJ.wide (by omega) (by omega) (ih132 (k + 1) gaq sbq gbq (by omega) (by omega) hSa)
          exact KJ.wide (by omega) (by omega) (loop132 41 0 gaq sbq gbq (by omega) (by omega) hSa)
        · skip
          exact absurd h58 (by decide)
  exact KJ.wide (by omega) (by omega) (loop22 61 0 s g s2 g2 x (by omega) (by omega) hO)
