/-! The law: a pantry that cells choose; what a fetch does, as the law asks it -/
theorem wSt_len (D : va_G) (a : Nat → Nat) (s : PS) (g : PG) : (wSt D a s g).length = 15 := by
  obtain ⟨N, T, A, B, to, pi, fe, pl, go, hi, mi, re, lo⟩ := s
  obtain ⟨g0, g1, g2, g3, g4, g5, g6⟩ := g
  rfl
theorem lw_le {D : va_G} {a b : Nat → Nat} {c c2 : Nat × va_E} {m p r : Nat} {s s2 s3 s4 : PS} {g g2 g3 g4 : PG} {x x2 : SX} (h : (xL x).length ≤ (xL x2).length) : (c :: (wSt D a s g ++ (wSt D b s2 g2 ++ wSm D m p r s x))).length ≤ (c2 :: (wSt D a s3 g3 ++ (wSt D b s4 g4 ++ wSm D m p r s3 x2))).length := by
  simp only [List.length_cons, List.length_append, wSt_len, wSm_len]
  omega
theorem lw_le0 {D : va_G} {a b : Nat → Nat} {c c2 : Nat × va_E} {m p r : Nat} {s s2 s3 s4 : PS} {g g2 g3 g4 : PG} {x2 : SX} : (c :: (wSt D a s g ++ wSt D b s2 g2)).length ≤ (c2 :: (wSt D a s3 g3 ++ (wSt D b s4 g4 ++ wSm D m p r s3 x2))).length := by
  simp only [List.length_cons, List.length_append, wSt_len, wSm_len]
  omega
theorem init_IJ : IJ initS := ⟨by decide, by decide⟩
theorem hit_f (s : PS) (k : Nat) : hiS (hitS s k) + miS (hitS s k) = (hiS s + miS s) + 1 ∧ loS (hitS s k) = loS s ∧ jrs (hitS s k) = jrs s ∧ ∀ y : Nat, inn (hitS s k) y ↔ inn s y := by
  obtain ⟨N, T, A, B, to, pi, fe, pl, go, hi, mi, re, lo⟩ := s
  refine ⟨?_, rfl, rfl, fun y => Iff.rfl⟩
  show (hi + 1) + mi = (hi + mi) + 1
  rw [Int32.add_assoc, Int32.add_comm 1 mi, ← Int32.add_assoc]
theorem oc_in (s : PS) (k : Nat) : oc s k = 0 ↔ inn s k := by
  obtain ⟨N, T, A, B, to, pi, fe, pl, go, hi, mi, re, lo⟩ := s
  show (if k ∈ N ∨ k ∈ T then 0 else _) = 0 ↔ (k ∈ N ∨ k ∈ T)
  constructor
  · intro h
    refine Classical.byContradiction (fun z => ?_)
    rw [if_neg z] at h
    split at h
    · cases h
    · split at h
      · cases h
      · split at h <;> cases h
  · intro h
    exact if_pos h
theorem inn_lt {s : PS} (h : WF s) {k : Nat} (hk : inn s k) : k < 40 := by
  obtain ⟨N, T, A, B, to, pi, fe, pl, go, hi, mi, re, lo⟩ := s
  exact hk.elim (h.1 k) (h.2.1 k)
/-- what a fetch does, as the law asks it: gx the one that is gone, 40 if none is -/
theorem fetch_f {s : PS} (hW : WF s) (hI : IJ s) (k : Nat) : ∃ gx : Nat, (∀ j : Nat, inn s j → ¬ inn (br s k) j → j = gx) ∧ (gx < 40 → inn s gx ∧ ¬ inn (br s k) gx) ∧ (∀ j : Nat, inn s j → 0 < piS s j → inn (br s k) j) ∧ (∀ j : Nat, ¬ inn s j → inn (br s k) j → j = k) ∧
    ((oc s k = 0 ∧ inn s k ∧ inn (br s k) k ∧ hiS (br s k) + miS (br s k) = (hiS s + miS s) + 1 ∧ loS (br s k) = loS s ∧ jrs (br s k) = jrs s ∧ gx = 40) ∨
     (oc s k = 4 ∧ ¬ inn s k ∧ hiS (br s k) + miS (br s k) = hiS s + miS s ∧ loS (br s k) = loS s ∧ jrs (br s k) = jrs s ∧ gx = 40) ∨
     (0 < oc s k ∧ oc s k < 4 ∧ ¬ inn s k ∧ inn (br s k) k ∧ hiS (br s k) + miS (br s k) = (hiS s + miS s) + 1 ∧ ((¬ jrs s = plS s ∧ loS (br s k) = loS s ∧ jrs (br s k) = jrs s + 1 ∧ gx = 40) ∨ (jrs s = plS s ∧ (∃ i : Nat, 1 ≤ i ∧ i ≤ 3 * jrs s ∧ loS (br s k) = loS s + nI i) ∧ jrs (br s k) = jrs s ∧ gx < 40)))) := by
  by_cases h0 : oc s k = 0
  · have hf := hit_f s k
    have hi := (oc_in s k).mp h0
    rw [br_0 h0]
    exact ⟨40, fun j h1 h2 => absurd ((hf.2.2.2 j).mpr h1) h2, fun z => absurd z (by decide), fun j h1 _ => (hf.2.2.2 j).mpr h1, fun j h1 h2 => absurd ((hf.2.2.2 j).mp h2) h1, Or.inl ⟨h0, hi, (hf.2.2.2 k).mpr hi, hf.1, hf.2.1, hf.2.2.1, rfl⟩⟩
  · have hni : ¬ inn s k := fun z => h0 ((oc_in s k).mpr z)
    by_cases h4 : oc s k = 4
    · rw [br_4 h4]
      exact ⟨40, fun j h1 h2 => absurd h1 h2, fun z => absurd z (by decide), fun j h1 _ => h1, fun j h1 h2 => absurd h2 h1, Or.inr (Or.inl ⟨h4, hni, rfl, rfl, rfl, rfl⟩)⟩
    · have hlt := oc_lt s k
      obtain ⟨f1, f2, f3, -, x, i, f4, f5, f6⟩ := br_fct hW h0 h4
      have hsum : hiS (br s k) + miS (br s k) = (hiS s + miS s) + 1 := by rw [f1, f2, Int32.add_assoc]
      have hT : inn (br s k) k := (f6 k).mpr (Or.inr rfl)
      have hD : ∀ j : Nat, ¬ inn s j → inn (br s k) j → j = k := fun j h1 h2 => ((f6 j).mp h2).elim (fun z => absurd z.1 h1) id
      have hA : ∀ j : Nat, inn s j → ¬ inn (br s k) j → j = x := fun j h1 h2 => Classical.byContradiction (fun z => h2 ((f6 j).mpr (Or.inl ⟨h1, z⟩)))
      by_cases hf : plS s ≤ jrs s
      · obtain ⟨g1, g2, g3, g4, g5⟩ := f4 hf
        rw [if_pos hf] at f3
        have hxk : x ≠ k := fun z => hni (z ▸ g1)
        exact ⟨x, hA, fun _ => ⟨g1, fun z => ((f6 x).mp z).elim (fun y => y.2 rfl) hxk⟩, fun j h1 h2 => (f6 j).mpr (Or.inl ⟨h1, fun z => by rw [z, g2] at h2; exact absurd h2 (by decide)⟩), hD, Or.inr (Or.inr ⟨by omega, by omega, hni, hT, hsum, Or.inr ⟨Nat.le_antisymm hI.1 hf, ⟨i, g3, g4, g5⟩, f3, inn_lt hW g1⟩⟩)⟩
      · obtain ⟨rfl, g2⟩ := f5 hf
        rw [if_neg hf] at f3
        have hne : ∀ j : Nat, inn s j → j ≠ 40 := fun j h1 z => by have := inn_lt hW h1; omega
        exact ⟨40, hA, fun z => absurd z (by decide), fun j h1 _ => (f6 j).mpr (Or.inl ⟨h1, hne j h1⟩), hD, Or.inr (Or.inr ⟨by omega, by omega, hni, hT, hsum, Or.inl ⟨fun z => hf (by omega), g2, f3, rfl⟩⟩)⟩
theorem dtl0_in {s : PS} {k : Nat} (h : inn s k) : ¬ dtl s k 0 < 0 := by
  obtain ⟨N, T, A, B, to, pi, fe, pl, go, hi, mi, re, lo⟩ := s
  have h2 : k ∈ N ∨ k ∈ T := h
  show ¬ (if k ∈ N ∨ k ∈ T then (if k ∈ N then nI 0 else nI 1) else -1) < 0
  rw [if_pos h2]
  split <;> decide
theorem dtl0_no {s : PS} {k : Nat} (h : ¬ inn s k) : dtl s k 0 < 0 := by
  obtain ⟨N, T, A, B, to, pi, fe, pl, go, hi, mi, re, lo⟩ := s
  have h2 : ¬ (k ∈ N ∨ k ∈ T) := h
  show (if k ∈ N ∨ k ∈ T then (if k ∈ N then nI 0 else nI 1) else -1) < 0
  rw [if_neg h2]
  decide
theorem dtl3_p {s : PS} (hW : WF s) {k : Nat} (h : inn s k ∧ 0 < piS s k) : ¬ dtl s k 3 ≤ 0 := by
  have h9 := hW.p9S k
  obtain ⟨N, T, A, B, to, pi, fe, pl, go, hi, mi, re, lo⟩ := s
  have h2 : k ∈ N ∨ k ∈ T := h.1
  have h3 : 0 < pi k := h.2
  have h4 : pi k ≤ 9 := h9
  show ¬ (if k ∈ N ∨ k ∈ T then nI (pi k) else -1) ≤ 0
  rw [if_pos h2, ← nI_0, nI_leI (by omega) (by decide)]
  omega
theorem dtl3_n {s : PS} {k : Nat} (h : ¬ (inn s k ∧ 0 < piS s k)) : dtl s k 3 ≤ 0 := by
  obtain ⟨N, T, A, B, to, pi, fe, pl, go, hi, mi, re, lo⟩ := s
  show (if k ∈ N ∨ k ∈ T then nI (pi k) else -1) ≤ 0
  by_cases h2 : k ∈ N ∨ k ∈ T
  · have h3 : ¬ 0 < pi k := fun z => h ⟨h2, z⟩
    rw [if_pos h2, show pi k = 0 by omega]
    decide
  · rw [if_neg h2]
    decide
noncomputable def wB (s : PS) (k : Nat) : Int32 := @ite _ (inn s k) (Classical.propDecidable _) (nI 1) (nI 0)
noncomputable def pB (s : PS) (k : Nat) : Int32 := @ite _ (inn s k ∧ 0 < piS s k) (Classical.propDecidable _) (nI 1) (nI 0)
theorem wB_in {s : PS} {k : Nat} (h : inn s k) : wB s k = nI 1 := if_pos h
theorem wB_no {s : PS} {k : Nat} (h : ¬ inn s k) : wB s k = nI 0 := if_neg h
theorem pB_in {s : PS} {k : Nat} (h : inn s k ∧ 0 < piS s k) : pB s k = nI 1 := if_pos h
theorem pB_no {s : PS} {k : Nat} (h : ¬ (inn s k ∧ 0 < piS s k)) : pB s k = nI 0 := if_neg h
theorem nar_wB (s : PS) (k : Nat) : vp_nar .boolean (wB s k) = wB s k := by
  by_cases h : inn s k
  · rw [wB_in h]; decide
  · rw [wB_no h]; decide
theorem nar_pB (s : PS) (k : Nat) : vp_nar .boolean (pB s k) = pB s k := by
  by_cases h : inn s k ∧ 0 < piS s k
  · rw [pB_in h]; decide
  · rw [pB_no h]; decide
theorem add_sub_cl (a b : Int32) : (a + b) - a = b := by rw [Int32.add_comm, Int32.add_sub_cancel]
theorem add_ne {a : Int32} {i : Nat} (h1 : 1 ≤ i) (h2 : i < 2147483648) : a + nI i ≠ a := fun h => by
  have h3 := add_sub_cl a (nI i)
  rw [h, Int32.sub_self, ← nI_0] at h3
  have := (nI_eq (by decide) h2).mp h3
  omega
theorem pnd_jr (s : PS) : pnd s ≤ jrs s := by
  obtain ⟨N, T, A, B, to, pi, fe, pl, go, hi, mi, re, lo⟩ := s
  exact Nat.add_le_add (pc_le pi N) (pc_le pi T)
set_option maxHeartbeats 1000000 in
set_option maxRecDepth 100000 in
/-- build -/
theorem c_L_build (l : Launch) (hfl : l.stackTraces = false) (D : va_G) (bb LS : Nat) (xs : Nat → Int32) (h : Nat) (a b : Nat → Nat) (s2 : PS) (g g2 : PG) (hLS : LS ≤ 260) (hS : SR initS g) : MS l yL_build cL_build 5 (some (.object "PinnedPantryLaw$Sim")) 10 190 D bb LS xs [.ref h, .ref bb] ((h, .inr (3, [.ref (a 0), .ref (b 0)])) :: (wSt D a initS g ++ wSt D b s2 g2)) (fun v (u : Nat × Nat × Nat × PS × PG × PS × PG × SX) => v = some (.ref u.1) ∧ OKs u.2.2.2.1 u.2.2.2.2.1 u.2.2.2.2.2.2.2) (fun u => ((h, .inr (3, [.ref (a 0), .ref (b 0)])) :: (wSt D a u.2.2.2.1 u.2.2.2.2.1 ++ (wSt D b u.2.2.2.2.2.1 u.2.2.2.2.2.2.1 ++ (wSm D u.1 u.2.1 u.2.2.1 u.2.2.2.1 u.2.2.2.2.2.2.2))))) 204987 2664752 := by
  refine MS.enter hfl (by decide) [(0, .ref h), (1, .ref bb)] rfl (Nat.le_of_ble_eq_true rfl) (fun G hC hE hX hZ => ?_)
  have hC : CX G D cL_build RL 5 := hC
  refine k_new hC 0 5 [.int 0, .int 0, .int 0, .int 0, .int 0, .int 0, .null, .null] dL_build_0 rfl inlX5 tyX5_ok wq_3_1 wq_3_2 wq_3_3 (fun j hj => by rcases (show j = 0 ∨ j = 1 ∨ j = 2 ∨ j = 3 ∨ j = 4 ∨ j = 5 ∨ j = 6 ∨ j = 7 by omega) with rfl | rfl | rfl | rfl | rfl | rfl | rfl | rfl <;> rfl) ⟨Nat.le_of_ble_eq_true rfl, Nat.le_of_ble_eq_true rfl⟩ (fun q0 => ?_)
  refine KJ.eqw (ws' := ((h, .inr (3, [.ref (a 0), .ref (b 0)])) :: (wSt D a initS g ++ (wSt D b s2 g2 ++ ((q0, .inr (5, [.int 0, .int 0, .int 0, .int 0, .int 0, .int 0, .null, .null])) :: []))))) rfl ?_
  refine k_dup hC 3 dL_build_3 rfl ?_
  refine f_callINe hC 4 ((h, .inr (3, [.ref (a 0), .ref (b 0)])) :: (wSt D a initS g ++ wSt D b s2 g2)) (fun u => ((h, .inr (3, [.ref (a 0), .ref (b 0)])) :: (wSt D a initS g ++ (wSt D b s2 g2 ++ (wSm D q0 u.1 u.2.1 initS u.2.2))))) (s_init l D q0) hC.kt.2.2.2.2.2.2.2.2.1 cni_X5_init dL_build_4 ⟨Nat.le_of_ble_eq_true rfl, Nat.le_of_ble_eq_true rfl, Nat.le_of_ble_eq_true rfl, Nat.le_of_ble_eq_true rfl⟩ rfl (Nat.le_of_ble_eq_true rfl) (by simp only [List.append_assoc, List.cons_append, List.nil_append, List.append_nil]) (fun _ => by rw [wSm_len]; simp only [List.length_singleton]; omega) (fun _ => by simp only [List.append_assoc, List.cons_append, List.nil_append, List.append_nil]) _ rfl (fun v u hp => ?_)
  obtain ⟨rfl, hJi⟩ := hp
  refine KJ.eqs (st' := .ref q0 :: []) rfl ?_
  obtain ⟨pp, rr, x⟩ := u
  dsimp only at hJi
  refine KJ.eqw (ws' := ((h, .inr (3, [.ref (a 0), .ref (b 0)])) :: (wSt D a initS g ++ (wSt D b s2 g2 ++ (wSm D q0 pp rr initS x))))) rfl ?_
  have hO : OKs initS g x := ⟨hS, init_WF, hJi, init_IJ⟩
  refine k_astore_n hC 7 2 [(2, .ref q0), (0, .ref h), (1, .ref bb)] dL_build_7 rfl (by decide) rfl ?_
  refine k_bipush hC 8 dL_build_8 (nI 15) (by decide) ?_
  refine k_aload_n hC 10 dL_build_10 rfl ?_
  refine k_iconst hC 11 dL_build_11 (nI 0) (by decide) ?_
  refine fs_callS hC hX hZ 12 ((h, .inr (3, [.ref (a 0), .ref (b 0)])) :: (wSt D a initS g ++ (wSt D b s2 g2 ++ (wSm D q0 pp rr initS x)))) (fun (cv : Int32) => ((h, .inr (3, [.ref (a 0), .ref (b 0)])) :: (wSt D a initS g ++ (wSt D b s2 g2 ++ (wSm D q0 pp rr initS x))))) (c_L_cell l hfl D bb LS xs 0 hLS (by decide)) cw_RL_84 dL_build_12 ⟨Nat.le_of_ble_eq_true rfl, Nat.le_of_ble_eq_true rfl, Nat.le_of_ble_eq_true rfl, Nat.le_of_ble_eq_true rfl⟩ rfl (Nat.le_of_ble_eq_true rfl) (by simp only [List.append_assoc, List.cons_append, List.nil_append, List.append_nil]) (fun _ _ _ => Nat.le_refl _) (fun _ => by simp only [List.append_assoc, List.cons_append, List.nil_append, List.append_nil]) _ rfl (fun v (cv : Int32) hp => ?_)
  obtain rfl := hp
  refine KJ.eqs (st' := .int cv :: .int (nI 15) :: []) rfl ?_
  refine k_bipush hC 15 dL_build_15 (nI 60) (by decide) ?_
  refine f_callS hC 17 ([]) ((h, .inr (3, [.ref (a 0), .ref (b 0)])) :: (wSt D a initS g ++ (wSt D b s2 g2 ++ (wSm D q0 pp rr initS x)))) (fun (nb : Nat) => ((h, .inr (3, [.ref (a 0), .ref (b 0)])) :: (wSt D a initS g ++ (wSt D b s2 g2 ++ (wSm D q0 pp rr initS x))))) (c_L_below l D _ 60 (by decide) (by decide)) cw_RL_19 dL_build_17 ⟨Nat.le_of_ble_eq_true rfl, Nat.le_of_ble_eq_true rfl, Nat.le_of_ble_eq_true rfl, Nat.le_of_ble_eq_true rfl⟩ rfl (Nat.le_of_ble_eq_true rfl) rfl (fun _ => rfl) (fun _ => rfl) _ rfl (fun v (nb : Nat) hp => ?_)
  obtain ⟨rfl, hnb⟩ := hp
  refine KJ.eqs (st' := .int (nI nb) :: .int (nI 15) :: []) rfl ?_
  refine n_iadd hC 20 (15 + nb) dL_build_20 rfl ?_
  refine k_istore_n hC 21 3 [(3, .int (nI (15 + nb))), (2, .ref q0), (0, .ref h), (1, .ref bb)] dL_build_21 rfl (by decide) rfl ?_
  refine k_iconst hC 22 dL_build_22 (nI 0) (by decide) ?_
  refine k_istore hC 23 4 [(4, .int (nI 0)), (3, .int (nI (15 + nb))), (2, .ref q0), (0, .ref h), (1, .ref bb)] dL_build_23 (by decide) rfl ?_
  have loop25 : ∀ (nn25 : Nat) (i : Nat) (s : PS) (g : PG) (s2 : PS) (g2 : PG) (x : SX), 15 + nb - i < nn25 → i ≤ 15 + nb → OKs s g x → KJ l G D ({ frames := 10, cells := 204987, slots := 2664752, locals := 190 } : Room) 5 (7 + 2770 * i) (12 + 36010 * i) ((h, .inr (3, [.ref (a 0), .ref (b 0)])) :: (wSt D a s g ++ (wSt D b s2 g2 ++ (wSm D q0 pp rr s x)))) [(4, .int (nI i)), (3, .int (nI (15 + nb))), (2, .ref q0), (0, .ref h), (1, .ref bb)] 25 ([]) := by
    intro nn25
    induction nn25 with
    | zero => intro i s g s2 g2 x h; exact absurd h (Nat.not_lt_zero _)
    | succ nn25 ih25 =>
      intro i s g s2 g2 x hn25 hi hO
      refine k_iload hC 25 dL_build_25 rfl ?_
      refine k_iload_n hC 27 dL_build_27 rfl ?_
      refine n_icmp_ge hC 28 71 dL_build_28 (by decide) (by omega) (by omega) (fun h28 => ?_) (fun h28 => ?_)
      · skip
        refine k_aload_n hC 71 dL_build_71 rfl ?_
        exact k_aret hC hE 72 (q0, pp, rr, s, g, s2, g2, x) dL_build_72 (Or.inl ⟨_, rfl⟩) (⟨rfl, hO⟩) rfl ⟨(show 7 + 2770 * i ≤ 204987 by omega), (show 12 + 36010 * i ≤ 2664752 by omega)⟩
      · skip
        refine k_aload_n hC 31 dL_build_31 rfl ?_
        refine k_aload_n hC 32 dL_build_32 rfl ?_
        refine k_aload_n hC 33 dL_build_33 rfl ?_
        refine k_iload hC 34 dL_build_34 rfl ?_
        refine k_bipush hC 36 dL_build_36 (nI 16) (by decide) ?_
        refine k_irem hC 38 dL_build_38 (by decide) (KJ.topi (y := (nI (i % 16))) (pk_rem (by omega) (by decide) (by decide)) ?_)
        refine fs_callS hC hX hZ 39 ((h, .inr (3, [.ref (a 0), .ref (b 0)])) :: (wSt D a s g ++ (wSt D b s2 g2 ++ (wSm D q0 pp rr s x)))) (fun (cv : Int32) => ((h, .inr (3, [.ref (a 0), .ref (b 0)])) :: (wSt D a s g ++ (wSt D b s2 g2 ++ (wSm D q0 pp rr s x))))) (c_L_cell l hfl D bb LS xs (i % 16) hLS (by omega)) cw_RL_84 dL_build_39 ⟨Nat.le_of_ble_eq_true rfl, Nat.le_of_ble_eq_true rfl, (show 7 + 2770 * i + 0 ≤ 204987 by omega), (show 12 + 36010 * i + 0 ≤ 2664752 by omega)⟩ rfl (Nat.le_of_ble_eq_true rfl) (by simp only [List.append_assoc, List.cons_append, List.nil_append, List.append_nil]) (fun _ _ _ => Nat.le_refl _) (fun _ => by simp only [List.append_assoc, List.cons_append, List.nil_append, List.append_nil]) _ rfl (fun v (cv : Int32) hp => ?_)
        obtain rfl := hp
        refine KJ.eqs (st' := .int cv :: .ref q0 :: .ref h :: []) rfl ?_
        refine k_iload hC 42 dL_build_42 rfl ?_
        refine k_bipush hC 44 dL_build_44 (nI 16) (by decide) ?_
        refine k_idiv hC 46 dL_build_46 (by decide) (KJ.topi (y := (nI (i / 16))) (pk_div (by omega) (by decide) (by decide)) ?_)
        refine k_iconst hC 47 dL_build_47 (nI 3) (by decide) ?_
        refine n_imul hC 48 ((i / 16) * 3) dL_build_48 rfl ?_
        refine k_ishr hC 49 dL_build_49 (KJ.topi (y := (cv >>> ((nI ((i / 16) * 3)) &&& 31))) rfl ?_)
        refine k_sipush hC 50 dL_build_50 (nI 373) (by decide) ?_
        refine k_iload hC 53 dL_build_53 rfl ?_
        refine n_imul hC 55 (373 * i) dL_build_55 rfl ?_
        refine k_iadd hC 56 dL_build_56 ?_
        refine fs_callS hC hX hZ 57 ([]) (fun u => ((h, .inr (3, [.ref (a 0), .ref (b 0)])) :: (wSt D a u.1 u.2.1 ++ (wSt D b u.2.2.1 u.2.2.2.1 ++ (wSm D q0 pp rr u.1 u.2.2.2.2))))) (c_L_act l hfl D bb LS xs h q0 pp rr a b s s2 g g2 x _ hLS hO) cw_RL_88 dL_build_57 ⟨Nat.le_of_ble_eq_true rfl, Nat.le_of_ble_eq_true rfl, (show 7 + 2770 * i + 0 + 2770 ≤ 204987 by omega), (show 12 + 36010 * i + 0 + 36010 ≤ 2664752 by omega)⟩ rfl (Nat.le_of_ble_eq_true rfl) (List.append_nil _).symm (fun _ u hp => lw_le hp.2.2) (fun _ => List.append_nil _) _ rfl (fun v u hp => ?_)
        obtain ⟨rfl, hO1, hL1⟩ := hp
        refine KJ.eqs (st' := .int (nI 1) :: []) rfl ?_
        obtain ⟨s1, g1, sb1, gb1, x1⟩ := u
        dsimp only at hO1 hL1
        refine KJ.eqw (ws' := ((h, .inr (3, [.ref (a 0), .ref (b 0)])) :: (wSt D a s1 g1 ++ (wSt D b sb1 gb1 ++ (wSm D q0 pp rr s1 x1))))) rfl ?_
        refine n_if_ne hC 60 65 dL_build_60 (by decide) (by omega) (fun h60 => ?_) (fun h60 => ?_)
        · skip
          refine k_iinc hC 65 0 (nI (i + 1)) [(4, .int (nI (i + 1))), (3, .int (nI (15 + nb))), (2, .ref q0), (0, .ref h), (1, .ref bb)] dL_build_65 rfl (nI_1 _) (by decide) rfl ?_
          refine k_goto hC 68 25 dL_build_68 (by decide) ?_
          exact KJ.wide (by omega) (by omega) (ih25 (i + 1) s1 g1 sb1 gb1 x1 (by omega) (by omega) hO1)
        · skip
          exact absurd h60 (by decide)
  exact KJ.wide (by omega) (by omega) (loop25 (15 + nb + 1) 0 initS g s2 g2 x (by omega) (by omega) hO)
