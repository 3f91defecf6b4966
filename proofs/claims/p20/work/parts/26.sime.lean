/-! The simulation: series, places, a new one -/
/-- as many jars as places at most, and the goal no further -/
def IJ (s : PS) : Prop := jrs s ≤ plS s ∧ goS s ≤ plS s
theorem lk_go (s : PS) : goS (lk s).1 = goS s := by
  obtain ⟨N, T, A, B, to, pi, fe, pl, go, hi, mi, re, lo⟩ := s
  unfold lk
  dsimp only
  split
  · cases N with
    | nil => rfl
    | cons k N =>
      dsimp only
      split
      · rfl
      · split
        · rfl
        · rfl
  · cases T with
    | nil => rfl
    | cons k T =>
      dsimp only
      split
      · rfl
      · split
        · rfl
        · rfl
theorem swN_go : ∀ (n : Nat) (s : PS) (r : PS × Nat), swN n s = some r → goS r.1 = goS s
  | 0, _, _, h => by cases h
  | n + 1, s, r, h => by
    have g := lk_go s
    cases hl : lk s with
    | mk s1 o =>
      rw [hl] at g
      cases o with
      | some k =>
        simp only [swN, hl] at h
        cases h
        exact g
      | none =>
        simp only [swN, hl] at h
        exact (swN_go n s1 r h).trans g
theorem sw_go {s : PS} (h : WF s) (hpj : pnd s < jrs s) : goS (sw s).1 = goS s := swN_go 200 s _ (sw_ok h hpj).1
theorem rcl_go {s : PS} (h : goS s ≤ plS s) (k o : Nat) : goS (rcl s k o) ≤ plS (rcl s k o) := by
  obtain ⟨N, T, A, B, to, pi, fe, pl, go, hi, mi, re, lo⟩ := s
  have h1 : go ≤ pl := h
  unfold rcl
  dsimp only
  split
  · show min pl (go + tn B A) ≤ pl
    omega
  · split
    · show go - tn A B ≤ pl
      omega
    · exact h
theorem plc_go (s : PS) (k o : Nat) : goS (plc s k o) = goS s := by
  obtain ⟨N, T, A, B, to, pi, fe, pl, go, hi, mi, re, lo⟩ := s
  unfold plc
  dsimp only
  split <;> rfl
theorem br_ij {s : PS} (h : WF s) (k : Nat) (hi : IJ s) : IJ (br s k) := by
  refine ⟨(br_jp h hi.1).1, ?_⟩
  by_cases h4 : oc s k = 4
  · rw [br_4 h4]; exact hi.2
  · by_cases h0 : oc s k = 0
    · rw [br_0 h0]; exact hi.2
    · rw [br_m rfl h0 h4, plc_pl, plc_go]
      have hg := rcl_go (s := missS s) hi.2 k (oc s k)
      have hw := rcl_wf (missS_wf h) k (oc s k)
      by_cases hc : plS (rcl (missS s) k (oc s k)) ≤ jrs (rcl (missS s) k (oc s k))
      · rw [if_pos hc]
        have hpj := mid_pj (s := s) (k := k) rfl h0 h4 hc
        rw [(sw_ok hw hpj).2.2.2.2, sw_go hw hpj]
        exact hg
      · rw [if_neg hc]
        exact hg
theorem srs_ij {fr st : Nat} : ∀ (n i : Nat) (s : PS), WF s → IJ s → IJ (srs fr st n i s)
  | 0, _, _, _, h => h
  | n + 1, i, s, hW, h => srs_ij n (i + 1) _ (br_wf hW (Nat.mod_lt _ (by decide))) (br_ij hW _ h)
theorem rsz_ij {s : PS} (h : WF s) {p : Nat} (h2 : 2 ≤ p) (h12 : p ≤ 12) (hp : pnd s ≤ p) : IJ (rsz p s) := by
  have z := rsz_ok h h2 h12 hp
  refine ⟨z.2.1, ?_⟩
  rw [z.2.2]
  show goS (cutS p (swM p 12 (setPl p s))) ≤ p
  generalize swM p 12 (setPl p s) = t
  obtain ⟨N, T, A, B, to, pi, fe, pl, go, hi, mi, re, lo⟩ := t
  show min go p ≤ p
  omega
theorem hi_br0 {s : PS} {k : Nat} (h : oc s k = 0) : hiS (br s k) = hiS s + 1 := by
  rw [br_0 h]
  rfl
theorem hi_brn {s : PS} (hW : WF s) {k : Nat} (h : oc s k ≠ 0) : hiS (br s k) = hiS s := by
  by_cases h4 : oc s k = 4
  · rw [br_4 h4]
  · exact (br_fct hW h h4).1
theorem ocI_z {n : Nat} (h : n < 5) : ocI n = 0 ↔ n = 0 := by
  constructor
  · intro e
    by_cases h4 : n = 4
    · rw [h4, ocI_4] at e
      exact absurd e (by decide)
    · rw [ocI_n h4, ← nI_0] at e
      exact (nI_eq (by omega) (by omega)).mp e
  · intro e
    rw [e, ocI_n (by decide), nI_0]
theorem sub_add1 (a b : Int32) : (a - b) + 1 = (a + 1) - b := by
  rw [Int32.sub_eq_add_neg, Int32.sub_eq_add_neg, Int32.add_assoc, Int32.add_comm (-b) 1, ← Int32.add_assoc]
theorem f_sim_all (l : Launch) (D : va_G) (m p r : Nat) (s : PS) (x : SX) (hW : WF s) (hJ : SJ s x) : MU l yX5_all cX5_all 1 (some .int) 0 0 D [.ref m] (wSm D m p r s x) (fun v (_ : Unit) => v = some (.int (nI (jrs s)))) (fun _ => wSm D m p r s x) 0 0 := by
  obtain ⟨N, T, A, B, to, pi, fe, pl, go, hi, mi, re, lo⟩ := s
  obtain ⟨n0, n1, l0, l1, hs, hl, f0, f1, g0, g1, L, f, adr⟩ := x
  exact s_all l D m p r N T A B to pi fe pl go hi mi re lo n0 n1 l0 l1 hs hl f0 f1 g0 g1 L f adr hW hJ
theorem f_sim_pinned (l : Launch) (D : va_G) (m p r : Nat) (s : PS) (x : SX) (hW : WF s) (hJ : SJ s x) : MU l yX5_pinned cX5_pinned 10 (some .int) 0 0 D [.ref m] (wSm D m p r s x) (fun v (_ : Unit) => v = some (.int (nI (pnd s)))) (fun _ => wSm D m p r s x) 0 0 := by
  obtain ⟨N, T, A, B, to, pi, fe, pl, go, hi, mi, re, lo⟩ := s
  obtain ⟨n0, n1, l0, l1, hs, hl, f0, f1, g0, g1, L, f, adr⟩ := x
  exact s_pinned l D m p r N T A B to pi fe pl go hi mi re lo n0 n1 l0 l1 hs hl f0 f1 g0 g1 L f adr hW hJ
theorem f_sim_fetch (l : Launch) (D : va_G) (m p r : Nat) (s : PS) (x : SX) (k : Nat) (hW : WF s) (hJ : SJ s x) (hI : IJ s) (hk : k < 40) : MU l yX5_fetch cX5_fetch 5 (some .int) 2 49 D [.ref m, .int (nI k)] (wSm D m p r s x) (fun v (u : SX) => v = some (.int (ocI (oc s k))) ∧ SJ (br s k) u ∧ (xL x).length ≤ (xL u).length) (fun u => wSm D m p r (br s k) u) 92 1196 := by
  obtain ⟨N, T, A, B, to, pi, fe, pl, go, hi, mi, re, lo⟩ := s
  obtain ⟨n0, n1, l0, l1, hs, hl, f0, f1, g0, g1, L, f, adr⟩ := x
  exact s_fetch l D m p r N T A B to pi fe pl go hi mi re lo n0 n1 l0 l1 hs hl f0 f1 g0 g1 L f adr k hW hJ hI.1 hI.2 hk
set_option maxHeartbeats 4000000 in
set_option maxRecDepth 100000 in
/-- fetchAll -/
theorem f_sim_fetchAll (l : Launch) (D : va_G) (m p r : Nat) (s : PS) (x : SX) (fr st mn : Nat) (hW : WF s) (hJ : SJ s x) (hI : IJ s) (hfr : fr < 40) (hst : st < 40) (hmn : mn ≤ 30) : MU l yX5_fetchAll cX5_fetchAll 7 (some .int) 3 73 D [.ref m, .int (nI fr), .int (nI st), .int (nI mn)] (wSm D m p r s x) (fun v (u : SX) => v = some (.int (hiS (srs fr st mn 0 s) - hiS s)) ∧ SJ (srs fr st mn 0 s) u ∧ (xL x).length ≤ (xL u).length) (fun u => wSm D m p r (srs fr st mn 0 s) u) 2760 35880 := by
  refine MU.enter (by decide) [(0, .ref m), (1, .int (nI fr)), (2, .int (nI st)), (3, .int (nI mn))] rfl (Nat.le_of_ble_eq_true rfl) (fun G hC hE => ?_)
  have hC : CX G D cX5_fetchAll RX5 7 := hC
  refine k_iconst hC 0 dX5_fetchAll_0 (nI 0) (by decide) ?_
  refine k_istore hC 1 4 [(4, .int (nI 0)), (0, .ref m), (1, .int (nI fr)), (2, .int (nI st)), (3, .int (nI mn))] dX5_fetchAll_1 (by decide) rfl ?_
  refine k_iload_n hC 3 dX5_fetchAll_3 rfl ?_
  refine k_istore hC 4 5 [(5, .int (nI fr)), (4, .int (nI 0)), (0, .ref m), (1, .int (nI fr)), (2, .int (nI st)), (3, .int (nI mn))] dX5_fetchAll_4 (by decide) rfl ?_
  refine k_iconst hC 6 dX5_fetchAll_6 (nI 0) (by decide) ?_
  refine k_istore hC 7 6 [(6, .int (nI 0)), (5, .int (nI fr)), (4, .int (nI 0)), (0, .ref m), (1, .int (nI fr)), (2, .int (nI st)), (3, .int (nI mn))] dX5_fetchAll_7 (by decide) rfl ?_
  refine KJ.eql (lv' := [(6, .int (nI 0)), (5, .int (nI fr)), (4, .int (hiS s - hiS s)), (0, .ref m), (1, .int (nI fr)), (2, .int (nI st)), (3, .int (nI mn))]) (by rw [Int32.sub_self, nI_0]) ?_
  have loop9 : ∀ (nn9 : Nat) (i kd : Nat) (s2 : PS) (x2 : SX), mn - i < nn9 → i ≤ mn → kd = (fr + i * st) % 40 → WF s2 → IJ s2 → SJ s2 x2 → srs fr st (mn - i) i s2 = srs fr st mn 0 s → (xL x).length ≤ (xL x2).length → KJ l G D ({ frames := 3, cells := 2760, slots := 35880, locals := 73 } : Room) 7 (92 * i) (1196 * i) (wSm D m p r s2 x2) [(6, .int (nI i)), (5, .int (nI kd)), (4, .int (hiS s2 - hiS s)), (0, .ref m), (2, .int (nI st)), (3, .int (nI mn))] 9 ([]) := by
    intro nn9
    induction nn9 with
    | zero => intro i kd s2 x2 h; exact absurd h (Nat.not_lt_zero _)
    | succ nn9 ih9 =>
      intro i kd s2 x2 hn9 hi hkd hW2 hI2 hJ2 hs hL2
      have hk : kd < 40 := by rw [hkd]; exact Nat.mod_lt _ (by decide)
      have hkd2 : (kd + st) % 40 = (fr + (i + 1) * st) % 40 := by rw [hkd, Nat.mod_add_mod, Nat.succ_mul, Nat.add_assoc]
      refine k_iload hC 9 dX5_fetchAll_9 rfl ?_
      refine k_iload_n hC 11 dX5_fetchAll_11 rfl ?_
      refine n_icmp_ge hC 12 49 dX5_fetchAll_12 (by decide) (by omega) (by omega) (fun h12 => ?_) (fun h12 => ?_)
      · skip
        have e0 : s2 = srs fr st mn 0 s := by rw [← hs, show mn - i = 0 by omega]; rfl
        refine k_iload hC 49 dX5_fetchAll_49 rfl ?_
        exact k_iret hC hE 51 x2 dX5_fetchAll_51 rfl (⟨by rw [e0], by rw [← e0]; exact hJ2, hL2⟩) (by rw [← e0]) ⟨(show 92 * i ≤ 2760 by omega), (show 1196 * i ≤ 35880 by omega)⟩
      · skip
        refine k_iload hC 15 dX5_fetchAll_15 rfl ?_
        refine k_aload_n hC 17 dX5_fetchAll_17 rfl ?_
        refine k_iload hC 18 dX5_fetchAll_18 rfl ?_
        refine fp_callVe hC 20 0 ([]) (fun u => (wSm D m p r (br s2 kd) u)) (f_sim_fetch l D m p r s2 x2 kd hW2 hJ2 hI2 hk) cw_RX5_100 dX5_fetchAll_20 ⟨Nat.le_of_ble_eq_true rfl, Nat.le_of_ble_eq_true rfl, (show 92 * i + 92 ≤ 2760 by omega), (show 1196 * i + 1196 ≤ 35880 by omega)⟩ rfl (Nat.le_of_ble_eq_true rfl) rfl rfl rfl (List.append_nil _).symm (fun _ u hp => wSm_le hp.2.2) (fun _ => List.append_nil _) _ rfl (fun v u hp => ?_)
        obtain ⟨rfl, hJu, hLu⟩ := hp
        refine KJ.eqs (st' := .int (ocI (oc s2 kd)) :: .int (hiS s2 - hiS s) :: []) rfl ?_
        refine k_if_ne hC 23 30 dX5_fetchAll_23 (by decide) (fun h23 => ?_) (fun h23 => ?_)
        · skip
          refine k_iconst hC 30 dX5_fetchAll_30 (nI 0) (by decide) ?_
          refine k_iadd hC 31 dX5_fetchAll_31 (KJ.topi (y := (hiS (br s2 kd) - hiS s)) (by rw [nI_0, Int32.add_zero, hi_brn hW2 (fun z => h23 ((ocI_z (oc_lt _ _)).mpr z))]) ?_)
          refine k_istore hC 32 4 [(4, .int (hiS (br s2 kd) - hiS s)), (6, .int (nI i)), (5, .int (nI kd)), (0, .ref m), (2, .int (nI st)), (3, .int (nI mn))] dX5_fetchAll_32 (by decide) rfl ?_
          refine k_iload hC 34 dX5_fetchAll_34 rfl ?_
          refine k_iload_n hC 36 dX5_fetchAll_36 rfl ?_
          refine n_iadd hC 37 (kd + st) dX5_fetchAll_37 rfl ?_
          refine k_bipush hC 38 dX5_fetchAll_38 (nI 40) (by decide) ?_
          refine k_irem hC 40 dX5_fetchAll_40 (by decide) (KJ.topi (y := (nI ((kd + st) % 40))) (pk_rem (by omega) (by decide) (by decide)) ?_)
          refine k_istore hC 41 5 [(5, .int (nI ((kd + st) % 40))), (4, .int (hiS (br s2 kd) - hiS s)), (6, .int (nI i)), (0, .ref m), (2, .int (nI st)), (3, .int (nI mn))] dX5_fetchAll_41 (by decide) rfl ?_
          refine k_iinc hC 43 2 (nI (i + 1)) [(6, .int (nI (i + 1))), (5, .int (nI ((kd + st) % 40))), (4, .int (hiS (br s2 kd) - hiS s)), (0, .ref m), (2, .int (nI st)), (3, .int (nI mn))] dX5_fetchAll_43 rfl (nI_1 _) (by decide) rfl ?_
          refine k_goto hC 46 9 dX5_fetchAll_46 (by decide) ?_
          exact KJ.wide (by omega) (by omega) (ih9 (i + 1) _ _ _ (by omega) (by omega) hkd2 (br_wf hW2 hk) (br_ij hW2 _ hI2) hJu (by rw [← hs, show mn - i = (mn - (i + 1)) + 1 by omega, hkd]; rfl) (Nat.le_trans hL2 hLu))
        · skip
          refine k_iconst hC 26 dX5_fetchAll_26 (nI 1) (by decide) ?_
          refine k_goto hC 27 31 dX5_fetchAll_27 (by decide) ?_
          refine k_iadd hC 31 dX5_fetchAll_31 (KJ.topi (y := (hiS (br s2 kd) - hiS s)) (by rw [show nI 1 = 1 from rfl, hi_br0 ((ocI_z (oc_lt _ _)).mp h23)]; exact sub_add1 _ _) ?_)
          refine k_istore hC 32 4 [(4, .int (hiS (br s2 kd) - hiS s)), (6, .int (nI i)), (5, .int (nI kd)), (0, .ref m), (2, .int (nI st)), (3, .int (nI mn))] dX5_fetchAll_32 (by decide) rfl ?_
          refine k_iload hC 34 dX5_fetchAll_34 rfl ?_
          refine k_iload_n hC 36 dX5_fetchAll_36 rfl ?_
          refine n_iadd hC 37 (kd + st) dX5_fetchAll_37 rfl ?_
          refine k_bipush hC 38 dX5_fetchAll_38 (nI 40) (by decide) ?_
          refine k_irem hC 40 dX5_fetchAll_40 (by decide) (KJ.topi (y := (nI ((kd + st) % 40))) (pk_rem (by omega) (by decide) (by decide)) ?_)
          refine k_istore hC 41 5 [(5, .int (nI ((kd + st) % 40))), (4, .int (hiS (br s2 kd) - hiS s)), (6, .int (nI i)), (0, .ref m), (2, .int (nI st)), (3, .int (nI mn))] dX5_fetchAll_41 (by decide) rfl ?_
          refine k_iinc hC 43 2 (nI (i + 1)) [(6, .int (nI (i + 1))), (5, .int (nI ((kd + st) % 40))), (4, .int (hiS (br s2 kd) - hiS s)), (0, .ref m), (2, .int (nI st)), (3, .int (nI mn))] dX5_fetchAll_43 rfl (nI_1 _) (by decide) rfl ?_
          refine k_goto hC 46 9 dX5_fetchAll_46 (by decide) ?_
          exact KJ.wide (by omega) (by omega) (ih9 (i + 1) _ _ _ (by omega) (by omega) hkd2 (br_wf hW2 hk) (br_ij hW2 _ hI2) hJu (by rw [← hs, show mn - i = (mn - (i + 1)) + 1 by omega, hkd]; rfl) (Nat.le_trans hL2 hLu))
  refine KJ.lvp [0, 1, 2, 3, 5, 6] rfl ?_
  exact loop9 (mn + 1) 0 fr s x (by omega) (by omega) (by rw [Nat.zero_mul, Nat.add_zero, Nat.mod_eq_of_lt hfr]) hW hI hJ rfl (Nat.le_refl _)
set_option maxHeartbeats 4000000 in
set_option maxRecDepth 100000 in
/-- setPlaces -/
theorem f_sim_setPlaces (l : Launch) (D : va_G) (m p r : Nat) (s : PS) (x : SX) (pp : Nat) (hW : WF s) (hJ : SJ s x) (h2 : 2 ≤ pp) (h12 : pp ≤ 12) (hpp : pnd s ≤ pp) : MU l yX5_setPlaces cX5_setPlaces 3 none 2 49 D [.ref m, .int (nI pp)] (wSm D m p r s x) (fun v (u : SX) => v = none ∧ SJ (rsz pp s) u ∧ (xL x).length ≤ (xL u).length) (fun u => wSm D m p r (rsz pp s) u) 1060 13780 := by
  refine MU.enter (by decide) [(0, .ref m), (1, .int (nI pp))] rfl (Nat.le_of_ble_eq_true rfl) (fun G hC hE => ?_)
  have hC : CX G D cX5_setPlaces RX5 3 := hC
  refine k_aload_n hC 0 dX5_setPlaces_0 rfl ?_
  refine k_iload_n hC 1 dX5_setPlaces_1 rfl ?_
  refine k_putf hC 2 (ty0 := tyX5) 0 0 (wSm D m p r (setPl pp s) x) dX5_setPlaces_2 rfl rfl inlX5 tyX5_ok nmX5 (by decide) wq_3_7 rfl rfl rfl (Nat.le_of_ble_eq_true rfl) rfl ?_
  have hJ0 : SJ (setPl pp s) x := by
    obtain ⟨N, T, A, B, to, pi, fe, pl, go, hi, mi, re, lo⟩ := s
    exact hJ
  have loop5 : ∀ (nn5 : Nat) (n : Nat) (s2 : PS) (x2 : SX), n < nn5 → n ≤ 12 → WF s2 → SJ s2 x2 → swM pp n s2 = swM pp 12 (setPl pp s) → plS s2 = pp → pnd s2 ≤ pp → jrs s2 ≤ pp + n → (xL x).length ≤ (xL x2).length → KJ l G D ({ frames := 2, cells := 1060, slots := 13780, locals := 49 } : Room) 3 (86 * (12 - n)) (1118 * (12 - n)) (wSm D m p r s2 x2) [(0, .ref m), (1, .int (nI pp))] 5 ([]) := by
    intro nn5
    induction nn5 with
    | zero => intro n s2 x2 h; exact absurd h (Nat.not_lt_zero _)
    | succ nn5 ih5 =>
      intro n s2 x2 hn5 hn hW2 hJ2 hs hpl hpd hjr hL2
      have j12 := jrs_12 hW2
      have q12 := pnd_le hW2
      refine k_aload_n hC 5 dX5_setPlaces_5 rfl ?_
      refine f_callVe hC 6 0 ([]) (fun u => (wSm D m p r s2 x2)) (f_sim_all l D m p r s2 x2 hW2 hJ2) cw_RX5_83 dX5_setPlaces_6 ⟨Nat.le_of_ble_eq_true rfl, Nat.le_of_ble_eq_true rfl, (show 86 * (12 - n) + 0 ≤ 1060 by omega), (show 1118 * (12 - n) + 0 ≤ 13780 by omega)⟩ rfl (Nat.le_of_ble_eq_true rfl) rfl rfl rfl (List.append_nil _).symm (fun _ => Nat.le_refl _) (fun _ => List.append_nil _) _ rfl (fun v u hp => ?_)
      obtain rfl := hp
      refine KJ.eqs (st' := .int (nI (jrs s2)) :: []) rfl ?_
      refine k_iload_n hC 9 dX5_setPlaces_9 rfl ?_
      refine n_icmp_le hC 10 21 dX5_setPlaces_10 (by decide) (by omega) (by omega) (fun h10 => ?_) (fun h10 => ?_)
      · skip
        have es : s2 = swM pp 12 (setPl pp s) := (swM_stop (Nat.not_lt.mpr h10) n).symm.trans hs
        refine KJ.wide (ce' := 1032) (sl' := 13416) (by omega) (by omega) ?_
        obtain ⟨N, T, A, B, to, pi, fe, pl, go, hi, mi, re, lo⟩ := s2
        obtain ⟨n0, n1, l0, l1, hs1, hl, f0, f1, g0, g1, L, f, adr⟩ := x2
        obtain rfl : pl = pp := hpl
        obtain ⟨kN, kT, kA, kB, nd, len, lA, lB, p2, p12, g12, t1, p9⟩ := hW2
        obtain ⟨s0, s1, s2, s3, j0, j1, a0, a1, jp⟩ := hJ2
        refine KJ.eqw (ws' := ((m, .inr (5, [.int (nI pl), .int (nI go), .int hi, .int mi, .int re, .int lo, .ref p, .ref r])) :: ((p, .inl (D.1 23, 2, qv hs1)) :: ((r, .inl (D.1 24, 2, qv hl)) :: ((n0, .inl (D.1 22, N.length, qv f0)) :: ((n1, .inl (D.1 22, T.length, qv f1)) :: ((l0, .inl (D.1 20, A.length, .inl g0)) :: ((l1, .inl (D.1 20, B.length, .inl g1)) :: va_pl L f)))))))) rfl ?_
        have cut34 : KJ l G D ({ frames := 2, cells := 1060, slots := 13780, locals := 49 } : Room) 3 1032 13416 ((m, .inr (5, [.int (nI pl), .int (nI (min go pl)), .int hi, .int mi, .int re, .int lo, .ref p, .ref r])) :: ((p, .inl (D.1 23, 2, qv hs1)) :: ((r, .inl (D.1 24, 2, qv hl)) :: ((n0, .inl (D.1 22, N.length, qv f0)) :: ((n1, .inl (D.1 22, T.length, qv f1)) :: ((l0, .inl (D.1 20, A.length, .inl g0)) :: ((l1, .inl (D.1 20, B.length, .inl g1)) :: va_pl L f))))))) [(0, .ref m), (1, .int (nI pl))] 34 ([]) := by
          skip
          refine k_iconst hC 34 dX5_setPlaces_34 (nI 0) (by decide) ?_
          refine k_istore_n hC 35 2 [(2, .int (nI 0)), (0, .ref m), (1, .int (nI pl))] dX5_setPlaces_35 rfl (by decide) rfl ?_
          refine k_iload_n hC 36 dX5_setPlaces_36 rfl ?_
          refine k_iconst hC 37 dX5_setPlaces_37 (nI 2) (by decide) ?_
          refine n_icmp_ge hC 38 77 dX5_setPlaces_38 (by decide) (by omega) (by omega) (fun h38 => ?_) (fun h38 => ?_)
          · skip
            exact absurd h38 (by decide)
          · skip
            refine KJ.eqw (ws' := ((m, .inr (5, [.int (nI pl), .int (nI (min go pl)), .int hi, .int mi, .int re, .int lo, .ref p, .ref r])) :: ((p, .inl (D.1 23, 2, qv hs1)) :: ((r, .inl (D.1 24, 2, qv hl)) :: ((n0, .inl (D.1 22, N.length, qv f0)) :: ((n1, .inl (D.1 22, T.length, qv f1)) :: ((l0, .inl (D.1 20, (A.drop 0).length, .inl g0)) :: ((l1, .inl (D.1 20, B.length, .inl g1)) :: va_pl L f)))))))) (by rw [List.drop_zero]) ?_
            have loop41 : ∀ (nn41 : Nat) (i0 qq0 : Nat) (hq0 : Nat → Option Nat) (gg0 : Nat → Int32), A.length - i0 < nn41 → i0 ≤ A.length - pl → hq0 0 = some qq0 → hq0 1 = some l1 → RowL (A.drop i0) gg0 → KJ l G D ({ frames := 2, cells := 1060, slots := 13780, locals := 49 } : Room) 3 (1032 + i0) (13416 + 13 * i0) ((m, .inr (5, [.int (nI pl), .int (nI (min go pl)), .int hi, .int mi, .int re, .int lo, .ref p, .ref r])) :: ((p, .inl (D.1 23, 2, qv hs1)) :: ((r, .inl (D.1 24, 2, qv hq0)) :: ((n0, .inl (D.1 22, N.length, qv f0)) :: ((n1, .inl (D.1 22, T.length, qv f1)) :: ((qq0, .inl (D.1 20, (A.drop i0).length, .inl gg0)) :: ((l1, .inl (D.1 20, B.length, .inl g1)) :: va_pl L f))))))) [(2, .int (nI 0)), (0, .ref m), (1, .int (nI pl))] 41 ([]) := by
              intro nn41
              induction nn41 with
              | zero => intro i0 qq0 hq0 gg0 h; exact absurd h (Nat.not_lt_zero _)
              | succ nn41 ih41 =>
                intro i0 qq0 hq0 gg0 hn41 hv0 y0 z0 hg0
                have e30 : (A.drop i0).length = A.length - i0 := List.length_drop
                refine k_aload_n hC 41 dX5_setPlaces_41 rfl ?_
                refine k_getf hC 42 0 7 dX5_setPlaces_42 rfl rfl inlX5 (by decide) wq_3_12 rfl ?_
                refine k_iload_n hC 45 dX5_setPlaces_45 rfl ?_
                refine k_aald hC 46 2 0 4 (v := qq0) dX5_setPlaces_46 rfl rfl rfl (by omega) (by omega) y0 ?_
                refine k_alen hC 47 5 0 (nI ((A.drop i0).length)) dX5_setPlaces_47 rfl rfl rfl ?_
                refine k_iload_n hC 48 dX5_setPlaces_48 rfl ?_
                refine n_icmp_le hC 49 71 dX5_setPlaces_49 (by decide) (by omega) (by omega) (fun h49 => ?_) (fun h49 => ?_)
                · skip
                  obtain rfl : i0 = A.length - pl := by omega
                  refine k_iinc hC 71 0 (nI 1) [(2, .int (nI 1)), (0, .ref m), (1, .int (nI pl))] dX5_setPlaces_71 rfl (by decide) (by decide) rfl ?_
                  refine k_goto hC 74 36 dX5_setPlaces_74 (by decide) ?_
                  refine k_iload_n hC 36 dX5_setPlaces_36 rfl ?_
                  refine k_iconst hC 37 dX5_setPlaces_37 (nI 2) (by decide) ?_
                  refine n_icmp_ge hC 38 77 dX5_setPlaces_38 (by decide) (by omega) (by omega) (fun h38 => ?_) (fun h38 => ?_)
                  · skip
                    exact absurd h38 (by decide)
                  · skip
                    refine KJ.eqw (ws' := ((m, .inr (5, [.int (nI pl), .int (nI (min go pl)), .int hi, .int mi, .int re, .int lo, .ref p, .ref r])) :: ((p, .inl (D.1 23, 2, qv hs1)) :: ((r, .inl (D.1 24, 2, qv hq0)) :: ((n0, .inl (D.1 22, N.length, qv f0)) :: ((n1, .inl (D.1 22, T.length, qv f1)) :: ((qq0, .inl (D.1 20, (A.drop (A.length - pl)).length, .inl gg0)) :: ((l1, .inl (D.1 20, (B.drop 0).length, .inl g1)) :: va_pl L f)))))))) (by rw [List.drop_zero]) ?_
                    refine KJ.wide (ce' := 1044) (sl' := 13572) (by omega) (by omega) ?_
                    have loop41 : ∀ (nn41 : Nat) (i1 qq1 : Nat) (hq1 : Nat → Option Nat) (gg1 : Nat → Int32), B.length - i1 < nn41 → i1 ≤ B.length - pl → hq1 1 = some qq1 → hq1 0 = some qq0 → RowL (B.drop i1) gg1 → KJ l G D ({ frames := 2, cells := 1060, slots := 13780, locals := 49 } : Room) 3 (1044 + i1) (13572 + 13 * i1) ((m, .inr (5, [.int (nI pl), .int (nI (min go pl)), .int hi, .int mi, .int re, .int lo, .ref p, .ref r])) :: ((p, .inl (D.1 23, 2, qv hs1)) :: ((r, .inl (D.1 24, 2, qv hq1)) :: ((n0, .inl (D.1 22, N.length, qv f0)) :: ((n1, .inl (D.1 22, T.length, qv f1)) :: ((qq0, .inl (D.1 20, (A.drop (A.length - pl)).length, .inl gg0)) :: ((qq1, .inl (D.1 20, (B.drop i1).length, .inl gg1)) :: va_pl L f))))))) [(2, .int (nI 1)), (0, .ref m), (1, .int (nI pl))] 41 ([]) := by
                      intro nn41
                      induction nn41 with
                      | zero => intro i1 qq1 hq1 gg1 h; exact absurd h (Nat.not_lt_zero _)
                      | succ nn41 ih41 =>
                        intro i1 qq1 hq1 gg1 hn41 hv1 y1 z1 hg1
                        have e31 : (B.drop i1).length = B.length - i1 := List.length_drop
                        refine k_aload_n hC 41 dX5_setPlaces_41 rfl ?_
                        refine k_getf hC 42 0 7 dX5_setPlaces_42 rfl rfl inlX5 (by decide) wq_3_12 rfl ?_
                        refine k_iload_n hC 45 dX5_setPlaces_45 rfl ?_
                        refine k_aald hC 46 2 1 4 (v := qq1) dX5_setPlaces_46 rfl rfl rfl (by omega) (by omega) y1 ?_
                        refine k_alen hC 47 6 0 (nI ((B.drop i1).length)) dX5_setPlaces_47 rfl rfl rfl ?_
                        refine k_iload_n hC 48 dX5_setPlaces_48 rfl ?_
                        refine n_icmp_le hC 49 71 dX5_setPlaces_49 (by decide) (by omega) (by omega) (fun h49 => ?_) (fun h49 => ?_)
                        · skip
                          obtain rfl : i1 = B.length - pl := by omega
                          refine k_iinc hC 71 0 (nI 2) [(2, .int (nI 2)), (0, .ref m), (1, .int (nI pl))] dX5_setPlaces_71 rfl (by decide) (by decide) rfl ?_
                          refine k_goto hC 74 36 dX5_setPlaces_74 (by decide) ?_
                          refine k_iload_n hC 36 dX5_setPlaces_36 rfl ?_
                          refine k_iconst hC 37 dX5_setPlaces_37 (nI 2) (by decide) ?_
                          refine n_icmp_ge hC 38 77 dX5_setPlaces_38 (by decide) (by omega) (by omega) (fun h38 => ?_) (fun h38 => ?_)
                          · skip
                            have er : rsz pl s = (N, T, tr pl A, tr pl B, to, pi, fe, pl, min go pl, hi, mi, re, lo) := by
                              show cutS pl (swM pl 12 (setPl pl s)) = _
                              rw [← es]
                              rfl
                            exact k_vret hC hE 77 (n0, n1, qq0, qq1, hs1, hq1, f0, f1, gg0, gg1, L, f, adr) dX5_setPlaces_77 (⟨rfl, by rw [er]; exact ⟨s0, s1, z1, y1, j0, j1, hg0, hg1, jp⟩, hL2⟩) (by show wSm D m p r (rsz pl s) _ = _; rw [er]; rfl) ⟨(show 1044 + (B.length - pl) ≤ 1060 by omega), (show 13572 + 13 * (B.length - pl) ≤ 13780 by omega)⟩
                          · skip
                            exact absurd h38 (by decide)
                        · skip
                          refine k_aload_n hC 52 dX5_setPlaces_52 rfl ?_
                          refine k_getf hC 53 0 7 dX5_setPlaces_53 rfl rfl inlX5 (by decide) wq_3_12 rfl ?_
                          refine k_iload_n hC 56 dX5_setPlaces_56 rfl ?_
                          refine k_aload_n hC 57 dX5_setPlaces_57 rfl ?_
                          refine k_getf hC 58 0 7 dX5_setPlaces_58 rfl rfl inlX5 (by decide) wq_3_12 rfl ?_
                          refine k_iload_n hC 61 dX5_setPlaces_61 rfl ?_
                          refine k_aald hC 62 2 1 4 (v := qq1) dX5_setPlaces_62 rfl rfl rfl (by omega) (by omega) y1 ?_
                          refine k_iconst hC 63 dX5_setPlaces_63 (nI 0) (by decide) ?_
                          refine k_callSN hC 64 [6] (fun q64 => ((m, .inr (5, [.int (nI pl), .int (nI (min go pl)), .int hi, .int mi, .int re, .int lo, .ref p, .ref r])) :: ((p, .inl (D.1 23, 2, qv hs1)) :: ((r, .inl (D.1 24, 2, qv hq1)) :: ((n0, .inl (D.1 22, N.length, qv f0)) :: ((n1, .inl (D.1 22, T.length, qv f1)) :: ((qq0, .inl (D.1 20, (A.drop (A.length - pl)).length, .inl gg0)) :: ((qq1, .inl (D.1 20, (B.drop i1).length, .inl gg1)) :: (va_pl L f ++ ((q64, .inl (D.1 20, (B.drop i1).length - 1, .inl (cpf (wof gg1 0) (fun _ => 0) ((B.drop i1).length - 1)))) :: [])))))))))) (c_L_without_ l D qq1 (B.drop i1).length gg1 0 (by omega) (by omega)) hC.kt.2.2.2.2.2.2.2.2.2.2.2.2 cns_L_without_ dX5_setPlaces_64 ⟨Nat.le_of_ble_eq_true rfl, Nat.le_of_ble_eq_true rfl, (show 1044 + i1 + 1 ≤ 1060 by omega), (show 13572 + 13 * i1 + 13 ≤ 13780 by omega)⟩ rfl (Nat.le_of_ble_eq_true rfl) (by decide) rfl (fun _ => Nat.le_of_ble_eq_true rfl) (fun _ => rfl) _ rfl (fun v q64 hp => ?_)
                          obtain rfl := hp
                          have hg2 : RowL (B.drop (i1 + 1)) (cpf (wof gg1 0) (fun _ => 0) ((B.drop i1).length - 1)) := by rw [← drop_e0]; exact hg1.cut2 (by omega)
                          refine KJ.eqs (st' := .ref q64 :: .int (nI 1) :: .ref r :: []) rfl ?_
                          refine KJ.mv ((m, .inr (5, [.int (nI pl), .int (nI (min go pl)), .int hi, .int mi, .int re, .int lo, .ref p, .ref r])) :: ((p, .inl (D.1 23, 2, qv hs1)) :: ((r, .inl (D.1 24, 2, qv hq1)) :: ((n0, .inl (D.1 22, N.length, qv f0)) :: ((n1, .inl (D.1 22, T.length, qv f1)) :: ((qq0, .inl (D.1 20, (A.drop (A.length - pl)).length, .inl gg0)) :: ((qq1, .inl (D.1 20, (B.drop i1).length, .inl gg1)) :: []))))))) (va_pl L f) (q64, .inl (D.1 20, (B.drop i1).length - 1, .inl (cpf (wof gg1 0) (fun _ => 0) ((B.drop i1).length - 1)))) rfl rfl (ws' := ((m, .inr (5, [.int (nI pl), .int (nI (min go pl)), .int hi, .int mi, .int re, .int lo, .ref p, .ref r])) :: ((p, .inl (D.1 23, 2, qv hs1)) :: ((r, .inl (D.1 24, 2, qv hq1)) :: ((n0, .inl (D.1 22, N.length, qv f0)) :: ((n1, .inl (D.1 22, T.length, qv f1)) :: ((qq0, .inl (D.1 20, (A.drop (A.length - pl)).length, .inl gg0)) :: ((qq1, .inl (D.1 20, (B.drop i1).length, .inl gg1)) :: ((q64, .inl (D.1 20, (B.drop i1).length - 1, .inl (cpf (wof gg1 0) (fun _ => 0) ((B.drop i1).length - 1)))) :: va_pl L f))))))))) ?_
                          refine k_astA hC 67 2 7 1 (t := .int) 4 0 ((m, .inr (5, [.int (nI pl), .int (nI (min go pl)), .int hi, .int mi, .int re, .int lo, .ref p, .ref r])) :: ((p, .inl (D.1 23, 2, qv hs1)) :: ((r, .inl (D.1 24, 2, qv (va_up hq1 1 (some q64)))) :: ((n0, .inl (D.1 22, N.length, qv f0)) :: ((n1, .inl (D.1 22, T.length, qv f1)) :: ((qq0, .inl (D.1 20, (A.drop (A.length - pl)).length, .inl gg0)) :: ((qq1, .inl (D.1 20, (B.drop i1).length, .inl gg1)) :: ((q64, .inl (D.1 20, (B.drop i1).length - 1, .inl (cpf (wof gg1 0) (fun _ => 0) ((B.drop i1).length - 1)))) :: va_pl L f)))))))) hC.kt.2.2.2.2.2.1 rfl rfl (fcI hC) dX5_setPlaces_67 rfl rfl (by omega) (by omega) rfl ?_
                          refine KJ.dr ((m, .inr (5, [.int (nI pl), .int (nI (min go pl)), .int hi, .int mi, .int re, .int lo, .ref p, .ref r])) :: ((p, .inl (D.1 23, 2, qv hs1)) :: ((r, .inl (D.1 24, 2, qv (va_up hq1 1 (some q64)))) :: ((n0, .inl (D.1 22, N.length, qv f0)) :: ((n1, .inl (D.1 22, T.length, qv f1)) :: ((qq0, .inl (D.1 20, (A.drop (A.length - pl)).length, .inl gg0)) :: [])))))) ((q64, .inl (D.1 20, (B.drop i1).length - 1, .inl (cpf (wof gg1 0) (fun _ => 0) ((B.drop i1).length - 1)))) :: va_pl L f) (qq1, .inl (D.1 20, (B.drop i1).length, .inl gg1)) rfl rfl (ws' := ((m, .inr (5, [.int (nI pl), .int (nI (min go pl)), .int hi, .int mi, .int re, .int lo, .ref p, .ref r])) :: ((p, .inl (D.1 23, 2, qv hs1)) :: ((r, .inl (D.1 24, 2, qv (va_up hq1 1 (some q64)))) :: ((n0, .inl (D.1 22, N.length, qv f0)) :: ((n1, .inl (D.1 22, T.length, qv f1)) :: ((qq0, .inl (D.1 20, (A.drop (A.length - pl)).length, .inl gg0)) :: ((q64, .inl (D.1 20, (B.drop i1).length - 1, .inl (cpf (wof gg1 0) (fun _ => 0) ((B.drop i1).length - 1)))) :: va_pl L f)))))))) ?_
                          refine k_goto hC 68 41 dX5_setPlaces_68 (by decide) ?_
                          refine KJ.eqw (ws' := ((m, .inr (5, [.int (nI pl), .int (nI (min go pl)), .int hi, .int mi, .int re, .int lo, .ref p, .ref r])) :: ((p, .inl (D.1 23, 2, qv hs1)) :: ((r, .inl (D.1 24, 2, qv (va_up hq1 1 (some q64)))) :: ((n0, .inl (D.1 22, N.length, qv f0)) :: ((n1, .inl (D.1 22, T.length, qv f1)) :: ((qq0, .inl (D.1 20, (A.drop (A.length - pl)).length, .inl gg0)) :: ((q64, .inl (D.1 20, (B.drop (i1 + 1)).length, .inl (cpf (wof gg1 0) (fun _ => 0) ((B.drop i1).length - 1)))) :: va_pl L f)))))))) (by rw [show (B.drop i1).length - 1 = (B.drop (i1 + 1)).length by rw [List.length_drop, List.length_drop]; omega]) ?_
                          exact KJ.wide (by omega) (by omega) (ih41 (i1 + 1) q64 _ _ (by omega) (by omega) (va_up_self _ _ _) ((va_up_ne _ _ (by decide)).trans z1) hg2)
                    exact KJ.wide (by omega) (by omega) (loop41 (B.length + 1) 0 l1 _ _ (by omega) (by omega) z0 y0 (by rw [List.drop_zero]; exact a1))
                · skip
                  refine k_aload_n hC 52 dX5_setPlaces_52 rfl ?_
                  refine k_getf hC 53 0 7 dX5_setPlaces_53 rfl rfl inlX5 (by decide) wq_3_12 rfl ?_
                  refine k_iload_n hC 56 dX5_setPlaces_56 rfl ?_
                  refine k_aload_n hC 57 dX5_setPlaces_57 rfl ?_
                  refine k_getf hC 58 0 7 dX5_setPlaces_58 rfl rfl inlX5 (by decide) wq_3_12 rfl ?_
                  refine k_iload_n hC 61 dX5_setPlaces_61 rfl ?_
                  refine k_aald hC 62 2 0 4 (v := qq0) dX5_setPlaces_62 rfl rfl rfl (by omega) (by omega) y0 ?_
                  refine k_iconst hC 63 dX5_setPlaces_63 (nI 0) (by decide) ?_
                  refine k_callSN hC 64 [5] (fun q64 => ((m, .inr (5, [.int (nI pl), .int (nI (min go pl)), .int hi, .int mi, .int re, .int lo, .ref p, .ref r])) :: ((p, .inl (D.1 23, 2, qv hs1)) :: ((r, .inl (D.1 24, 2, qv hq0)) :: ((n0, .inl (D.1 22, N.length, qv f0)) :: ((n1, .inl (D.1 22, T.length, qv f1)) :: ((qq0, .inl (D.1 20, (A.drop i0).length, .inl gg0)) :: ((l1, .inl (D.1 20, B.length, .inl g1)) :: (va_pl L f ++ ((q64, .inl (D.1 20, (A.drop i0).length - 1, .inl (cpf (wof gg0 0) (fun _ => 0) ((A.drop i0).length - 1)))) :: [])))))))))) (c_L_without_ l D qq0 (A.drop i0).length gg0 0 (by omega) (by omega)) hC.kt.2.2.2.2.2.2.2.2.2.2.2.2 cns_L_without_ dX5_setPlaces_64 ⟨Nat.le_of_ble_eq_true rfl, Nat.le_of_ble_eq_true rfl, (show 1032 + i0 + 1 ≤ 1060 by omega), (show 13416 + 13 * i0 + 13 ≤ 13780 by omega)⟩ rfl (Nat.le_of_ble_eq_true rfl) (by decide) rfl (fun _ => Nat.le_of_ble_eq_true rfl) (fun _ => rfl) _ rfl (fun v q64 hp => ?_)
                  obtain rfl := hp
                  have hg2 : RowL (A.drop (i0 + 1)) (cpf (wof gg0 0) (fun _ => 0) ((A.drop i0).length - 1)) := by rw [← drop_e0]; exact hg0.cut2 (by omega)
                  refine KJ.eqs (st' := .ref q64 :: .int (nI 0) :: .ref r :: []) rfl ?_
                  refine KJ.mv ((m, .inr (5, [.int (nI pl), .int (nI (min go pl)), .int hi, .int mi, .int re, .int lo, .ref p, .ref r])) :: ((p, .inl (D.1 23, 2, qv hs1)) :: ((r, .inl (D.1 24, 2, qv hq0)) :: ((n0, .inl (D.1 22, N.length, qv f0)) :: ((n1, .inl (D.1 22, T.length, qv f1)) :: ((qq0, .inl (D.1 20, (A.drop i0).length, .inl gg0)) :: ((l1, .inl (D.1 20, B.length, .inl g1)) :: []))))))) (va_pl L f) (q64, .inl (D.1 20, (A.drop i0).length - 1, .inl (cpf (wof gg0 0) (fun _ => 0) ((A.drop i0).length - 1)))) rfl rfl (ws' := ((m, .inr (5, [.int (nI pl), .int (nI (min go pl)), .int hi, .int mi, .int re, .int lo, .ref p, .ref r])) :: ((p, .inl (D.1 23, 2, qv hs1)) :: ((r, .inl (D.1 24, 2, qv hq0)) :: ((n0, .inl (D.1 22, N.length, qv f0)) :: ((n1, .inl (D.1 22, T.length, qv f1)) :: ((qq0, .inl (D.1 20, (A.drop i0).length, .inl gg0)) :: ((l1, .inl (D.1 20, B.length, .inl g1)) :: ((q64, .inl (D.1 20, (A.drop i0).length - 1, .inl (cpf (wof gg0 0) (fun _ => 0) ((A.drop i0).length - 1)))) :: va_pl L f))))))))) ?_
                  refine k_astA hC 67 2 7 0 (t := .int) 4 0 ((m, .inr (5, [.int (nI pl), .int (nI (min go pl)), .int hi, .int mi, .int re, .int lo, .ref p, .ref r])) :: ((p, .inl (D.1 23, 2, qv hs1)) :: ((r, .inl (D.1 24, 2, qv (va_up hq0 0 (some q64)))) :: ((n0, .inl (D.1 22, N.length, qv f0)) :: ((n1, .inl (D.1 22, T.length, qv f1)) :: ((qq0, .inl (D.1 20, (A.drop i0).length, .inl gg0)) :: ((l1, .inl (D.1 20, B.length, .inl g1)) :: ((q64, .inl (D.1 20, (A.drop i0).length - 1, .inl (cpf (wof gg0 0) (fun _ => 0) ((A.drop i0).length - 1)))) :: va_pl L f)))))))) hC.kt.2.2.2.2.2.1 rfl rfl (fcI hC) dX5_setPlaces_67 rfl rfl (by omega) (by omega) rfl ?_
                  refine KJ.dr ((m, .inr (5, [.int (nI pl), .int (nI (min go pl)), .int hi, .int mi, .int re, .int lo, .ref p, .ref r])) :: ((p, .inl (D.1 23, 2, qv hs1)) :: ((r, .inl (D.1 24, 2, qv (va_up hq0 0 (some q64)))) :: ((n0, .inl (D.1 22, N.length, qv f0)) :: ((n1, .inl (D.1 22, T.length, qv f1)) :: []))))) ((l1, .inl (D.1 20, B.length, .inl g1)) :: ((q64, .inl (D.1 20, (A.drop i0).length - 1, .inl (cpf (wof gg0 0) (fun _ => 0) ((A.drop i0).length - 1)))) :: va_pl L f)) (qq0, .inl (D.1 20, (A.drop i0).length, .inl gg0)) rfl rfl (ws' := ((m, .inr (5, [.int (nI pl), .int (nI (min go pl)), .int hi, .int mi, .int re, .int lo, .ref p, .ref r])) :: ((p, .inl (D.1 23, 2, qv hs1)) :: ((r, .inl (D.1 24, 2, qv (va_up hq0 0 (some q64)))) :: ((n0, .inl (D.1 22, N.length, qv f0)) :: ((n1, .inl (D.1 22, T.length, qv f1)) :: ((l1, .inl (D.1 20, B.length, .inl g1)) :: ((q64, .inl (D.1 20, (A.drop i0).length - 1, .inl (cpf (wof gg0 0) (fun _ => 0) ((A.drop i0).length - 1)))) :: va_pl L f)))))))) ?_
                  refine KJ.fw ((m, .inr (5, [.int (nI pl), .int (nI (min go pl)), .int hi, .int mi, .int re, .int lo, .ref p, .ref r])) :: ((p, .inl (D.1 23, 2, qv hs1)) :: ((r, .inl (D.1 24, 2, qv (va_up hq0 0 (some q64)))) :: ((n0, .inl (D.1 22, N.length, qv f0)) :: ((n1, .inl (D.1 22, T.length, qv f1)) :: []))))) ((l1, .inl (D.1 20, B.length, .inl g1)) :: []) (va_pl L f) (q64, .inl (D.1 20, (A.drop i0).length - 1, .inl (cpf (wof gg0 0) (fun _ => 0) ((A.drop i0).length - 1)))) rfl rfl (ws' := ((m, .inr (5, [.int (nI pl), .int (nI (min go pl)), .int hi, .int mi, .int re, .int lo, .ref p, .ref r])) :: ((p, .inl (D.1 23, 2, qv hs1)) :: ((r, .inl (D.1 24, 2, qv (va_up hq0 0 (some q64)))) :: ((n0, .inl (D.1 22, N.length, qv f0)) :: ((n1, .inl (D.1 22, T.length, qv f1)) :: ((q64, .inl (D.1 20, (A.drop i0).length - 1, .inl (cpf (wof gg0 0) (fun _ => 0) ((A.drop i0).length - 1)))) :: ((l1, .inl (D.1 20, B.length, .inl g1)) :: va_pl L f)))))))) ?_
                  refine k_goto hC 68 41 dX5_setPlaces_68 (by decide) ?_
                  refine KJ.eqw (ws' := ((m, .inr (5, [.int (nI pl), .int (nI (min go pl)), .int hi, .int mi, .int re, .int lo, .ref p, .ref r])) :: ((p, .inl (D.1 23, 2, qv hs1)) :: ((r, .inl (D.1 24, 2, qv (va_up hq0 0 (some q64)))) :: ((n0, .inl (D.1 22, N.length, qv f0)) :: ((n1, .inl (D.1 22, T.length, qv f1)) :: ((q64, .inl (D.1 20, (A.drop (i0 + 1)).length, .inl (cpf (wof gg0 0) (fun _ => 0) ((A.drop i0).length - 1)))) :: ((l1, .inl (D.1 20, B.length, .inl g1)) :: va_pl L f)))))))) (by rw [show (A.drop i0).length - 1 = (A.drop (i0 + 1)).length by rw [List.length_drop, List.length_drop]; omega]) ?_
                  exact KJ.wide (by omega) (by omega) (ih41 (i0 + 1) q64 _ _ (by omega) (by omega) (va_up_self _ _ _) ((va_up_ne _ _ (by decide)).trans z0) hg2)
            exact KJ.wide (by omega) (by omega) (loop41 (A.length + 1) 0 l0 _ _ (by omega) (by omega) s2 s3 (by rw [List.drop_zero]; exact a0))
        refine k_aload_n hC 21 dX5_setPlaces_21 rfl ?_
        refine k_getf hC 22 0 1 dX5_setPlaces_22 rfl rfl inlX5 (by decide) wq_7_8 rfl ?_
        refine k_iload_n hC 25 dX5_setPlaces_25 rfl ?_
        refine n_icmp_le hC 26 34 dX5_setPlaces_26 (by decide) (by omega) (by omega) (fun h26 => ?_) (fun h26 => ?_)
        · skip
          refine KJ.eqw (ws' := ((m, .inr (5, [.int (nI pl), .int (nI (min go pl)), .int hi, .int mi, .int re, .int lo, .ref p, .ref r])) :: ((p, .inl (D.1 23, 2, qv hs1)) :: ((r, .inl (D.1 24, 2, qv hl)) :: ((n0, .inl (D.1 22, N.length, qv f0)) :: ((n1, .inl (D.1 22, T.length, qv f1)) :: ((l0, .inl (D.1 20, A.length, .inl g0)) :: ((l1, .inl (D.1 20, B.length, .inl g1)) :: va_pl L f)))))))) (by rw [show min go pl = go by omega]) ?_
          exact cut34
        · skip
          refine k_aload_n hC 29 dX5_setPlaces_29 rfl ?_
          refine k_iload_n hC 30 dX5_setPlaces_30 rfl ?_
          refine k_putf hC 31 (ty0 := tyX5) 0 1 ((m, .inr (5, [.int (nI pl), .int (nI pl), .int hi, .int mi, .int re, .int lo, .ref p, .ref r])) :: ((p, .inl (D.1 23, 2, qv hs1)) :: ((r, .inl (D.1 24, 2, qv hl)) :: ((n0, .inl (D.1 22, N.length, qv f0)) :: ((n1, .inl (D.1 22, T.length, qv f1)) :: ((l0, .inl (D.1 20, A.length, .inl g0)) :: ((l1, .inl (D.1 20, B.length, .inl g1)) :: va_pl L f))))))) dX5_setPlaces_31 rfl rfl inlX5 tyX5_ok nmX5 (by decide) wq_7_8 rfl rfl rfl (Nat.le_of_ble_eq_true rfl) rfl ?_
          refine KJ.eqw (ws' := ((m, .inr (5, [.int (nI pl), .int (nI (min go pl)), .int hi, .int mi, .int re, .int lo, .ref p, .ref r])) :: ((p, .inl (D.1 23, 2, qv hs1)) :: ((r, .inl (D.1 24, 2, qv hl)) :: ((n0, .inl (D.1 22, N.length, qv f0)) :: ((n1, .inl (D.1 22, T.length, qv f1)) :: ((l0, .inl (D.1 20, A.length, .inl g0)) :: ((l1, .inl (D.1 20, B.length, .inl g1)) :: va_pl L f)))))))) (by rw [show min go pl = pl by omega]) ?_
          exact cut34
      · skip
        obtain ⟨n, rfl⟩ : ∃ j : Nat, n = j + 1 := ⟨n - 1, by omega⟩
        have so := sw_ok hW2 (Nat.lt_of_le_of_lt hpd h10)
        refine k_aload_n hC 13 dX5_setPlaces_13 rfl ?_
        refine fp_callVe hC 14 0 ([]) (fun u => (wSm D m p r ((sw s2).1) u)) (f_sim_sweep l D m p r s2 x2 hW2 hJ2 (Nat.lt_of_le_of_lt hpd h10)) cw_RX5_94 dX5_setPlaces_14 ⟨Nat.le_of_ble_eq_true rfl, Nat.le_of_ble_eq_true rfl, (show 86 * (12 - (n + 1)) + 86 ≤ 1060 by omega), (show 1118 * (12 - (n + 1)) + 1118 ≤ 13780 by omega)⟩ rfl (Nat.le_of_ble_eq_true rfl) rfl rfl rfl (List.append_nil _).symm (fun _ u hp => wSm_le hp.2.2) (fun _ => List.append_nil _) _ rfl (fun v u hp => ?_)
        obtain ⟨rfl, hJu, hLu⟩ := hp
        refine KJ.eqs (st' := .int (nI ((sw s2).2)) :: []) rfl ?_
        refine k_pop hC 17 dX5_setPlaces_17 rfl ?_
        refine k_goto hC 18 5 dX5_setPlaces_18 (by decide) ?_
        exact KJ.wide (by omega) (by omega) (ih5 n _ _ (by omega) (by omega) so.2.1 hJu (by rw [← hs]; exact (swM_go h10).symm) (so.2.2.2.2.trans hpl) (by rw [so.2.2.1]; exact hpd) (by have := so.2.2.2.1; omega) (Nat.le_trans hL2 hLu))
  exact loop5 13 12 (setPl pp s) x (by omega) (Nat.le_refl _) (setPl_wf hW h2 h12) hJ0 rfl rfl hpp (by have := jrs_12 hW; show jrs s ≤ _; omega) (Nat.le_refl _)
