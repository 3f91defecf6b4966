/-! The law: each call, class and model side by side -/
theorem kK_z {c1 c2 : Prop} (h : kK c1 c2 = 0) : ¬ c1 ∧ ¬ c2 := by
  unfold kK at h
  by_cases h1 : c1
  · rw [if_pos h1] at h; cases h
  · rw [if_neg h1] at h
    by_cases h2 : c2
    · rw [if_pos h2] at h; cases h
    · exact ⟨h1, h2⟩
theorem ok_fetch {s : PS} (p : Int32) (h : WF s) (j : jrs s ≤ plS s) (hK : fetchK s p = 0) : WF (br s (kn p)) ∧ jrs (br s (kn p)) ≤ plS (br s (kn p)) := ⟨br_wf h (Classical.not_not.mp (kK_z hK).1).k.1, (br_jp h j).1⟩
theorem ok_fetchAll {s : PS} (p0 p1 p2 : Int32) (h : WF s) (j : jrs s ≤ plS s) (_ : serK p0 p1 p2 = 0) : WF (serS s p0 p1 p2) ∧ jrs (serS s p0 p1 p2) ≤ plS (serS s p0 p1 p2) := ⟨srs_wf _ _ _ h, srs_jp _ _ _ h j⟩
theorem ok_pin {s : PS} (p : Int32) (h : WF s) (j : jrs s ≤ plS s) (hK : pinK s p = 0) : WF (upPi s (kn p) (piS s (kn p) + 1)) ∧ jrs (upPi s (kn p) (piS s (kn p) + 1)) ≤ plS (upPi s (kn p) (piS s (kn p) + 1)) := ⟨upPi_wf h (by have z := (kK_z hK).2; exact Nat.lt_of_not_le (fun y => z (Or.inr y))), upPi_jp j _ _⟩
theorem ok_unpin {s : PS} (p : Int32) (h : WF s) (j : jrs s ≤ plS s) (_ : unpinK s p = 0) : WF (upPi s (kn p) (piS s (kn p) - 1)) ∧ jrs (upPi s (kn p) (piS s (kn p) - 1)) ≤ plS (upPi s (kn p) (piS s (kn p) - 1)) := ⟨upPi_wf h (Nat.le_trans (Nat.sub_le _ _) (h.p9S (kn p))), upPi_jp j _ _⟩
theorem ok_eat {s : PS} (p : Int32) (h : WF s) (j : jrs s ≤ plS s) (_ : eatK s p = 0) : WF (eatS s (kn p)) ∧ jrs (eatS s (kn p)) ≤ plS (eatS s (kn p)) := ⟨eatS_wf h _, eatS_jp j _⟩
theorem ok_setPlaces {s : PS} (p : Int32) (h : WF s) (_ : jrs s ≤ plS s) (hK : setPlacesK s p = 0) : WF (rsz (kn p) s) ∧ jrs (rsz (kn p) s) ≤ plS (rsz (kn p) s) := by
  have z := kK_z hK
  obtain ⟨b1, b2, -⟩ := nn_of (m := 2) (n := 12) (p := p) (by decide) (by decide) (fun y => z.1 (Or.inl y)) (Classical.not_not.mp (fun y => z.1 (Or.inr y)))
  have w := rsz_ok h b1 b2 (Nat.le_of_not_lt z.2)
  exact ⟨w.1, w.2.1⟩
theorem ok_setGoal {s : PS} (p : Int32) (h : WF s) (j : jrs s ≤ plS s) (hK : setGoalK s p = 0) : WF (goTo s (kn p)) ∧ jrs (goTo s (kn p)) ≤ plS (goTo s (kn p)) := by
  have z := kK_z hK
  have pl12 := h.pl12
  obtain ⟨-, b2, -⟩ := nn_of (m := 0) (n := plS s) (p := p) (by decide) (Nat.lt_of_le_of_lt pl12.2 (by decide)) (by rw [nI_0]; exact fun y => z.1 (Or.inl y)) (Classical.not_not.mp (fun y => z.1 (Or.inr y)))
  exact ⟨goTo_wf h (Nat.le_trans b2 pl12.2), goTo_jp j _⟩
theorem ok_jar {s : PS} (p0 p1 : Int32) (h : WF s) (j : jrs s ≤ plS s) (_ : jarK p0 p1 = 0) : WF s ∧ jrs s ≤ plS s := ⟨h, j⟩
theorem ok_shelf {s : PS} (p0 p1 : Int32) (h : WF s) (j : jrs s ≤ plS s) (_ : rowK s.1 s.2.1 p0 p1 = 0) : WF s ∧ jrs s ≤ plS s := ⟨h, j⟩
theorem ok_ghost {s : PS} (p0 p1 : Int32) (h : WF s) (j : jrs s ≤ plS s) (_ : rowK s.2.2.1 s.2.2.2.1 p0 p1 = 0) : WF s ∧ jrs s ≤ plS s := ⟨h, j⟩
theorem ok_count {s : PS} (p : Int32) (h : WF s) (j : jrs s ≤ plS s) (_ : countK p = 0) : WF s ∧ jrs s ≤ plS s := ⟨h, j⟩
theorem ok_would {s : PS} (p : Int32) (h : WF s) (j : jrs s ≤ plS s) (_ : wouldK p = 0) : WF s ∧ jrs s ≤ plS s := ⟨h, j⟩
theorem ok_trial {s : PS} (p0 p1 p2 : Int32) (h : WF s) (j : jrs s ≤ plS s) (_ : serK p0 p1 p2 = 0) : WF s ∧ jrs s ≤ plS s := ⟨h, j⟩
theorem ok_advise {s : PS} (p0 p1 p2 : Int32) (h : WF s) (j : jrs s ≤ plS s) (_ : serK p0 p1 p2 = 0) : WF s ∧ jrs s ≤ plS s := ⟨h, j⟩
set_option maxHeartbeats 400000 in
set_option maxRecDepth 100000 in
theorem lc_fetch (l : Launch) (G : KX) (D : va_G) (bb L : Nat) (xs : Nat → Int32) (h q : Nat) (a b o : Nat → Nat) (i ce sl : Nat) (hLX : LX l G D bb L xs) (hi : i + 4 ≤ L) (hce : ce + 350 ≤ 709337) (hsl : sl + 1600 ≤ 6968092) (kk : LK l G D bb h q a b o i (ce + 350) (sl + 1600)) (s : PS) (g : PG) (s2 : PS) (g2 : PG) (f : Nat → Int64) (th : Int32) (m : MG) (ho : OKs s g m) : KJ l G D room_1 9 ce sl ((h, .inr (3, [.ref (a 0), .ref (b 0)])) :: (wSt D a s g ++ (wSt D b s2 g2 ++ ((q, .inl (D.1 6, 1, .inr (.inl f))) :: wMo D o th m)))) [(0, .ref bb), (1, .ref h), (2, .ref (o 0)), (3, .ref q), (4, .int (nI i))] 120 [] := by
  obtain ⟨hC, hX, ⟨hsc, hbl, hbA⟩, hL⟩ := hLX
  have hC : CX G D cL_law RL 9 := hC
  refine k_aload_n hC 120 dL_law_120 rfl ?_
  refine k_aload_n hC 121 dL_law_121 rfl ?_
  refine k_iload hC 122 dL_law_122 rfl ?_
  refine k_iconst hC 124 dL_law_124 (nI 1) (by decide) ?_
  refine n_iadd hC 125 (i + 1) dL_law_125 rfl ?_
  refine k_sld hC hsc hbl hbA 126 dL_law_126 (show i + 1 < L by omega) (by omega) ?_
  refine k_aload_n hC 127 dL_law_127 rfl ?_
  refine hf_callS (n := 3) hC hX 128 [] (wMo D o th m) (fun u => ((h, .inr (3, [.ref (a 0), .ref (b 0)])) :: (wSt D a u.1.1.1 u.1.1.2 ++ (wSt D b u.1.2.1 u.1.2.2 ++ ((q, .inl (D.1 6, 1, .inr (.inl u.2))) :: wMo D o th m))))) (h_fetch l hX.1 D h a b s s2 g g2 q f (xs (i + 1)) ho.1 ho.2.1) wq_3_8 wq_3_9 wq_3_10 wq_3_11 ⟨by decide, by decide, by decide +kernel⟩ dL_law_128 ⟨Nat.le_of_ble_eq_true rfl, Nat.le_of_ble_eq_true rfl, (show ce + 2 ≤ 709337 by omega), (show sl + 12 ≤ 6968092 by omega)⟩ rfl (Nat.le_of_ble_eq_true rfl) (by simp only [List.append_assoc, List.cons_append, List.nil_append, List.append_nil]) (fun _ => rfl) (fun _ => by simp only [List.append_assoc, List.cons_append, List.nil_append, List.append_nil]) _ rfl (fun v u hp => ?_)
  obtain ⟨rfl, hk, hSu⟩ := hp
  refine KJ.eqs (st' := .int (nI (fetchK s (xs (i + 1)))) :: []) rfl ?_
  refine k_istore hC 131 5 [(5, .int (nI (fetchK s (xs (i + 1))))), (0, .ref bb), (1, .ref h), (2, .ref (o 0)), (3, .ref q), (4, .int (nI i))] dL_law_131 (by decide) rfl ?_
  refine k_aload_n hC 133 dL_law_133 rfl ?_
  refine k_aload_n hC 134 dL_law_134 rfl ?_
  refine k_iload hC 135 dL_law_135 rfl ?_
  refine k_iconst hC 137 dL_law_137 (nI 1) (by decide) ?_
  refine n_iadd hC 138 (i + 1) dL_law_138 rfl ?_
  refine k_sld hC hsc hbl hbA 139 dL_law_139 (show i + 1 < L by omega) (by omega) ?_
  refine f_callV hC 140 32 ((h, .inr (3, [.ref (a 0), .ref (b 0)])) :: (wSt D a u.1.1.1 u.1.1.2 ++ (wSt D b u.1.2.1 u.1.2.2 ++ ((q, .inl (D.1 6, 1, .inr (.inl u.2))) :: [])))) [] (fun w => ((h, .inr (3, [.ref (a 0), .ref (b 0)])) :: (wSt D a u.1.1.1 u.1.1.2 ++ (wSt D b u.1.2.1 u.1.2.2 ++ ((q, .inl (D.1 6, 1, .inr (.inl u.2))) :: wMo D o (nI (fetchK s (xs (i + 1)))) w))))) (M_fetch l D o th s m (xs (i + 1)) ho.2.2.1 ho.2.1 ho.2.2.2) cw_RL_69 dL_law_140 ⟨Nat.le_of_ble_eq_true rfl, Nat.le_of_ble_eq_true rfl, (show ce + 2 + 1 ≤ 709337 by omega), (show sl + 12 + 4 ≤ 6968092 by omega)⟩ rfl (Nat.le_of_ble_eq_true rfl) rfl rfl rfl (by simp only [List.append_assoc, List.cons_append, List.nil_append, List.append_nil]) (fun _ => rfl) (fun _ => by simp only [List.append_assoc, List.cons_append, List.nil_append, List.append_nil]) _ rfl (fun v w hp => ?_)
  obtain ⟨x, rfl, hm⟩ := hp
  refine KJ.eqs (st' := .int x :: []) rfl ?_
  refine k_istore hC 143 6 [(6, .int x), (5, .int (nI (fetchK s (xs (i + 1))))), (0, .ref bb), (1, .ref h), (2, .ref (o 0)), (3, .ref q), (4, .int (nI i))] dL_law_143 (by decide) rfl ?_
  refine k_aload_n hC 145 dL_law_145 rfl ?_
  refine f_callV hC 146 32 ((h, .inr (3, [.ref (a 0), .ref (b 0)])) :: (wSt D a u.1.1.1 u.1.1.2 ++ (wSt D b u.1.2.1 u.1.2.2 ++ ((q, .inl (D.1 6, 1, .inr (.inl u.2))) :: [])))) [] (fun _ => ((h, .inr (3, [.ref (a 0), .ref (b 0)])) :: (wSt D a u.1.1.1 u.1.1.2 ++ (wSt D b u.1.2.1 u.1.2.2 ++ ((q, .inl (D.1 6, 1, .inr (.inl u.2))) :: wMo D o (nI (fetchK s (xs (i + 1)))) w))))) (M_thrown l D o (nI (fetchK s (xs (i + 1)))) w) cw_RL_70 dL_law_146 ⟨Nat.le_of_ble_eq_true rfl, Nat.le_of_ble_eq_true rfl, (show ce + 2 + 1 + 0 ≤ 709337 by omega), (show sl + 12 + 4 + 0 ≤ 6968092 by omega)⟩ rfl (Nat.le_of_ble_eq_true rfl) rfl rfl rfl (by simp only [List.append_assoc, List.cons_append, List.nil_append, List.append_nil]) (fun _ => rfl) (fun _ => by simp only [List.append_assoc, List.cons_append, List.nil_append, List.append_nil]) _ rfl (fun v _ hp => ?_)
  obtain rfl := hp
  refine KJ.eqs (st' := .int (nI (fetchK s (xs (i + 1)))) :: []) rfl ?_
  refine k_iload hC 149 dL_law_149 rfl ?_
  refine k_icmp_eq hC 151 156 dL_law_151 (by decide) (fun h151 => ?_) (fun h151 => ?_)
  · skip
    refine k_iload hC 156 dL_law_156 rfl ?_
    refine n_if_ne hC 158 173 dL_law_158 (by decide) kK_lt (fun h158 => ?_) (fun h158 => ?_)
    · skip
      have es : u.1.1.1 = s := hk.elim (fun z => absurd z.1 h158) (fun z => z.2)
      have em : MR s w := hm.elim (fun z => absurd z.1 h158) (fun z => z.2)
      refine k_goto hC 173 1080 dL_law_173 (by decide) ?_
      refine KJ.lvp [2, 3, 4, 5, 6] rfl ?_
      refine KJ.wide (ce' := ce + 350) (sl' := sl + 1600) (by omega) (by omega) ?_
      exact kk u.1.1.1 u.1.1.2 u.1.2.1 u.1.2.2 u.2 _ w (⟨hSu, by rw [es]; exact ho.2.1, by rw [es]; exact em, by rw [es]; exact ho.2.2.2⟩)
    · skip
      obtain ⟨es, ef⟩ : u.1.1.1 = br s (kn (xs (i + 1))) ∧ u.2 0 = (nI (oc s (kn (xs (i + 1))))).toInt64 := hk.elim (fun z => z.2) (fun z => absurd h158 z.1)
      obtain ⟨ex, em⟩ : x = nI (oc s (kn (xs (i + 1)))) ∧ MR (br s (kn (xs (i + 1)))) w := hm.elim (fun z => z.2) (fun z => absurd h158 z.1)
      have ok := ok_fetch (xs (i + 1)) ho.2.1 ho.2.2.2 h158
      refine k_aload_n hC 161 dL_law_161 rfl ?_
      refine k_iconst hC 162 dL_law_162 (nI 0) (by decide) ?_
      refine n_lald hC 163 31 (u.2 0) dL_law_163 rfl (by omega) (by decide) rfl ?_
      refine k_iload hC 164 dL_law_164 rfl ?_
      refine k_i2l hC 166 dL_law_166 x.toInt64 rfl ?_
      refine k_lcmp hC 167 dL_law_167 (KJ.topi (y := nI 0) (by rw [ef, ex]; exact lg_same _) ?_)
      refine n_if_eq hC 168 173 dL_law_168 (by decide) (by omega) (fun h168 => ?_) (fun h168 => ?_)
      · skip
        refine k_goto hC 173 1080 dL_law_173 (by decide) ?_
        refine KJ.lvp [2, 3, 4, 5, 6] rfl ?_
        refine KJ.wide (ce' := ce + 350) (sl' := sl + 1600) (by omega) (by omega) ?_
        exact kk u.1.1.1 u.1.1.2 u.1.2.1 u.1.2.2 u.2 _ w (⟨hSu, by rw [es]; exact ok.1, by rw [es]; exact em, by rw [es]; exact ok.2⟩)
      · skip
        exact absurd h168 (by decide)
  · skip
    exact absurd rfl h151
set_option maxHeartbeats 400000 in
set_option maxRecDepth 100000 in
theorem lc_fetchAll (l : Launch) (G : KX) (D : va_G) (bb L : Nat) (xs : Nat → Int32) (h q : Nat) (a b o : Nat → Nat) (i ce sl : Nat) (hLX : LX l G D bb L xs) (hi : i + 4 ≤ L) (hce : ce + 350 ≤ 709337) (hsl : sl + 1600 ≤ 6968092) (kk : LK l G D bb h q a b o i (ce + 350) (sl + 1600)) (s : PS) (g : PG) (s2 : PS) (g2 : PG) (f : Nat → Int64) (th : Int32) (m : MG) (ho : OKs s g m) : KJ l G D room_1 9 ce sl ((h, .inr (3, [.ref (a 0), .ref (b 0)])) :: (wSt D a s g ++ (wSt D b s2 g2 ++ ((q, .inl (D.1 6, 1, .inr (.inl f))) :: wMo D o th m)))) [(0, .ref bb), (1, .ref h), (2, .ref (o 0)), (3, .ref q), (4, .int (nI i))] 176 [] := by
  obtain ⟨hC, hX, ⟨hsc, hbl, hbA⟩, hL⟩ := hLX
  have hC : CX G D cL_law RL 9 := hC
  refine k_aload_n hC 176 dL_law_176 rfl ?_
  refine k_aload_n hC 177 dL_law_177 rfl ?_
  refine k_iload hC 178 dL_law_178 rfl ?_
  refine k_iconst hC 180 dL_law_180 (nI 1) (by decide) ?_
  refine n_iadd hC 181 (i + 1) dL_law_181 rfl ?_
  refine k_sld hC hsc hbl hbA 182 dL_law_182 (show i + 1 < L by omega) (by omega) ?_
  refine k_aload_n hC 183 dL_law_183 rfl ?_
  refine k_iload hC 184 dL_law_184 rfl ?_
  refine k_iconst hC 186 dL_law_186 (nI 2) (by decide) ?_
  refine n_iadd hC 187 (i + 2) dL_law_187 rfl ?_
  refine k_sld hC hsc hbl hbA 188 dL_law_188 (show i + 2 < L by omega) (by omega) ?_
  refine k_aload_n hC 189 dL_law_189 rfl ?_
  refine k_iload hC 190 dL_law_190 rfl ?_
  refine k_iconst hC 192 dL_law_192 (nI 3) (by decide) ?_
  refine n_iadd hC 193 (i + 3) dL_law_193 rfl ?_
  refine k_sld hC hsc hbl hbA 194 dL_law_194 (show i + 3 < L by omega) (by omega) ?_
  refine k_aload_n hC 195 dL_law_195 rfl ?_
  refine hf_callS (n := 5) hC hX 196 [] (wMo D o th m) (fun u => ((h, .inr (3, [.ref (a 0), .ref (b 0)])) :: (wSt D a u.1.1.1 u.1.1.2 ++ (wSt D b u.1.2.1 u.1.2.2 ++ ((q, .inl (D.1 6, 1, .inr (.inl u.2))) :: wMo D o th m))))) (h_fetchAll l hX.1 D h a b s s2 g g2 q f (xs (i + 1)) (xs (i + 2)) (xs (i + 3)) ho.1 ho.2.1) wq_12_8 wq_12_9 wq_3_10 wq_12_10 ⟨by decide, by decide, by decide +kernel⟩ dL_law_196 ⟨Nat.le_of_ble_eq_true rfl, Nat.le_of_ble_eq_true rfl, (show ce + 2 ≤ 709337 by omega), (show sl + 12 ≤ 6968092 by omega)⟩ rfl (Nat.le_of_ble_eq_true rfl) (by simp only [List.append_assoc, List.cons_append, List.nil_append, List.append_nil]) (fun _ => rfl) (fun _ => by simp only [List.append_assoc, List.cons_append, List.nil_append, List.append_nil]) _ rfl (fun v u hp => ?_)
  obtain ⟨rfl, hk, hSu⟩ := hp
  refine KJ.eqs (st' := .int (nI (serK (xs (i + 1)) (xs (i + 2)) (xs (i + 3)))) :: []) rfl ?_
  refine k_istore hC 199 5 [(5, .int (nI (serK (xs (i + 1)) (xs (i + 2)) (xs (i + 3))))), (0, .ref bb), (1, .ref h), (2, .ref (o 0)), (3, .ref q), (4, .int (nI i))] dL_law_199 (by decide) rfl ?_
  refine k_aload_n hC 201 dL_law_201 rfl ?_
  refine k_aload_n hC 202 dL_law_202 rfl ?_
  refine k_iload hC 203 dL_law_203 rfl ?_
  refine k_iconst hC 205 dL_law_205 (nI 1) (by decide) ?_
  refine n_iadd hC 206 (i + 1) dL_law_206 rfl ?_
  refine k_sld hC hsc hbl hbA 207 dL_law_207 (show i + 1 < L by omega) (by omega) ?_
  refine k_aload_n hC 208 dL_law_208 rfl ?_
  refine k_iload hC 209 dL_law_209 rfl ?_
  refine k_iconst hC 211 dL_law_211 (nI 2) (by decide) ?_
  refine n_iadd hC 212 (i + 2) dL_law_212 rfl ?_
  refine k_sld hC hsc hbl hbA 213 dL_law_213 (show i + 2 < L by omega) (by omega) ?_
  refine k_aload_n hC 214 dL_law_214 rfl ?_
  refine k_iload hC 215 dL_law_215 rfl ?_
  refine k_iconst hC 217 dL_law_217 (nI 3) (by decide) ?_
  refine n_iadd hC 218 (i + 3) dL_law_218 rfl ?_
  refine k_sld hC hsc hbl hbA 219 dL_law_219 (show i + 3 < L by omega) (by omega) ?_
  refine f_callV hC 220 32 ((h, .inr (3, [.ref (a 0), .ref (b 0)])) :: (wSt D a u.1.1.1 u.1.1.2 ++ (wSt D b u.1.2.1 u.1.2.2 ++ ((q, .inl (D.1 6, 1, .inr (.inl u.2))) :: [])))) [] (fun w => ((h, .inr (3, [.ref (a 0), .ref (b 0)])) :: (wSt D a u.1.1.1 u.1.1.2 ++ (wSt D b u.1.2.1 u.1.2.2 ++ ((q, .inl (D.1 6, 1, .inr (.inl u.2))) :: wMo D o (nI (serK (xs (i + 1)) (xs (i + 2)) (xs (i + 3)))) w))))) (M_fetchAll l D o th s m (xs (i + 1)) (xs (i + 2)) (xs (i + 3)) ho.2.2.1 ho.2.1 ho.2.2.2) cw_RL_77 dL_law_220 ⟨Nat.le_of_ble_eq_true rfl, Nat.le_of_ble_eq_true rfl, (show ce + 2 + 30 ≤ 709337 by omega), (show sl + 12 + 120 ≤ 6968092 by omega)⟩ rfl (Nat.le_of_ble_eq_true rfl) rfl rfl rfl (by simp only [List.append_assoc, List.cons_append, List.nil_append, List.append_nil]) (fun _ => rfl) (fun _ => by simp only [List.append_assoc, List.cons_append, List.nil_append, List.append_nil]) _ rfl (fun v w hp => ?_)
  obtain ⟨x, rfl, hm⟩ := hp
  refine KJ.eqs (st' := .int x :: []) rfl ?_
  refine k_istore hC 223 6 [(6, .int x), (5, .int (nI (serK (xs (i + 1)) (xs (i + 2)) (xs (i + 3))))), (0, .ref bb), (1, .ref h), (2, .ref (o 0)), (3, .ref q), (4, .int (nI i))] dL_law_223 (by decide) rfl ?_
  refine k_aload_n hC 225 dL_law_225 rfl ?_
  refine f_callV hC 226 32 ((h, .inr (3, [.ref (a 0), .ref (b 0)])) :: (wSt D a u.1.1.1 u.1.1.2 ++ (wSt D b u.1.2.1 u.1.2.2 ++ ((q, .inl (D.1 6, 1, .inr (.inl u.2))) :: [])))) [] (fun _ => ((h, .inr (3, [.ref (a 0), .ref (b 0)])) :: (wSt D a u.1.1.1 u.1.1.2 ++ (wSt D b u.1.2.1 u.1.2.2 ++ ((q, .inl (D.1 6, 1, .inr (.inl u.2))) :: wMo D o (nI (serK (xs (i + 1)) (xs (i + 2)) (xs (i + 3)))) w))))) (M_thrown l D o (nI (serK (xs (i + 1)) (xs (i + 2)) (xs (i + 3)))) w) cw_RL_70 dL_law_226 ⟨Nat.le_of_ble_eq_true rfl, Nat.le_of_ble_eq_true rfl, (show ce + 2 + 30 + 0 ≤ 709337 by omega), (show sl + 12 + 120 + 0 ≤ 6968092 by omega)⟩ rfl (Nat.le_of_ble_eq_true rfl) rfl rfl rfl (by simp only [List.append_assoc, List.cons_append, List.nil_append, List.append_nil]) (fun _ => rfl) (fun _ => by simp only [List.append_assoc, List.cons_append, List.nil_append, List.append_nil]) _ rfl (fun v _ hp => ?_)
  obtain rfl := hp
  refine KJ.eqs (st' := .int (nI (serK (xs (i + 1)) (xs (i + 2)) (xs (i + 3)))) :: []) rfl ?_
  refine k_iload hC 229 dL_law_229 rfl ?_
  refine k_icmp_eq hC 231 236 dL_law_231 (by decide) (fun h231 => ?_) (fun h231 => ?_)
  · skip
    refine k_iload hC 236 dL_law_236 rfl ?_
    refine n_if_ne hC 238 253 dL_law_238 (by decide) kK_lt (fun h238 => ?_) (fun h238 => ?_)
    · skip
      have es : u.1.1.1 = s := hk.elim (fun z => absurd z.1 h238) (fun z => z.2)
      have em : MR s w := hm.elim (fun z => absurd z.1 h238) (fun z => z.2)
      refine k_goto hC 253 1080 dL_law_253 (by decide) ?_
      refine KJ.lvp [2, 3, 4, 5, 6] rfl ?_
      refine KJ.wide (ce' := ce + 350) (sl' := sl + 1600) (by omega) (by omega) ?_
      exact kk u.1.1.1 u.1.1.2 u.1.2.1 u.1.2.2 u.2 _ w (⟨hSu, by rw [es]; exact ho.2.1, by rw [es]; exact em, by rw [es]; exact ho.2.2.2⟩)
    · skip
      obtain ⟨es, ef⟩ : u.1.1.1 = serS s (xs (i + 1)) (xs (i + 2)) (xs (i + 3)) ∧ u.2 0 = (serV s (xs (i + 1)) (xs (i + 2)) (xs (i + 3))).toInt64 := hk.elim (fun z => z.2) (fun z => absurd h238 z.1)
      obtain ⟨ex, em⟩ : x = serV s (xs (i + 1)) (xs (i + 2)) (xs (i + 3)) ∧ MR (serS s (xs (i + 1)) (xs (i + 2)) (xs (i + 3))) w := hm.elim (fun z => z.2) (fun z => absurd h238 z.1)
      have ok := ok_fetchAll (xs (i + 1)) (xs (i + 2)) (xs (i + 3)) ho.2.1 ho.2.2.2 h238
      refine k_aload_n hC 241 dL_law_241 rfl ?_
      refine k_iconst hC 242 dL_law_242 (nI 0) (by decide) ?_
      refine n_lald hC 243 31 (u.2 0) dL_law_243 rfl (by omega) (by decide) rfl ?_
      refine k_iload hC 244 dL_law_244 rfl ?_
      refine k_i2l hC 246 dL_law_246 x.toInt64 rfl ?_
      refine k_lcmp hC 247 dL_law_247 (KJ.topi (y := nI 0) (by rw [ef, ex]; exact lg_same _) ?_)
      refine n_if_eq hC 248 253 dL_law_248 (by decide) (by omega) (fun h248 => ?_) (fun h248 => ?_)
      · skip
        refine k_goto hC 253 1080 dL_law_253 (by decide) ?_
        refine KJ.lvp [2, 3, 4, 5, 6] rfl ?_
        refine KJ.wide (ce' := ce + 350) (sl' := sl + 1600) (by omega) (by omega) ?_
        exact kk u.1.1.1 u.1.1.2 u.1.2.1 u.1.2.2 u.2 _ w (⟨hSu, by rw [es]; exact ok.1, by rw [es]; exact em, by rw [es]; exact ok.2⟩)
      · skip
        exact absurd h248 (by decide)
  · skip
    exact absurd rfl h231
set_option maxHeartbeats 400000 in
set_option maxRecDepth 100000 in
theorem lc_pin (l : Launch) (G : KX) (D : va_G) (bb L : Nat) (xs : Nat → Int32) (h q : Nat) (a b o : Nat → Nat) (i ce sl : Nat) (hLX : LX l G D bb L xs) (hi : i + 4 ≤ L) (hce : ce + 350 ≤ 709337) (hsl : sl + 1600 ≤ 6968092) (kk : LK l G D bb h q a b o i (ce + 350) (sl + 1600)) (s : PS) (g : PG) (s2 : PS) (g2 : PG) (f : Nat → Int64) (th : Int32) (m : MG) (ho : OKs s g m) : KJ l G D room_1 9 ce sl ((h, .inr (3, [.ref (a 0), .ref (b 0)])) :: (wSt D a s g ++ (wSt D b s2 g2 ++ ((q, .inl (D.1 6, 1, .inr (.inl f))) :: wMo D o th m)))) [(0, .ref bb), (1, .ref h), (2, .ref (o 0)), (3, .ref q), (4, .int (nI i))] 256 [] := by
  obtain ⟨hC, hX, ⟨hsc, hbl, hbA⟩, hL⟩ := hLX
  have hC : CX G D cL_law RL 9 := hC
  refine k_aload_n hC 256 dL_law_256 rfl ?_
  refine k_aload_n hC 257 dL_law_257 rfl ?_
  refine k_iload hC 258 dL_law_258 rfl ?_
  refine k_iconst hC 260 dL_law_260 (nI 1) (by decide) ?_
  refine n_iadd hC 261 (i + 1) dL_law_261 rfl ?_
  refine k_sld hC hsc hbl hbA 262 dL_law_262 (show i + 1 < L by omega) (by omega) ?_
  refine k_aload_n hC 263 dL_law_263 rfl ?_
  refine hf_callS (n := 3) hC hX 264 [] (wMo D o th m) (fun u => ((h, .inr (3, [.ref (a 0), .ref (b 0)])) :: (wSt D a u.1.1.1 u.1.1.2 ++ (wSt D b u.1.2.1 u.1.2.2 ++ ((q, .inl (D.1 6, 1, .inr (.inl u.2))) :: wMo D o th m))))) (h_pin l hX.1 D h a b s s2 g g2 q f (xs (i + 1)) ho.1 ho.2.1) wq_13_14 wq_13_15 wq_3_10 wq_13_16 ⟨by decide, by decide, by decide +kernel⟩ dL_law_264 ⟨Nat.le_of_ble_eq_true rfl, Nat.le_of_ble_eq_true rfl, (show ce + 3 ≤ 709337 by omega), (show sl + 18 ≤ 6968092 by omega)⟩ rfl (Nat.le_of_ble_eq_true rfl) (by simp only [List.append_assoc, List.cons_append, List.nil_append, List.append_nil]) (fun _ => rfl) (fun _ => by simp only [List.append_assoc, List.cons_append, List.nil_append, List.append_nil]) _ rfl (fun v u hp => ?_)
  obtain ⟨rfl, hk, hSu⟩ := hp
  refine KJ.eqs (st' := .int (nI (pinK s (xs (i + 1)))) :: []) rfl ?_
  refine k_istore hC 267 5 [(5, .int (nI (pinK s (xs (i + 1))))), (0, .ref bb), (1, .ref h), (2, .ref (o 0)), (3, .ref q), (4, .int (nI i))] dL_law_267 (by decide) rfl ?_
  refine k_aload_n hC 269 dL_law_269 rfl ?_
  refine k_aload_n hC 270 dL_law_270 rfl ?_
  refine k_iload hC 271 dL_law_271 rfl ?_
  refine k_iconst hC 273 dL_law_273 (nI 1) (by decide) ?_
  refine n_iadd hC 274 (i + 1) dL_law_274 rfl ?_
  refine k_sld hC hsc hbl hbA 275 dL_law_275 (show i + 1 < L by omega) (by omega) ?_
  refine f_callV hC 276 32 ((h, .inr (3, [.ref (a 0), .ref (b 0)])) :: (wSt D a u.1.1.1 u.1.1.2 ++ (wSt D b u.1.2.1 u.1.2.2 ++ ((q, .inl (D.1 6, 1, .inr (.inl u.2))) :: [])))) [] (fun w => ((h, .inr (3, [.ref (a 0), .ref (b 0)])) :: (wSt D a u.1.1.1 u.1.1.2 ++ (wSt D b u.1.2.1 u.1.2.2 ++ ((q, .inl (D.1 6, 1, .inr (.inl u.2))) :: wMo D o (nI (pinK s (xs (i + 1)))) w))))) (M_pin l D o th s m (xs (i + 1)) ho.2.2.1 ho.2.1 ho.2.2.2) cw_RL_80 dL_law_276 ⟨Nat.le_of_ble_eq_true rfl, Nat.le_of_ble_eq_true rfl, (show ce + 3 + 0 ≤ 709337 by omega), (show sl + 18 + 0 ≤ 6968092 by omega)⟩ rfl (Nat.le_of_ble_eq_true rfl) rfl rfl rfl (by simp only [List.append_assoc, List.cons_append, List.nil_append, List.append_nil]) (fun _ => rfl) (fun _ => by simp only [List.append_assoc, List.cons_append, List.nil_append, List.append_nil]) _ rfl (fun v w hp => ?_)
  obtain ⟨x, rfl, hm⟩ := hp
  refine KJ.eqs (st' := .int x :: []) rfl ?_
  refine k_istore hC 279 6 [(6, .int x), (5, .int (nI (pinK s (xs (i + 1))))), (0, .ref bb), (1, .ref h), (2, .ref (o 0)), (3, .ref q), (4, .int (nI i))] dL_law_279 (by decide) rfl ?_
  refine k_aload_n hC 281 dL_law_281 rfl ?_
  refine f_callV hC 282 32 ((h, .inr (3, [.ref (a 0), .ref (b 0)])) :: (wSt D a u.1.1.1 u.1.1.2 ++ (wSt D b u.1.2.1 u.1.2.2 ++ ((q, .inl (D.1 6, 1, .inr (.inl u.2))) :: [])))) [] (fun _ => ((h, .inr (3, [.ref (a 0), .ref (b 0)])) :: (wSt D a u.1.1.1 u.1.1.2 ++ (wSt D b u.1.2.1 u.1.2.2 ++ ((q, .inl (D.1 6, 1, .inr (.inl u.2))) :: wMo D o (nI (pinK s (xs (i + 1)))) w))))) (M_thrown l D o (nI (pinK s (xs (i + 1)))) w) cw_RL_70 dL_law_282 ⟨Nat.le_of_ble_eq_true rfl, Nat.le_of_ble_eq_true rfl, (show ce + 3 + 0 + 0 ≤ 709337 by omega), (show sl + 18 + 0 + 0 ≤ 6968092 by omega)⟩ rfl (Nat.le_of_ble_eq_true rfl) rfl rfl rfl (by simp only [List.append_assoc, List.cons_append, List.nil_append, List.append_nil]) (fun _ => rfl) (fun _ => by simp only [List.append_assoc, List.cons_append, List.nil_append, List.append_nil]) _ rfl (fun v _ hp => ?_)
  obtain rfl := hp
  refine KJ.eqs (st' := .int (nI (pinK s (xs (i + 1)))) :: []) rfl ?_
  refine k_iload hC 285 dL_law_285 rfl ?_
  refine k_icmp_eq hC 287 292 dL_law_287 (by decide) (fun h287 => ?_) (fun h287 => ?_)
  · skip
    refine k_iload hC 292 dL_law_292 rfl ?_
    refine n_if_ne hC 294 309 dL_law_294 (by decide) kK_lt (fun h294 => ?_) (fun h294 => ?_)
    · skip
      have es : u.1.1.1 = s := hk.elim (fun z => absurd z.1 h294) (fun z => z.2)
      have em : MR s w := hm.elim (fun z => absurd z.1 h294) (fun z => z.2)
      refine k_goto hC 309 1080 dL_law_309 (by decide) ?_
      refine KJ.lvp [2, 3, 4, 5, 6] rfl ?_
      refine KJ.wide (ce' := ce + 350) (sl' := sl + 1600) (by omega) (by omega) ?_
      exact kk u.1.1.1 u.1.1.2 u.1.2.1 u.1.2.2 u.2 _ w (⟨hSu, by rw [es]; exact ho.2.1, by rw [es]; exact em, by rw [es]; exact ho.2.2.2⟩)
    · skip
      obtain ⟨es, ef⟩ : u.1.1.1 = upPi s (kn (xs (i + 1))) (piS s (kn (xs (i + 1))) + 1) ∧ u.2 0 = (nI (piS s (kn (xs (i + 1))) + 1)).toInt64 := hk.elim (fun z => z.2) (fun z => absurd h294 z.1)
      obtain ⟨ex, em⟩ : x = nI (piS s (kn (xs (i + 1))) + 1) ∧ MR (upPi s (kn (xs (i + 1))) (piS s (kn (xs (i + 1))) + 1)) w := hm.elim (fun z => z.2) (fun z => absurd h294 z.1)
      have ok := ok_pin (xs (i + 1)) ho.2.1 ho.2.2.2 h294
      refine k_aload_n hC 297 dL_law_297 rfl ?_
      refine k_iconst hC 298 dL_law_298 (nI 0) (by decide) ?_
      refine n_lald hC 299 31 (u.2 0) dL_law_299 rfl (by omega) (by decide) rfl ?_
      refine k_iload hC 300 dL_law_300 rfl ?_
      refine k_i2l hC 302 dL_law_302 x.toInt64 rfl ?_
      refine k_lcmp hC 303 dL_law_303 (KJ.topi (y := nI 0) (by rw [ef, ex]; exact lg_same _) ?_)
      refine n_if_eq hC 304 309 dL_law_304 (by decide) (by omega) (fun h304 => ?_) (fun h304 => ?_)
      · skip
        refine k_goto hC 309 1080 dL_law_309 (by decide) ?_
        refine KJ.lvp [2, 3, 4, 5, 6] rfl ?_
        refine KJ.wide (ce' := ce + 350) (sl' := sl + 1600) (by omega) (by omega) ?_
        exact kk u.1.1.1 u.1.1.2 u.1.2.1 u.1.2.2 u.2 _ w (⟨hSu, by rw [es]; exact ok.1, by rw [es]; exact em, by rw [es]; exact ok.2⟩)
      · skip
        exact absurd h304 (by decide)
  · skip
    exact absurd rfl h287
set_option maxHeartbeats 400000 in
set_option maxRecDepth 100000 in
theorem lc_unpin (l : Launch) (G : KX) (D : va_G) (bb L : Nat) (xs : Nat → Int32) (h q : Nat) (a b o : Nat → Nat) (i ce sl : Nat) (hLX : LX l G D bb L xs) (hi : i + 4 ≤ L) (hce : ce + 350 ≤ 709337) (hsl : sl + 1600 ≤ 6968092) (kk : LK l G D bb h q a b o i (ce + 350) (sl + 1600)) (s : PS) (g : PG) (s2 : PS) (g2 : PG) (f : Nat → Int64) (th : Int32) (m : MG) (ho : OKs s g m) : KJ l G D room_1 9 ce sl ((h, .inr (3, [.ref (a 0), .ref (b 0)])) :: (wSt D a s g ++ (wSt D b s2 g2 ++ ((q, .inl (D.1 6, 1, .inr (.inl f))) :: wMo D o th m)))) [(0, .ref bb), (1, .ref h), (2, .ref (o 0)), (3, .ref q), (4, .int (nI i))] 312 [] := by
  obtain ⟨hC, hX, ⟨hsc, hbl, hbA⟩, hL⟩ := hLX
  have hC : CX G D cL_law RL 9 := hC
  refine k_aload_n hC 312 dL_law_312 rfl ?_
  refine k_aload_n hC 313 dL_law_313 rfl ?_
  refine k_iload hC 314 dL_law_314 rfl ?_
  refine k_iconst hC 316 dL_law_316 (nI 1) (by decide) ?_
  refine n_iadd hC 317 (i + 1) dL_law_317 rfl ?_
  refine k_sld hC hsc hbl hbA 318 dL_law_318 (show i + 1 < L by omega) (by omega) ?_
  refine k_aload_n hC 319 dL_law_319 rfl ?_
  refine hf_callS (n := 3) hC hX 320 [] (wMo D o th m) (fun u => ((h, .inr (3, [.ref (a 0), .ref (b 0)])) :: (wSt D a u.1.1.1 u.1.1.2 ++ (wSt D b u.1.2.1 u.1.2.2 ++ ((q, .inl (D.1 6, 1, .inr (.inl u.2))) :: wMo D o th m))))) (h_unpin l hX.1 D h a b s s2 g g2 q f (xs (i + 1)) ho.1 ho.2.1) wq_14_11 wq_14_12 wq_3_10 wq_14_13 ⟨by decide, by decide, by decide +kernel⟩ dL_law_320 ⟨Nat.le_of_ble_eq_true rfl, Nat.le_of_ble_eq_true rfl, (show ce + 3 ≤ 709337 by omega), (show sl + 18 ≤ 6968092 by omega)⟩ rfl (Nat.le_of_ble_eq_true rfl) (by simp only [List.append_assoc, List.cons_append, List.nil_append, List.append_nil]) (fun _ => rfl) (fun _ => by simp only [List.append_assoc, List.cons_append, List.nil_append, List.append_nil]) _ rfl (fun v u hp => ?_)
  obtain ⟨rfl, hk, hSu⟩ := hp
  refine KJ.eqs (st' := .int (nI (unpinK s (xs (i + 1)))) :: []) rfl ?_
  refine k_istore hC 323 5 [(5, .int (nI (unpinK s (xs (i + 1))))), (0, .ref bb), (1, .ref h), (2, .ref (o 0)), (3, .ref q), (4, .int (nI i))] dL_law_323 (by decide) rfl ?_
  refine k_aload_n hC 325 dL_law_325 rfl ?_
  refine k_aload_n hC 326 dL_law_326 rfl ?_
  refine k_iload hC 327 dL_law_327 rfl ?_
  refine k_iconst hC 329 dL_law_329 (nI 1) (by decide) ?_
  refine n_iadd hC 330 (i + 1) dL_law_330 rfl ?_
  refine k_sld hC hsc hbl hbA 331 dL_law_331 (show i + 1 < L by omega) (by omega) ?_
  refine f_callV hC 332 32 ((h, .inr (3, [.ref (a 0), .ref (b 0)])) :: (wSt D a u.1.1.1 u.1.1.2 ++ (wSt D b u.1.2.1 u.1.2.2 ++ ((q, .inl (D.1 6, 1, .inr (.inl u.2))) :: [])))) [] (fun w => ((h, .inr (3, [.ref (a 0), .ref (b 0)])) :: (wSt D a u.1.1.1 u.1.1.2 ++ (wSt D b u.1.2.1 u.1.2.2 ++ ((q, .inl (D.1 6, 1, .inr (.inl u.2))) :: wMo D o (nI (unpinK s (xs (i + 1)))) w))))) (M_unpin l D o th s m (xs (i + 1)) ho.2.2.1 ho.2.1 ho.2.2.2) cw_RL_83 dL_law_332 ⟨Nat.le_of_ble_eq_true rfl, Nat.le_of_ble_eq_true rfl, (show ce + 3 + 0 ≤ 709337 by omega), (show sl + 18 + 0 ≤ 6968092 by omega)⟩ rfl (Nat.le_of_ble_eq_true rfl) rfl rfl rfl (by simp only [List.append_assoc, List.cons_append, List.nil_append, List.append_nil]) (fun _ => rfl) (fun _ => by simp only [List.append_assoc, List.cons_append, List.nil_append, List.append_nil]) _ rfl (fun v w hp => ?_)
  obtain ⟨x, rfl, hm⟩ := hp
  refine KJ.eqs (st' := .int x :: []) rfl ?_
  refine k_istore hC 335 6 [(6, .int x), (5, .int (nI (unpinK s (xs (i + 1))))), (0, .ref bb), (1, .ref h), (2, .ref (o 0)), (3, .ref q), (4, .int (nI i))] dL_law_335 (by decide) rfl ?_
  refine k_aload_n hC 337 dL_law_337 rfl ?_
  refine f_callV hC 338 32 ((h, .inr (3, [.ref (a 0), .ref (b 0)])) :: (wSt D a u.1.1.1 u.1.1.2 ++ (wSt D b u.1.2.1 u.1.2.2 ++ ((q, .inl (D.1 6, 1, .inr (.inl u.2))) :: [])))) [] (fun _ => ((h, .inr (3, [.ref (a 0), .ref (b 0)])) :: (wSt D a u.1.1.1 u.1.1.2 ++ (wSt D b u.1.2.1 u.1.2.2 ++ ((q, .inl (D.1 6, 1, .inr (.inl u.2))) :: wMo D o (nI (unpinK s (xs (i + 1)))) w))))) (M_thrown l D o (nI (unpinK s (xs (i + 1)))) w) cw_RL_70 dL_law_338 ⟨Nat.le_of_ble_eq_true rfl, Nat.le_of_ble_eq_true rfl, (show ce + 3 + 0 + 0 ≤ 709337 by omega), (show sl + 18 + 0 + 0 ≤ 6968092 by omega)⟩ rfl (Nat.le_of_ble_eq_true rfl) rfl rfl rfl (by simp only [List.append_assoc, List.cons_append, List.nil_append, List.append_nil]) (fun _ => rfl) (fun _ => by simp only [List.append_assoc, List.cons_append, List.nil_append, List.append_nil]) _ rfl (fun v _ hp => ?_)
  obtain rfl := hp
  refine KJ.eqs (st' := .int (nI (unpinK s (xs (i + 1)))) :: []) rfl ?_
  refine k_iload hC 341 dL_law_341 rfl ?_
  refine k_icmp_eq hC 343 348 dL_law_343 (by decide) (fun h343 => ?_) (fun h343 => ?_)
  · skip
    refine k_iload hC 348 dL_law_348 rfl ?_
    refine n_if_ne hC 350 365 dL_law_350 (by decide) kK_lt (fun h350 => ?_) (fun h350 => ?_)
    · skip
      have es : u.1.1.1 = s := hk.elim (fun z => absurd z.1 h350) (fun z => z.2)
      have em : MR s w := hm.elim (fun z => absurd z.1 h350) (fun z => z.2)
      refine k_goto hC 365 1080 dL_law_365 (by decide) ?_
      refine KJ.lvp [2, 3, 4, 5, 6] rfl ?_
      refine KJ.wide (ce' := ce + 350) (sl' := sl + 1600) (by omega) (by omega) ?_
      exact kk u.1.1.1 u.1.1.2 u.1.2.1 u.1.2.2 u.2 _ w (⟨hSu, by rw [es]; exact ho.2.1, by rw [es]; exact em, by rw [es]; exact ho.2.2.2⟩)
    · skip
      obtain ⟨es, ef⟩ : u.1.1.1 = upPi s (kn (xs (i + 1))) (piS s (kn (xs (i + 1))) - 1) ∧ u.2 0 = (nI (piS s (kn (xs (i + 1))) - 1)).toInt64 := hk.elim (fun z => z.2) (fun z => absurd h350 z.1)
      obtain ⟨ex, em⟩ : x = nI (piS s (kn (xs (i + 1))) - 1) ∧ MR (upPi s (kn (xs (i + 1))) (piS s (kn (xs (i + 1))) - 1)) w := hm.elim (fun z => z.2) (fun z => absurd h350 z.1)
      have ok := ok_unpin (xs (i + 1)) ho.2.1 ho.2.2.2 h350
      refine k_aload_n hC 353 dL_law_353 rfl ?_
      refine k_iconst hC 354 dL_law_354 (nI 0) (by decide) ?_
      refine n_lald hC 355 31 (u.2 0) dL_law_355 rfl (by omega) (by decide) rfl ?_
      refine k_iload hC 356 dL_law_356 rfl ?_
      refine k_i2l hC 358 dL_law_358 x.toInt64 rfl ?_
      refine k_lcmp hC 359 dL_law_359 (KJ.topi (y := nI 0) (by rw [ef, ex]; exact lg_same _) ?_)
      refine n_if_eq hC 360 365 dL_law_360 (by decide) (by omega) (fun h360 => ?_) (fun h360 => ?_)
      · skip
        refine k_goto hC 365 1080 dL_law_365 (by decide) ?_
        refine KJ.lvp [2, 3, 4, 5, 6] rfl ?_
        refine KJ.wide (ce' := ce + 350) (sl' := sl + 1600) (by omega) (by omega) ?_
        exact kk u.1.1.1 u.1.1.2 u.1.2.1 u.1.2.2 u.2 _ w (⟨hSu, by rw [es]; exact ok.1, by rw [es]; exact em, by rw [es]; exact ok.2⟩)
      · skip
        exact absurd h360 (by decide)
  · skip
    exact absurd rfl h343
set_option maxHeartbeats 400000 in
set_option maxRecDepth 100000 in
theorem lc_eat (l : Launch) (G : KX) (D : va_G) (bb L : Nat) (xs : Nat → Int32) (h q : Nat) (a b o : Nat → Nat) (i ce sl : Nat) (hLX : LX l G D bb L xs) (hi : i + 4 ≤ L) (hce : ce + 350 ≤ 709337) (hsl : sl + 1600 ≤ 6968092) (kk : LK l G D bb h q a b o i (ce + 350) (sl + 1600)) (s : PS) (g : PG) (s2 : PS) (g2 : PG) (f : Nat → Int64) (th : Int32) (m : MG) (ho : OKs s g m) : KJ l G D room_1 9 ce sl ((h, .inr (3, [.ref (a 0), .ref (b 0)])) :: (wSt D a s g ++ (wSt D b s2 g2 ++ ((q, .inl (D.1 6, 1, .inr (.inl f))) :: wMo D o th m)))) [(0, .ref bb), (1, .ref h), (2, .ref (o 0)), (3, .ref q), (4, .int (nI i))] 368 [] := by
  obtain ⟨hC, hX, ⟨hsc, hbl, hbA⟩, hL⟩ := hLX
  have hC : CX G D cL_law RL 9 := hC
  refine k_aload_n hC 368 dL_law_368 rfl ?_
  refine k_aload_n hC 369 dL_law_369 rfl ?_
  refine k_iload hC 370 dL_law_370 rfl ?_
  refine k_iconst hC 372 dL_law_372 (nI 1) (by decide) ?_
  refine n_iadd hC 373 (i + 1) dL_law_373 rfl ?_
  refine k_sld hC hsc hbl hbA 374 dL_law_374 (show i + 1 < L by omega) (by omega) ?_
  refine k_aload_n hC 375 dL_law_375 rfl ?_
  refine hf_callS (n := 3) hC hX 376 [] (wMo D o th m) (fun u => ((h, .inr (3, [.ref (a 0), .ref (b 0)])) :: (wSt D a u.1.1.1 u.1.1.2 ++ (wSt D b u.1.2.1 u.1.2.2 ++ ((q, .inl (D.1 6, 1, .inr (.inl u.2))) :: wMo D o th m))))) (h_eat l hX.1 D h a b s s2 g g2 q f (xs (i + 1)) ho.1 ho.2.1) wq_14_22 wq_14_23 wq_3_10 wq_15_0 ⟨by decide, by decide, by decide +kernel⟩ dL_law_376 ⟨Nat.le_of_ble_eq_true rfl, Nat.le_of_ble_eq_true rfl, (show ce + 3 ≤ 709337 by omega), (show sl + 18 ≤ 6968092 by omega)⟩ rfl (Nat.le_of_ble_eq_true rfl) (by simp only [List.append_assoc, List.cons_append, List.nil_append, List.append_nil]) (fun _ => rfl) (fun _ => by simp only [List.append_assoc, List.cons_append, List.nil_append, List.append_nil]) _ rfl (fun v u hp => ?_)
  obtain ⟨rfl, hk, hSu⟩ := hp
  refine KJ.eqs (st' := .int (nI (eatK s (xs (i + 1)))) :: []) rfl ?_
  refine k_istore hC 379 5 [(5, .int (nI (eatK s (xs (i + 1))))), (0, .ref bb), (1, .ref h), (2, .ref (o 0)), (3, .ref q), (4, .int (nI i))] dL_law_379 (by decide) rfl ?_
  refine k_aload_n hC 381 dL_law_381 rfl ?_
  refine k_aload_n hC 382 dL_law_382 rfl ?_
  refine k_iload hC 383 dL_law_383 rfl ?_
  refine k_iconst hC 385 dL_law_385 (nI 1) (by decide) ?_
  refine n_iadd hC 386 (i + 1) dL_law_386 rfl ?_
  refine k_sld hC hsc hbl hbA 387 dL_law_387 (show i + 1 < L by omega) (by omega) ?_
  refine f_callV hC 388 32 ((h, .inr (3, [.ref (a 0), .ref (b 0)])) :: (wSt D a u.1.1.1 u.1.1.2 ++ (wSt D b u.1.2.1 u.1.2.2 ++ ((q, .inl (D.1 6, 1, .inr (.inl u.2))) :: [])))) [] (fun w => ((h, .inr (3, [.ref (a 0), .ref (b 0)])) :: (wSt D a u.1.1.1 u.1.1.2 ++ (wSt D b u.1.2.1 u.1.2.2 ++ ((q, .inl (D.1 6, 1, .inr (.inl u.2))) :: wMo D o (nI (eatK s (xs (i + 1)))) w))))) (M_eat l D o th s m (xs (i + 1)) ho.2.2.1 ho.2.1 ho.2.2.2) cw_RL_86 dL_law_388 ⟨Nat.le_of_ble_eq_true rfl, Nat.le_of_ble_eq_true rfl, (show ce + 3 + 0 ≤ 709337 by omega), (show sl + 18 + 0 ≤ 6968092 by omega)⟩ rfl (Nat.le_of_ble_eq_true rfl) rfl rfl rfl (by simp only [List.append_assoc, List.cons_append, List.nil_append, List.append_nil]) (fun _ => rfl) (fun _ => by simp only [List.append_assoc, List.cons_append, List.nil_append, List.append_nil]) _ rfl (fun v w hp => ?_)
  obtain ⟨x, rfl, hm⟩ := hp
  refine KJ.eqs (st' := .int x :: []) rfl ?_
  refine k_istore hC 391 6 [(6, .int x), (5, .int (nI (eatK s (xs (i + 1))))), (0, .ref bb), (1, .ref h), (2, .ref (o 0)), (3, .ref q), (4, .int (nI i))] dL_law_391 (by decide) rfl ?_
  refine k_aload_n hC 393 dL_law_393 rfl ?_
  refine f_callV hC 394 32 ((h, .inr (3, [.ref (a 0), .ref (b 0)])) :: (wSt D a u.1.1.1 u.1.1.2 ++ (wSt D b u.1.2.1 u.1.2.2 ++ ((q, .inl (D.1 6, 1, .inr (.inl u.2))) :: [])))) [] (fun _ => ((h, .inr (3, [.ref (a 0), .ref (b 0)])) :: (wSt D a u.1.1.1 u.1.1.2 ++ (wSt D b u.1.2.1 u.1.2.2 ++ ((q, .inl (D.1 6, 1, .inr (.inl u.2))) :: wMo D o (nI (eatK s (xs (i + 1)))) w))))) (M_thrown l D o (nI (eatK s (xs (i + 1)))) w) cw_RL_70 dL_law_394 ⟨Nat.le_of_ble_eq_true rfl, Nat.le_of_ble_eq_true rfl, (show ce + 3 + 0 + 0 ≤ 709337 by omega), (show sl + 18 + 0 + 0 ≤ 6968092 by omega)⟩ rfl (Nat.le_of_ble_eq_true rfl) rfl rfl rfl (by simp only [List.append_assoc, List.cons_append, List.nil_append, List.append_nil]) (fun _ => rfl) (fun _ => by simp only [List.append_assoc, List.cons_append, List.nil_append, List.append_nil]) _ rfl (fun v _ hp => ?_)
  obtain rfl := hp
  refine KJ.eqs (st' := .int (nI (eatK s (xs (i + 1)))) :: []) rfl ?_
  refine k_iload hC 397 dL_law_397 rfl ?_
  refine k_icmp_eq hC 399 404 dL_law_399 (by decide) (fun h399 => ?_) (fun h399 => ?_)
  · skip
    refine k_iload hC 404 dL_law_404 rfl ?_
    refine n_if_ne hC 406 421 dL_law_406 (by decide) kK_lt (fun h406 => ?_) (fun h406 => ?_)
    · skip
      have es : u.1.1.1 = s := hk.elim (fun z => absurd z.1 h406) (fun z => z.2)
      have em : MR s w := hm.elim (fun z => absurd z.1 h406) (fun z => z.2)
      refine k_goto hC 421 1080 dL_law_421 (by decide) ?_
      refine KJ.lvp [2, 3, 4, 5, 6] rfl ?_
      refine KJ.wide (ce' := ce + 350) (sl' := sl + 1600) (by omega) (by omega) ?_
      exact kk u.1.1.1 u.1.1.2 u.1.2.1 u.1.2.2 u.2 _ w (⟨hSu, by rw [es]; exact ho.2.1, by rw [es]; exact em, by rw [es]; exact ho.2.2.2⟩)
    · skip
      obtain ⟨es, ef⟩ : u.1.1.1 = eatS s (kn (xs (i + 1))) ∧ u.2 0 = (feS s (kn (xs (i + 1)))).toInt64 := hk.elim (fun z => z.2) (fun z => absurd h406 z.1)
      obtain ⟨ex, em⟩ : x = feS s (kn (xs (i + 1))) ∧ MR (eatS s (kn (xs (i + 1)))) w := hm.elim (fun z => z.2) (fun z => absurd h406 z.1)
      have ok := ok_eat (xs (i + 1)) ho.2.1 ho.2.2.2 h406
      refine k_aload_n hC 409 dL_law_409 rfl ?_
      refine k_iconst hC 410 dL_law_410 (nI 0) (by decide) ?_
      refine n_lald hC 411 31 (u.2 0) dL_law_411 rfl (by omega) (by decide) rfl ?_
      refine k_iload hC 412 dL_law_412 rfl ?_
      refine k_i2l hC 414 dL_law_414 x.toInt64 rfl ?_
      refine k_lcmp hC 415 dL_law_415 (KJ.topi (y := nI 0) (by rw [ef, ex]; exact lg_same _) ?_)
      refine n_if_eq hC 416 421 dL_law_416 (by decide) (by omega) (fun h416 => ?_) (fun h416 => ?_)
      · skip
        refine k_goto hC 421 1080 dL_law_421 (by decide) ?_
        refine KJ.lvp [2, 3, 4, 5, 6] rfl ?_
        refine KJ.wide (ce' := ce + 350) (sl' := sl + 1600) (by omega) (by omega) ?_
        exact kk u.1.1.1 u.1.1.2 u.1.2.1 u.1.2.2 u.2 _ w (⟨hSu, by rw [es]; exact ok.1, by rw [es]; exact em, by rw [es]; exact ok.2⟩)
      · skip
        exact absurd h416 (by decide)
  · skip
    exact absurd rfl h399
set_option maxHeartbeats 400000 in
set_option maxRecDepth 100000 in
theorem lc_setPlaces (l : Launch) (G : KX) (D : va_G) (bb L : Nat) (xs : Nat → Int32) (h q : Nat) (a b o : Nat → Nat) (i ce sl : Nat) (hLX : LX l G D bb L xs) (hi : i + 4 ≤ L) (hce : ce + 350 ≤ 709337) (hsl : sl + 1600 ≤ 6968092) (kk : LK l G D bb h q a b o i (ce + 350) (sl + 1600)) (s : PS) (g : PG) (s2 : PS) (g2 : PG) (f : Nat → Int64) (th : Int32) (m : MG) (ho : OKs s g m) : KJ l G D room_1 9 ce sl ((h, .inr (3, [.ref (a 0), .ref (b 0)])) :: (wSt D a s g ++ (wSt D b s2 g2 ++ ((q, .inl (D.1 6, 1, .inr (.inl f))) :: wMo D o th m)))) [(0, .ref bb), (1, .ref h), (2, .ref (o 0)), (3, .ref q), (4, .int (nI i))] 424 [] := by
  obtain ⟨hC, hX, ⟨hsc, hbl, hbA⟩, hL⟩ := hLX
  have hC : CX G D cL_law RL 9 := hC
  refine k_aload_n hC 424 dL_law_424 rfl ?_
  refine k_aload_n hC 425 dL_law_425 rfl ?_
  refine k_iload hC 426 dL_law_426 rfl ?_
  refine k_iconst hC 428 dL_law_428 (nI 1) (by decide) ?_
  refine n_iadd hC 429 (i + 1) dL_law_429 rfl ?_
  refine k_sld hC hsc hbl hbA 430 dL_law_430 (show i + 1 < L by omega) (by omega) ?_
  refine k_aload_n hC 431 dL_law_431 rfl ?_
  refine hf_callS (n := 3) hC hX 432 [] (wMo D o th m) (fun u => ((h, .inr (3, [.ref (a 0), .ref (b 0)])) :: (wSt D a u.1.1.1 u.1.1.2 ++ (wSt D b u.1.2.1 u.1.2.2 ++ ((q, .inl (D.1 6, 1, .inr (.inl u.2))) :: wMo D o th m))))) (h_setPlaces l hX.1 D h a b s s2 g g2 q f (xs (i + 1)) ho.1 ho.2.1) wq_15_17 wq_15_18 wq_3_10 wq_15_19 ⟨by decide, by decide, by decide +kernel⟩ dL_law_432 ⟨Nat.le_of_ble_eq_true rfl, Nat.le_of_ble_eq_true rfl, (show ce + 1 ≤ 709337 by omega), (show sl + 6 ≤ 6968092 by omega)⟩ rfl (Nat.le_of_ble_eq_true rfl) (by simp only [List.append_assoc, List.cons_append, List.nil_append, List.append_nil]) (fun _ => rfl) (fun _ => by simp only [List.append_assoc, List.cons_append, List.nil_append, List.append_nil]) _ rfl (fun v u hp => ?_)
  obtain ⟨rfl, hk, hSu⟩ := hp
  refine KJ.eqs (st' := .int (nI (setPlacesK s (xs (i + 1)))) :: []) rfl ?_
  refine k_istore hC 435 5 [(5, .int (nI (setPlacesK s (xs (i + 1))))), (0, .ref bb), (1, .ref h), (2, .ref (o 0)), (3, .ref q), (4, .int (nI i))] dL_law_435 (by decide) rfl ?_
  refine k_aload_n hC 437 dL_law_437 rfl ?_
  refine k_aload_n hC 438 dL_law_438 rfl ?_
  refine k_iload hC 439 dL_law_439 rfl ?_
  refine k_iconst hC 441 dL_law_441 (nI 1) (by decide) ?_
  refine n_iadd hC 442 (i + 1) dL_law_442 rfl ?_
  refine k_sld hC hsc hbl hbA 443 dL_law_443 (show i + 1 < L by omega) (by omega) ?_
  refine f_callV hC 444 32 ((h, .inr (3, [.ref (a 0), .ref (b 0)])) :: (wSt D a u.1.1.1 u.1.1.2 ++ (wSt D b u.1.2.1 u.1.2.2 ++ ((q, .inl (D.1 6, 1, .inr (.inl u.2))) :: [])))) [] (fun w => ((h, .inr (3, [.ref (a 0), .ref (b 0)])) :: (wSt D a u.1.1.1 u.1.1.2 ++ (wSt D b u.1.2.1 u.1.2.2 ++ ((q, .inl (D.1 6, 1, .inr (.inl u.2))) :: wMo D o (nI (setPlacesK s (xs (i + 1)))) w))))) (M_setPlaces l D o th s m (xs (i + 1)) ho.2.2.1 ho.2.1 ho.2.2.2) cw_RL_89 dL_law_444 ⟨Nat.le_of_ble_eq_true rfl, Nat.le_of_ble_eq_true rfl, (show ce + 1 + 0 ≤ 709337 by omega), (show sl + 6 + 0 ≤ 6968092 by omega)⟩ rfl (Nat.le_of_ble_eq_true rfl) rfl rfl rfl (by simp only [List.append_assoc, List.cons_append, List.nil_append, List.append_nil]) (fun _ => rfl) (fun _ => by simp only [List.append_assoc, List.cons_append, List.nil_append, List.append_nil]) _ rfl (fun v w hp => ?_)
  obtain ⟨x, rfl, hm⟩ := hp
  refine KJ.eqs (st' := .int x :: []) rfl ?_
  refine k_istore hC 447 6 [(6, .int x), (5, .int (nI (setPlacesK s (xs (i + 1))))), (0, .ref bb), (1, .ref h), (2, .ref (o 0)), (3, .ref q), (4, .int (nI i))] dL_law_447 (by decide) rfl ?_
  refine k_aload_n hC 449 dL_law_449 rfl ?_
  refine f_callV hC 450 32 ((h, .inr (3, [.ref (a 0), .ref (b 0)])) :: (wSt D a u.1.1.1 u.1.1.2 ++ (wSt D b u.1.2.1 u.1.2.2 ++ ((q, .inl (D.1 6, 1, .inr (.inl u.2))) :: [])))) [] (fun _ => ((h, .inr (3, [.ref (a 0), .ref (b 0)])) :: (wSt D a u.1.1.1 u.1.1.2 ++ (wSt D b u.1.2.1 u.1.2.2 ++ ((q, .inl (D.1 6, 1, .inr (.inl u.2))) :: wMo D o (nI (setPlacesK s (xs (i + 1)))) w))))) (M_thrown l D o (nI (setPlacesK s (xs (i + 1)))) w) cw_RL_70 dL_law_450 ⟨Nat.le_of_ble_eq_true rfl, Nat.le_of_ble_eq_true rfl, (show ce + 1 + 0 + 0 ≤ 709337 by omega), (show sl + 6 + 0 + 0 ≤ 6968092 by omega)⟩ rfl (Nat.le_of_ble_eq_true rfl) rfl rfl rfl (by simp only [List.append_assoc, List.cons_append, List.nil_append, List.append_nil]) (fun _ => rfl) (fun _ => by simp only [List.append_assoc, List.cons_append, List.nil_append, List.append_nil]) _ rfl (fun v _ hp => ?_)
  obtain rfl := hp
  refine KJ.eqs (st' := .int (nI (setPlacesK s (xs (i + 1)))) :: []) rfl ?_
  refine k_iload hC 453 dL_law_453 rfl ?_
  refine k_icmp_eq hC 455 460 dL_law_455 (by decide) (fun h455 => ?_) (fun h455 => ?_)
  · skip
    refine k_iload hC 460 dL_law_460 rfl ?_
    refine n_if_ne hC 462 477 dL_law_462 (by decide) kK_lt (fun h462 => ?_) (fun h462 => ?_)
    · skip
      have es : u.1.1.1 = s := hk.elim (fun z => absurd z.1 h462) (fun z => z.2)
      have em : MR s w := hm.elim (fun z => absurd z.1 h462) (fun z => z.2)
      refine k_goto hC 477 1080 dL_law_477 (by decide) ?_
      refine KJ.lvp [2, 3, 4, 5, 6] rfl ?_
      refine KJ.wide (ce' := ce + 350) (sl' := sl + 1600) (by omega) (by omega) ?_
      exact kk u.1.1.1 u.1.1.2 u.1.2.1 u.1.2.2 u.2 _ w (⟨hSu, by rw [es]; exact ho.2.1, by rw [es]; exact em, by rw [es]; exact ho.2.2.2⟩)
    · skip
      obtain ⟨es, ef⟩ : u.1.1.1 = rsz (kn (xs (i + 1))) s ∧ u.2 0 = (nI (plS s)).toInt64 := hk.elim (fun z => z.2) (fun z => absurd h462 z.1)
      obtain ⟨ex, em⟩ : x = nI (plS s) ∧ MR (rsz (kn (xs (i + 1))) s) w := hm.elim (fun z => z.2) (fun z => absurd h462 z.1)
      have ok := ok_setPlaces (xs (i + 1)) ho.2.1 ho.2.2.2 h462
      refine k_aload_n hC 465 dL_law_465 rfl ?_
      refine k_iconst hC 466 dL_law_466 (nI 0) (by decide) ?_
      refine n_lald hC 467 31 (u.2 0) dL_law_467 rfl (by omega) (by decide) rfl ?_
      refine k_iload hC 468 dL_law_468 rfl ?_
      refine k_i2l hC 470 dL_law_470 x.toInt64 rfl ?_
      refine k_lcmp hC 471 dL_law_471 (KJ.topi (y := nI 0) (by rw [ef, ex]; exact lg_same _) ?_)
      refine n_if_eq hC 472 477 dL_law_472 (by decide) (by omega) (fun h472 => ?_) (fun h472 => ?_)
      · skip
        refine k_goto hC 477 1080 dL_law_477 (by decide) ?_
        refine KJ.lvp [2, 3, 4, 5, 6] rfl ?_
        refine KJ.wide (ce' := ce + 350) (sl' := sl + 1600) (by omega) (by omega) ?_
        exact kk u.1.1.1 u.1.1.2 u.1.2.1 u.1.2.2 u.2 _ w (⟨hSu, by rw [es]; exact ok.1, by rw [es]; exact em, by rw [es]; exact ok.2⟩)
      · skip
        exact absurd h472 (by decide)
  · skip
    exact absurd rfl h455
set_option maxHeartbeats 400000 in
set_option maxRecDepth 100000 in
theorem lc_setGoal (l : Launch) (G : KX) (D : va_G) (bb L : Nat) (xs : Nat → Int32) (h q : Nat) (a b o : Nat → Nat) (i ce sl : Nat) (hLX : LX l G D bb L xs) (hi : i + 4 ≤ L) (hce : ce + 350 ≤ 709337) (hsl : sl + 1600 ≤ 6968092) (kk : LK l G D bb h q a b o i (ce + 350) (sl + 1600)) (s : PS) (g : PG) (s2 : PS) (g2 : PG) (f : Nat → Int64) (th : Int32) (m : MG) (ho : OKs s g m) : KJ l G D room_1 9 ce sl ((h, .inr (3, [.ref (a 0), .ref (b 0)])) :: (wSt D a s g ++ (wSt D b s2 g2 ++ ((q, .inl (D.1 6, 1, .inr (.inl f))) :: wMo D o th m)))) [(0, .ref bb), (1, .ref h), (2, .ref (o 0)), (3, .ref q), (4, .int (nI i))] 480 [] := by
  obtain ⟨hC, hX, ⟨hsc, hbl, hbA⟩, hL⟩ := hLX
  have hC : CX G D cL_law RL 9 := hC
  refine k_aload_n hC 480 dL_law_480 rfl ?_
  refine k_aload_n hC 481 dL_law_481 rfl ?_
  refine k_iload hC 482 dL_law_482 rfl ?_
  refine k_iconst hC 484 dL_law_484 (nI 1) (by decide) ?_
  refine n_iadd hC 485 (i + 1) dL_law_485 rfl ?_
  refine k_sld hC hsc hbl hbA 486 dL_law_486 (show i + 1 < L by omega) (by omega) ?_
  refine k_aload_n hC 487 dL_law_487 rfl ?_
  refine hf_callS (n := 3) hC hX 488 [] (wMo D o th m) (fun u => ((h, .inr (3, [.ref (a 0), .ref (b 0)])) :: (wSt D a u.1.1.1 u.1.1.2 ++ (wSt D b u.1.2.1 u.1.2.2 ++ ((q, .inl (D.1 6, 1, .inr (.inl u.2))) :: wMo D o th m))))) (h_setGoal l hX.1 D h a b s s2 g g2 q f (xs (i + 1)) ho.1 ho.2.1) wq_16_13 wq_16_14 wq_3_10 wq_16_15 ⟨by decide, by decide, by decide +kernel⟩ dL_law_488 ⟨Nat.le_of_ble_eq_true rfl, Nat.le_of_ble_eq_true rfl, (show ce + 1 ≤ 709337 by omega), (show sl + 6 ≤ 6968092 by omega)⟩ rfl (Nat.le_of_ble_eq_true rfl) (by simp only [List.append_assoc, List.cons_append, List.nil_append, List.append_nil]) (fun _ => rfl) (fun _ => by simp only [List.append_assoc, List.cons_append, List.nil_append, List.append_nil]) _ rfl (fun v u hp => ?_)
  obtain ⟨rfl, hk, hSu⟩ := hp
  refine KJ.eqs (st' := .int (nI (setGoalK s (xs (i + 1)))) :: []) rfl ?_
  refine k_istore hC 491 5 [(5, .int (nI (setGoalK s (xs (i + 1))))), (0, .ref bb), (1, .ref h), (2, .ref (o 0)), (3, .ref q), (4, .int (nI i))] dL_law_491 (by decide) rfl ?_
  refine k_aload_n hC 493 dL_law_493 rfl ?_
  refine k_aload_n hC 494 dL_law_494 rfl ?_
  refine k_iload hC 495 dL_law_495 rfl ?_
  refine k_iconst hC 497 dL_law_497 (nI 1) (by decide) ?_
  refine n_iadd hC 498 (i + 1) dL_law_498 rfl ?_
  refine k_sld hC hsc hbl hbA 499 dL_law_499 (show i + 1 < L by omega) (by omega) ?_
  refine f_callV hC 500 32 ((h, .inr (3, [.ref (a 0), .ref (b 0)])) :: (wSt D a u.1.1.1 u.1.1.2 ++ (wSt D b u.1.2.1 u.1.2.2 ++ ((q, .inl (D.1 6, 1, .inr (.inl u.2))) :: [])))) [] (fun w => ((h, .inr (3, [.ref (a 0), .ref (b 0)])) :: (wSt D a u.1.1.1 u.1.1.2 ++ (wSt D b u.1.2.1 u.1.2.2 ++ ((q, .inl (D.1 6, 1, .inr (.inl u.2))) :: wMo D o (nI (setGoalK s (xs (i + 1)))) w))))) (M_setGoal l D o th s m (xs (i + 1)) ho.2.2.1 ho.2.1 ho.2.2.2) cw_RL_92 dL_law_500 ⟨Nat.le_of_ble_eq_true rfl, Nat.le_of_ble_eq_true rfl, (show ce + 1 + 0 ≤ 709337 by omega), (show sl + 6 + 0 ≤ 6968092 by omega)⟩ rfl (Nat.le_of_ble_eq_true rfl) rfl rfl rfl (by simp only [List.append_assoc, List.cons_append, List.nil_append, List.append_nil]) (fun _ => rfl) (fun _ => by simp only [List.append_assoc, List.cons_append, List.nil_append, List.append_nil]) _ rfl (fun v w hp => ?_)
  obtain ⟨x, rfl, hm⟩ := hp
  refine KJ.eqs (st' := .int x :: []) rfl ?_
  refine k_istore hC 503 6 [(6, .int x), (5, .int (nI (setGoalK s (xs (i + 1))))), (0, .ref bb), (1, .ref h), (2, .ref (o 0)), (3, .ref q), (4, .int (nI i))] dL_law_503 (by decide) rfl ?_
  refine k_aload_n hC 505 dL_law_505 rfl ?_
  refine f_callV hC 506 32 ((h, .inr (3, [.ref (a 0), .ref (b 0)])) :: (wSt D a u.1.1.1 u.1.1.2 ++ (wSt D b u.1.2.1 u.1.2.2 ++ ((q, .inl (D.1 6, 1, .inr (.inl u.2))) :: [])))) [] (fun _ => ((h, .inr (3, [.ref (a 0), .ref (b 0)])) :: (wSt D a u.1.1.1 u.1.1.2 ++ (wSt D b u.1.2.1 u.1.2.2 ++ ((q, .inl (D.1 6, 1, .inr (.inl u.2))) :: wMo D o (nI (setGoalK s (xs (i + 1)))) w))))) (M_thrown l D o (nI (setGoalK s (xs (i + 1)))) w) cw_RL_70 dL_law_506 ⟨Nat.le_of_ble_eq_true rfl, Nat.le_of_ble_eq_true rfl, (show ce + 1 + 0 + 0 ≤ 709337 by omega), (show sl + 6 + 0 + 0 ≤ 6968092 by omega)⟩ rfl (Nat.le_of_ble_eq_true rfl) rfl rfl rfl (by simp only [List.append_assoc, List.cons_append, List.nil_append, List.append_nil]) (fun _ => rfl) (fun _ => by simp only [List.append_assoc, List.cons_append, List.nil_append, List.append_nil]) _ rfl (fun v _ hp => ?_)
  obtain rfl := hp
  refine KJ.eqs (st' := .int (nI (setGoalK s (xs (i + 1)))) :: []) rfl ?_
  refine k_iload hC 509 dL_law_509 rfl ?_
  refine k_icmp_eq hC 511 516 dL_law_511 (by decide) (fun h511 => ?_) (fun h511 => ?_)
  · skip
    refine k_iload hC 516 dL_law_516 rfl ?_
    refine n_if_ne hC 518 533 dL_law_518 (by decide) kK_lt (fun h518 => ?_) (fun h518 => ?_)
    · skip
      have es : u.1.1.1 = s := hk.elim (fun z => absurd z.1 h518) (fun z => z.2)
      have em : MR s w := hm.elim (fun z => absurd z.1 h518) (fun z => z.2)
      refine k_goto hC 533 1080 dL_law_533 (by decide) ?_
      refine KJ.lvp [2, 3, 4, 5, 6] rfl ?_
      refine KJ.wide (ce' := ce + 350) (sl' := sl + 1600) (by omega) (by omega) ?_
      exact kk u.1.1.1 u.1.1.2 u.1.2.1 u.1.2.2 u.2 _ w (⟨hSu, by rw [es]; exact ho.2.1, by rw [es]; exact em, by rw [es]; exact ho.2.2.2⟩)
    · skip
      obtain ⟨es, ef⟩ : u.1.1.1 = goTo s (kn (xs (i + 1))) ∧ u.2 0 = (nI (goS s)).toInt64 := hk.elim (fun z => z.2) (fun z => absurd h518 z.1)
      obtain ⟨ex, em⟩ : x = nI (goS s) ∧ MR (goTo s (kn (xs (i + 1)))) w := hm.elim (fun z => z.2) (fun z => absurd h518 z.1)
      have ok := ok_setGoal (xs (i + 1)) ho.2.1 ho.2.2.2 h518
      refine k_aload_n hC 521 dL_law_521 rfl ?_
      refine k_iconst hC 522 dL_law_522 (nI 0) (by decide) ?_
      refine n_lald hC 523 31 (u.2 0) dL_law_523 rfl (by omega) (by decide) rfl ?_
      refine k_iload hC 524 dL_law_524 rfl ?_
      refine k_i2l hC 526 dL_law_526 x.toInt64 rfl ?_
      refine k_lcmp hC 527 dL_law_527 (KJ.topi (y := nI 0) (by rw [ef, ex]; exact lg_same _) ?_)
      refine n_if_eq hC 528 533 dL_law_528 (by decide) (by omega) (fun h528 => ?_) (fun h528 => ?_)
      · skip
        refine k_goto hC 533 1080 dL_law_533 (by decide) ?_
        refine KJ.lvp [2, 3, 4, 5, 6] rfl ?_
        refine KJ.wide (ce' := ce + 350) (sl' := sl + 1600) (by omega) (by omega) ?_
        exact kk u.1.1.1 u.1.1.2 u.1.2.1 u.1.2.2 u.2 _ w (⟨hSu, by rw [es]; exact ok.1, by rw [es]; exact em, by rw [es]; exact ok.2⟩)
      · skip
        exact absurd h528 (by decide)
  · skip
    exact absurd rfl h511
set_option maxHeartbeats 400000 in
set_option maxRecDepth 100000 in
theorem lc_jar (l : Launch) (G : KX) (D : va_G) (bb L : Nat) (xs : Nat → Int32) (h q : Nat) (a b o : Nat → Nat) (i ce sl : Nat) (hLX : LX l G D bb L xs) (hi : i + 4 ≤ L) (hce : ce + 350 ≤ 709337) (hsl : sl + 1600 ≤ 6968092) (kk : LK l G D bb h q a b o i (ce + 350) (sl + 1600)) (s : PS) (g : PG) (s2 : PS) (g2 : PG) (f : Nat → Int64) (th : Int32) (m : MG) (ho : OKs s g m) : KJ l G D room_1 9 ce sl ((h, .inr (3, [.ref (a 0), .ref (b 0)])) :: (wSt D a s g ++ (wSt D b s2 g2 ++ ((q, .inl (D.1 6, 1, .inr (.inl f))) :: wMo D o th m)))) [(0, .ref bb), (1, .ref h), (2, .ref (o 0)), (3, .ref q), (4, .int (nI i))] 536 [] := by
  obtain ⟨hC, hX, ⟨hsc, hbl, hbA⟩, hL⟩ := hLX
  have hC : CX G D cL_law RL 9 := hC
  refine k_aload_n hC 536 dL_law_536 rfl ?_
  refine k_aload_n hC 537 dL_law_537 rfl ?_
  refine k_iload hC 538 dL_law_538 rfl ?_
  refine k_iconst hC 540 dL_law_540 (nI 1) (by decide) ?_
  refine n_iadd hC 541 (i + 1) dL_law_541 rfl ?_
  refine k_sld hC hsc hbl hbA 542 dL_law_542 (show i + 1 < L by omega) (by omega) ?_
  refine k_aload_n hC 543 dL_law_543 rfl ?_
  refine k_iload hC 544 dL_law_544 rfl ?_
  refine k_iconst hC 546 dL_law_546 (nI 2) (by decide) ?_
  refine n_iadd hC 547 (i + 2) dL_law_547 rfl ?_
  refine k_sld hC hsc hbl hbA 548 dL_law_548 (show i + 2 < L by omega) (by omega) ?_
  refine k_aload_n hC 549 dL_law_549 rfl ?_
  refine hf_callS (n := 4) hC hX 550 [] (wMo D o th m) (fun u => ((h, .inr (3, [.ref (a 0), .ref (b 0)])) :: (wSt D a u.1.1.1 u.1.1.2 ++ (wSt D b u.1.2.1 u.1.2.2 ++ ((q, .inl (D.1 6, 1, .inr (.inl u.2))) :: wMo D o th m))))) (h_jar l hX.1 D h a b s s2 g g2 q f (xs (i + 1)) (xs (i + 2)) ho.1 ho.2.1) wq_17_0 wq_17_1 wq_3_10 wq_17_2 ⟨by decide, by decide, by decide +kernel⟩ dL_law_550 ⟨Nat.le_of_ble_eq_true rfl, Nat.le_of_ble_eq_true rfl, (show ce + 2 ≤ 709337 by omega), (show sl + 12 ≤ 6968092 by omega)⟩ rfl (Nat.le_of_ble_eq_true rfl) (by simp only [List.append_assoc, List.cons_append, List.nil_append, List.append_nil]) (fun _ => rfl) (fun _ => by simp only [List.append_assoc, List.cons_append, List.nil_append, List.append_nil]) _ rfl (fun v u hp => ?_)
  obtain ⟨rfl, hk, hSu⟩ := hp
  refine KJ.eqs (st' := .int (nI (jarK (xs (i + 1)) (xs (i + 2)))) :: []) rfl ?_
  refine k_istore hC 553 5 [(5, .int (nI (jarK (xs (i + 1)) (xs (i + 2))))), (0, .ref bb), (1, .ref h), (2, .ref (o 0)), (3, .ref q), (4, .int (nI i))] dL_law_553 (by decide) rfl ?_
  refine k_aload_n hC 555 dL_law_555 rfl ?_
  refine k_aload_n hC 556 dL_law_556 rfl ?_
  refine k_iload hC 557 dL_law_557 rfl ?_
  refine k_iconst hC 559 dL_law_559 (nI 1) (by decide) ?_
  refine n_iadd hC 560 (i + 1) dL_law_560 rfl ?_
  refine k_sld hC hsc hbl hbA 561 dL_law_561 (show i + 1 < L by omega) (by omega) ?_
  refine k_aload_n hC 562 dL_law_562 rfl ?_
  refine k_iload hC 563 dL_law_563 rfl ?_
  refine k_iconst hC 565 dL_law_565 (nI 2) (by decide) ?_
  refine n_iadd hC 566 (i + 2) dL_law_566 rfl ?_
  refine k_sld hC hsc hbl hbA 567 dL_law_567 (show i + 2 < L by omega) (by omega) ?_
  refine f_callV hC 568 32 ((h, .inr (3, [.ref (a 0), .ref (b 0)])) :: (wSt D a u.1.1.1 u.1.1.2 ++ (wSt D b u.1.2.1 u.1.2.2 ++ ((q, .inl (D.1 6, 1, .inr (.inl u.2))) :: [])))) [] (fun w => ((h, .inr (3, [.ref (a 0), .ref (b 0)])) :: (wSt D a u.1.1.1 u.1.1.2 ++ (wSt D b u.1.2.1 u.1.2.2 ++ ((q, .inl (D.1 6, 1, .inr (.inl u.2))) :: wMo D o (nI (jarK (xs (i + 1)) (xs (i + 2)))) w))))) (M_jar l D o th s m (xs (i + 1)) (xs (i + 2)) ho.2.2.1 ho.2.1 ho.2.2.2) cw_RL_96 dL_law_568 ⟨Nat.le_of_ble_eq_true rfl, Nat.le_of_ble_eq_true rfl, (show ce + 2 + 0 ≤ 709337 by omega), (show sl + 12 + 0 ≤ 6968092 by omega)⟩ rfl (Nat.le_of_ble_eq_true rfl) rfl rfl rfl (by simp only [List.append_assoc, List.cons_append, List.nil_append, List.append_nil]) (fun _ => rfl) (fun _ => by simp only [List.append_assoc, List.cons_append, List.nil_append, List.append_nil]) _ rfl (fun v w hp => ?_)
  obtain ⟨x, rfl, hm⟩ := hp
  refine KJ.eqs (st' := .int x :: []) rfl ?_
  refine k_istore hC 571 6 [(6, .int x), (5, .int (nI (jarK (xs (i + 1)) (xs (i + 2))))), (0, .ref bb), (1, .ref h), (2, .ref (o 0)), (3, .ref q), (4, .int (nI i))] dL_law_571 (by decide) rfl ?_
  refine k_aload_n hC 573 dL_law_573 rfl ?_
  refine f_callV hC 574 32 ((h, .inr (3, [.ref (a 0), .ref (b 0)])) :: (wSt D a u.1.1.1 u.1.1.2 ++ (wSt D b u.1.2.1 u.1.2.2 ++ ((q, .inl (D.1 6, 1, .inr (.inl u.2))) :: [])))) [] (fun _ => ((h, .inr (3, [.ref (a 0), .ref (b 0)])) :: (wSt D a u.1.1.1 u.1.1.2 ++ (wSt D b u.1.2.1 u.1.2.2 ++ ((q, .inl (D.1 6, 1, .inr (.inl u.2))) :: wMo D o (nI (jarK (xs (i + 1)) (xs (i + 2)))) w))))) (M_thrown l D o (nI (jarK (xs (i + 1)) (xs (i + 2)))) w) cw_RL_70 dL_law_574 ⟨Nat.le_of_ble_eq_true rfl, Nat.le_of_ble_eq_true rfl, (show ce + 2 + 0 + 0 ≤ 709337 by omega), (show sl + 12 + 0 + 0 ≤ 6968092 by omega)⟩ rfl (Nat.le_of_ble_eq_true rfl) rfl rfl rfl (by simp only [List.append_assoc, List.cons_append, List.nil_append, List.append_nil]) (fun _ => rfl) (fun _ => by simp only [List.append_assoc, List.cons_append, List.nil_append, List.append_nil]) _ rfl (fun v _ hp => ?_)
  obtain rfl := hp
  refine KJ.eqs (st' := .int (nI (jarK (xs (i + 1)) (xs (i + 2)))) :: []) rfl ?_
  refine k_iload hC 577 dL_law_577 rfl ?_
  refine k_icmp_eq hC 579 584 dL_law_579 (by decide) (fun h579 => ?_) (fun h579 => ?_)
  · skip
    refine k_iload hC 584 dL_law_584 rfl ?_
    refine n_if_ne hC 586 601 dL_law_586 (by decide) kK_lt (fun h586 => ?_) (fun h586 => ?_)
    · skip
      have es : u.1.1.1 = s := hk.elim (fun z => absurd z.1 h586) (fun z => z.2)
      have em : MR s w := hm.elim (fun z => absurd z.1 h586) (fun z => z.2)
      refine k_goto hC 601 1080 dL_law_601 (by decide) ?_
      refine KJ.lvp [2, 3, 4, 5, 6] rfl ?_
      refine KJ.wide (ce' := ce + 350) (sl' := sl + 1600) (by omega) (by omega) ?_
      exact kk u.1.1.1 u.1.1.2 u.1.2.1 u.1.2.2 u.2 _ w (⟨hSu, by rw [es]; exact ho.2.1, by rw [es]; exact em, by rw [es]; exact ho.2.2.2⟩)
    · skip
      obtain ⟨es, ef⟩ : u.1.1.1 = s ∧ u.2 0 = (dtl s (kn (xs (i + 1))) (kn (xs (i + 2)))).toInt64 := hk.elim (fun z => z.2) (fun z => absurd h586 z.1)
      obtain ⟨ex, em⟩ : x = dtl s (kn (xs (i + 1))) (kn (xs (i + 2))) ∧ MR (s) w := hm.elim (fun z => z.2) (fun z => absurd h586 z.1)
      have ok := ok_jar (xs (i + 1)) (xs (i + 2)) ho.2.1 ho.2.2.2 h586
      refine k_aload_n hC 589 dL_law_589 rfl ?_
      refine k_iconst hC 590 dL_law_590 (nI 0) (by decide) ?_
      refine n_lald hC 591 31 (u.2 0) dL_law_591 rfl (by omega) (by decide) rfl ?_
      refine k_iload hC 592 dL_law_592 rfl ?_
      refine k_i2l hC 594 dL_law_594 x.toInt64 rfl ?_
      refine k_lcmp hC 595 dL_law_595 (KJ.topi (y := nI 0) (by rw [ef, ex]; exact lg_same _) ?_)
      refine n_if_eq hC 596 601 dL_law_596 (by decide) (by omega) (fun h596 => ?_) (fun h596 => ?_)
      · skip
        refine k_goto hC 601 1080 dL_law_601 (by decide) ?_
        refine KJ.lvp [2, 3, 4, 5, 6] rfl ?_
        refine KJ.wide (ce' := ce + 350) (sl' := sl + 1600) (by omega) (by omega) ?_
        exact kk u.1.1.1 u.1.1.2 u.1.2.1 u.1.2.2 u.2 _ w (⟨hSu, by rw [es]; exact ok.1, by rw [es]; exact em, by rw [es]; exact ok.2⟩)
      · skip
        exact absurd h596 (by decide)
  · skip
    exact absurd rfl h579
set_option maxHeartbeats 400000 in
set_option maxRecDepth 100000 in
theorem lc_shelf (l : Launch) (G : KX) (D : va_G) (bb L : Nat) (xs : Nat → Int32) (h q : Nat) (a b o : Nat → Nat) (i ce sl : Nat) (hLX : LX l G D bb L xs) (hi : i + 4 ≤ L) (hce : ce + 350 ≤ 709337) (hsl : sl + 1600 ≤ 6968092) (kk : LK l G D bb h q a b o i (ce + 350) (sl + 1600)) (s : PS) (g : PG) (s2 : PS) (g2 : PG) (f : Nat → Int64) (th : Int32) (m : MG) (ho : OKs s g m) : KJ l G D room_1 9 ce sl ((h, .inr (3, [.ref (a 0), .ref (b 0)])) :: (wSt D a s g ++ (wSt D b s2 g2 ++ ((q, .inl (D.1 6, 1, .inr (.inl f))) :: wMo D o th m)))) [(0, .ref bb), (1, .ref h), (2, .ref (o 0)), (3, .ref q), (4, .int (nI i))] 604 [] := by
  obtain ⟨hC, hX, ⟨hsc, hbl, hbA⟩, hL⟩ := hLX
  have hC : CX G D cL_law RL 9 := hC
  refine k_aload_n hC 604 dL_law_604 rfl ?_
  refine k_aload_n hC 605 dL_law_605 rfl ?_
  refine k_iload hC 606 dL_law_606 rfl ?_
  refine k_iconst hC 608 dL_law_608 (nI 1) (by decide) ?_
  refine n_iadd hC 609 (i + 1) dL_law_609 rfl ?_
  refine k_sld hC hsc hbl hbA 610 dL_law_610 (show i + 1 < L by omega) (by omega) ?_
  refine k_aload_n hC 611 dL_law_611 rfl ?_
  refine k_iload hC 612 dL_law_612 rfl ?_
  refine k_iconst hC 614 dL_law_614 (nI 2) (by decide) ?_
  refine n_iadd hC 615 (i + 2) dL_law_615 rfl ?_
  refine k_sld hC hsc hbl hbA 616 dL_law_616 (show i + 2 < L by omega) (by omega) ?_
  refine k_aload_n hC 617 dL_law_617 rfl ?_
  refine hf_callS (n := 4) hC hX 618 [] (wMo D o th m) (fun u => ((h, .inr (3, [.ref (a 0), .ref (b 0)])) :: (wSt D a u.1.1.1 u.1.1.2 ++ (wSt D b u.1.2.1 u.1.2.2 ++ ((q, .inl (D.1 6, 1, .inr (.inl u.2))) :: wMo D o th m))))) (h_shelf l hX.1 D h a b s s2 g g2 q f (xs (i + 1)) (xs (i + 2)) ho.1 ho.2.1) wq_17_15 wq_17_16 wq_3_10 wq_17_17 ⟨by decide, by decide, by decide +kernel⟩ dL_law_618 ⟨Nat.le_of_ble_eq_true rfl, Nat.le_of_ble_eq_true rfl, (show ce + 2 ≤ 709337 by omega), (show sl + 12 ≤ 6968092 by omega)⟩ rfl (Nat.le_of_ble_eq_true rfl) (by simp only [List.append_assoc, List.cons_append, List.nil_append, List.append_nil]) (fun _ => rfl) (fun _ => by simp only [List.append_assoc, List.cons_append, List.nil_append, List.append_nil]) _ rfl (fun v u hp => ?_)
  obtain ⟨rfl, hk, hSu⟩ := hp
  refine KJ.eqs (st' := .int (nI (rowK s.1 s.2.1 (xs (i + 1)) (xs (i + 2)))) :: []) rfl ?_
  refine k_istore hC 621 5 [(5, .int (nI (rowK s.1 s.2.1 (xs (i + 1)) (xs (i + 2))))), (0, .ref bb), (1, .ref h), (2, .ref (o 0)), (3, .ref q), (4, .int (nI i))] dL_law_621 (by decide) rfl ?_
  refine k_aload_n hC 623 dL_law_623 rfl ?_
  refine k_aload_n hC 624 dL_law_624 rfl ?_
  refine k_iload hC 625 dL_law_625 rfl ?_
  refine k_iconst hC 627 dL_law_627 (nI 1) (by decide) ?_
  refine n_iadd hC 628 (i + 1) dL_law_628 rfl ?_
  refine k_sld hC hsc hbl hbA 629 dL_law_629 (show i + 1 < L by omega) (by omega) ?_
  refine k_aload_n hC 630 dL_law_630 rfl ?_
  refine k_iload hC 631 dL_law_631 rfl ?_
  refine k_iconst hC 633 dL_law_633 (nI 2) (by decide) ?_
  refine n_iadd hC 634 (i + 2) dL_law_634 rfl ?_
  refine k_sld hC hsc hbl hbA 635 dL_law_635 (show i + 2 < L by omega) (by omega) ?_
  refine f_callV hC 636 32 ((h, .inr (3, [.ref (a 0), .ref (b 0)])) :: (wSt D a u.1.1.1 u.1.1.2 ++ (wSt D b u.1.2.1 u.1.2.2 ++ ((q, .inl (D.1 6, 1, .inr (.inl u.2))) :: [])))) [] (fun w => ((h, .inr (3, [.ref (a 0), .ref (b 0)])) :: (wSt D a u.1.1.1 u.1.1.2 ++ (wSt D b u.1.2.1 u.1.2.2 ++ ((q, .inl (D.1 6, 1, .inr (.inl u.2))) :: wMo D o (nI (rowK s.1 s.2.1 (xs (i + 1)) (xs (i + 2)))) w))))) (M_shelf l D o th s m (xs (i + 1)) (xs (i + 2)) ho.2.2.1 ho.2.1 ho.2.2.2) cw_RL_99 dL_law_636 ⟨Nat.le_of_ble_eq_true rfl, Nat.le_of_ble_eq_true rfl, (show ce + 2 + 0 ≤ 709337 by omega), (show sl + 12 + 0 ≤ 6968092 by omega)⟩ rfl (Nat.le_of_ble_eq_true rfl) rfl rfl rfl (by simp only [List.append_assoc, List.cons_append, List.nil_append, List.append_nil]) (fun _ => rfl) (fun _ => by simp only [List.append_assoc, List.cons_append, List.nil_append, List.append_nil]) _ rfl (fun v w hp => ?_)
  obtain ⟨x, rfl, hm⟩ := hp
  refine KJ.eqs (st' := .int x :: []) rfl ?_
  refine k_istore hC 639 6 [(6, .int x), (5, .int (nI (rowK s.1 s.2.1 (xs (i + 1)) (xs (i + 2))))), (0, .ref bb), (1, .ref h), (2, .ref (o 0)), (3, .ref q), (4, .int (nI i))] dL_law_639 (by decide) rfl ?_
  refine k_aload_n hC 641 dL_law_641 rfl ?_
  refine f_callV hC 642 32 ((h, .inr (3, [.ref (a 0), .ref (b 0)])) :: (wSt D a u.1.1.1 u.1.1.2 ++ (wSt D b u.1.2.1 u.1.2.2 ++ ((q, .inl (D.1 6, 1, .inr (.inl u.2))) :: [])))) [] (fun _ => ((h, .inr (3, [.ref (a 0), .ref (b 0)])) :: (wSt D a u.1.1.1 u.1.1.2 ++ (wSt D b u.1.2.1 u.1.2.2 ++ ((q, .inl (D.1 6, 1, .inr (.inl u.2))) :: wMo D o (nI (rowK s.1 s.2.1 (xs (i + 1)) (xs (i + 2)))) w))))) (M_thrown l D o (nI (rowK s.1 s.2.1 (xs (i + 1)) (xs (i + 2)))) w) cw_RL_70 dL_law_642 ⟨Nat.le_of_ble_eq_true rfl, Nat.le_of_ble_eq_true rfl, (show ce + 2 + 0 + 0 ≤ 709337 by omega), (show sl + 12 + 0 + 0 ≤ 6968092 by omega)⟩ rfl (Nat.le_of_ble_eq_true rfl) rfl rfl rfl (by simp only [List.append_assoc, List.cons_append, List.nil_append, List.append_nil]) (fun _ => rfl) (fun _ => by simp only [List.append_assoc, List.cons_append, List.nil_append, List.append_nil]) _ rfl (fun v _ hp => ?_)
  obtain rfl := hp
  refine KJ.eqs (st' := .int (nI (rowK s.1 s.2.1 (xs (i + 1)) (xs (i + 2)))) :: []) rfl ?_
  refine k_iload hC 645 dL_law_645 rfl ?_
  refine k_icmp_eq hC 647 652 dL_law_647 (by decide) (fun h647 => ?_) (fun h647 => ?_)
  · skip
    refine k_iload hC 652 dL_law_652 rfl ?_
    refine n_if_ne hC 654 669 dL_law_654 (by decide) kK_lt (fun h654 => ?_) (fun h654 => ?_)
    · skip
      have es : u.1.1.1 = s := hk.elim (fun z => absurd z.1 h654) (fun z => z.2)
      have em : MR s w := hm.elim (fun z => absurd z.1 h654) (fun z => z.2)
      refine k_goto hC 669 1080 dL_law_669 (by decide) ?_
      refine KJ.lvp [2, 3, 4, 5, 6] rfl ?_
      refine KJ.wide (ce' := ce + 350) (sl' := sl + 1600) (by omega) (by omega) ?_
      exact kk u.1.1.1 u.1.1.2 u.1.2.1 u.1.2.2 u.2 _ w (⟨hSu, by rw [es]; exact ho.2.1, by rw [es]; exact em, by rw [es]; exact ho.2.2.2⟩)
    · skip
      obtain ⟨es, ef⟩ : u.1.1.1 = s ∧ u.2 0 = (rowV s.1 s.2.1 (xs (i + 1)) (xs (i + 2))).toInt64 := hk.elim (fun z => z.2) (fun z => absurd h654 z.1)
      obtain ⟨ex, em⟩ : x = rowV s.1 s.2.1 (xs (i + 1)) (xs (i + 2)) ∧ MR (s) w := hm.elim (fun z => z.2) (fun z => absurd h654 z.1)
      have ok := ok_shelf (xs (i + 1)) (xs (i + 2)) ho.2.1 ho.2.2.2 h654
      refine k_aload_n hC 657 dL_law_657 rfl ?_
      refine k_iconst hC 658 dL_law_658 (nI 0) (by decide) ?_
      refine n_lald hC 659 31 (u.2 0) dL_law_659 rfl (by omega) (by decide) rfl ?_
      refine k_iload hC 660 dL_law_660 rfl ?_
      refine k_i2l hC 662 dL_law_662 x.toInt64 rfl ?_
      refine k_lcmp hC 663 dL_law_663 (KJ.topi (y := nI 0) (by rw [ef, ex]; exact lg_same _) ?_)
      refine n_if_eq hC 664 669 dL_law_664 (by decide) (by omega) (fun h664 => ?_) (fun h664 => ?_)
      · skip
        refine k_goto hC 669 1080 dL_law_669 (by decide) ?_
        refine KJ.lvp [2, 3, 4, 5, 6] rfl ?_
        refine KJ.wide (ce' := ce + 350) (sl' := sl + 1600) (by omega) (by omega) ?_
        exact kk u.1.1.1 u.1.1.2 u.1.2.1 u.1.2.2 u.2 _ w (⟨hSu, by rw [es]; exact ok.1, by rw [es]; exact em, by rw [es]; exact ok.2⟩)
      · skip
        exact absurd h664 (by decide)
  · skip
    exact absurd rfl h647
set_option maxHeartbeats 400000 in
set_option maxRecDepth 100000 in
theorem lc_ghost (l : Launch) (G : KX) (D : va_G) (bb L : Nat) (xs : Nat → Int32) (h q : Nat) (a b o : Nat → Nat) (i ce sl : Nat) (hLX : LX l G D bb L xs) (hi : i + 4 ≤ L) (hce : ce + 350 ≤ 709337) (hsl : sl + 1600 ≤ 6968092) (kk : LK l G D bb h q a b o i (ce + 350) (sl + 1600)) (s : PS) (g : PG) (s2 : PS) (g2 : PG) (f : Nat → Int64) (th : Int32) (m : MG) (ho : OKs s g m) : KJ l G D room_1 9 ce sl ((h, .inr (3, [.ref (a 0), .ref (b 0)])) :: (wSt D a s g ++ (wSt D b s2 g2 ++ ((q, .inl (D.1 6, 1, .inr (.inl f))) :: wMo D o th m)))) [(0, .ref bb), (1, .ref h), (2, .ref (o 0)), (3, .ref q), (4, .int (nI i))] 672 [] := by
  obtain ⟨hC, hX, ⟨hsc, hbl, hbA⟩, hL⟩ := hLX
  have hC : CX G D cL_law RL 9 := hC
  refine k_aload_n hC 672 dL_law_672 rfl ?_
  refine k_aload_n hC 673 dL_law_673 rfl ?_
  refine k_iload hC 674 dL_law_674 rfl ?_
  refine k_iconst hC 676 dL_law_676 (nI 1) (by decide) ?_
  refine n_iadd hC 677 (i + 1) dL_law_677 rfl ?_
  refine k_sld hC hsc hbl hbA 678 dL_law_678 (show i + 1 < L by omega) (by omega) ?_
  refine k_aload_n hC 679 dL_law_679 rfl ?_
  refine k_iload hC 680 dL_law_680 rfl ?_
  refine k_iconst hC 682 dL_law_682 (nI 2) (by decide) ?_
  refine n_iadd hC 683 (i + 2) dL_law_683 rfl ?_
  refine k_sld hC hsc hbl hbA 684 dL_law_684 (show i + 2 < L by omega) (by omega) ?_
  refine k_aload_n hC 685 dL_law_685 rfl ?_
  refine hf_callS (n := 4) hC hX 686 [] (wMo D o th m) (fun u => ((h, .inr (3, [.ref (a 0), .ref (b 0)])) :: (wSt D a u.1.1.1 u.1.1.2 ++ (wSt D b u.1.2.1 u.1.2.2 ++ ((q, .inl (D.1 6, 1, .inr (.inl u.2))) :: wMo D o th m))))) (h_ghost l hX.1 D h a b s s2 g g2 q f (xs (i + 1)) (xs (i + 2)) ho.1 ho.2.1) wq_18_10 wq_18_11 wq_3_10 wq_18_12 ⟨by decide, by decide, by decide +kernel⟩ dL_law_686 ⟨Nat.le_of_ble_eq_true rfl, Nat.le_of_ble_eq_true rfl, (show ce + 2 ≤ 709337 by omega), (show sl + 12 ≤ 6968092 by omega)⟩ rfl (Nat.le_of_ble_eq_true rfl) (by simp only [List.append_assoc, List.cons_append, List.nil_append, List.append_nil]) (fun _ => rfl) (fun _ => by simp only [List.append_assoc, List.cons_append, List.nil_append, List.append_nil]) _ rfl (fun v u hp => ?_)
  obtain ⟨rfl, hk, hSu⟩ := hp
  refine KJ.eqs (st' := .int (nI (rowK s.2.2.1 s.2.2.2.1 (xs (i + 1)) (xs (i + 2)))) :: []) rfl ?_
  refine k_istore hC 689 5 [(5, .int (nI (rowK s.2.2.1 s.2.2.2.1 (xs (i + 1)) (xs (i + 2))))), (0, .ref bb), (1, .ref h), (2, .ref (o 0)), (3, .ref q), (4, .int (nI i))] dL_law_689 (by decide) rfl ?_
  refine k_aload_n hC 691 dL_law_691 rfl ?_
  refine k_aload_n hC 692 dL_law_692 rfl ?_
  refine k_iload hC 693 dL_law_693 rfl ?_
  refine k_iconst hC 695 dL_law_695 (nI 1) (by decide) ?_
  refine n_iadd hC 696 (i + 1) dL_law_696 rfl ?_
  refine k_sld hC hsc hbl hbA 697 dL_law_697 (show i + 1 < L by omega) (by omega) ?_
  refine k_aload_n hC 698 dL_law_698 rfl ?_
  refine k_iload hC 699 dL_law_699 rfl ?_
  refine k_iconst hC 701 dL_law_701 (nI 2) (by decide) ?_
  refine n_iadd hC 702 (i + 2) dL_law_702 rfl ?_
  refine k_sld hC hsc hbl hbA 703 dL_law_703 (show i + 2 < L by omega) (by omega) ?_
  refine f_callV hC 704 32 ((h, .inr (3, [.ref (a 0), .ref (b 0)])) :: (wSt D a u.1.1.1 u.1.1.2 ++ (wSt D b u.1.2.1 u.1.2.2 ++ ((q, .inl (D.1 6, 1, .inr (.inl u.2))) :: [])))) [] (fun w => ((h, .inr (3, [.ref (a 0), .ref (b 0)])) :: (wSt D a u.1.1.1 u.1.1.2 ++ (wSt D b u.1.2.1 u.1.2.2 ++ ((q, .inl (D.1 6, 1, .inr (.inl u.2))) :: wMo D o (nI (rowK s.2.2.1 s.2.2.2.1 (xs (i + 1)) (xs (i + 2)))) w))))) (M_ghost l D o th s m (xs (i + 1)) (xs (i + 2)) ho.2.2.1 ho.2.1 ho.2.2.2) cw_RL_102 dL_law_704 ⟨Nat.le_of_ble_eq_true rfl, Nat.le_of_ble_eq_true rfl, (show ce + 2 + 0 ≤ 709337 by omega), (show sl + 12 + 0 ≤ 6968092 by omega)⟩ rfl (Nat.le_of_ble_eq_true rfl) rfl rfl rfl (by simp only [List.append_assoc, List.cons_append, List.nil_append, List.append_nil]) (fun _ => rfl) (fun _ => by simp only [List.append_assoc, List.cons_append, List.nil_append, List.append_nil]) _ rfl (fun v w hp => ?_)
  obtain ⟨x, rfl, hm⟩ := hp
  refine KJ.eqs (st' := .int x :: []) rfl ?_
  refine k_istore hC 707 6 [(6, .int x), (5, .int (nI (rowK s.2.2.1 s.2.2.2.1 (xs (i + 1)) (xs (i + 2))))), (0, .ref bb), (1, .ref h), (2, .ref (o 0)), (3, .ref q), (4, .int (nI i))] dL_law_707 (by decide) rfl ?_
  refine k_aload_n hC 709 dL_law_709 rfl ?_
  refine f_callV hC 710 32 ((h, .inr (3, [.ref (a 0), .ref (b 0)])) :: (wSt D a u.1.1.1 u.1.1.2 ++ (wSt D b u.1.2.1 u.1.2.2 ++ ((q, .inl (D.1 6, 1, .inr (.inl u.2))) :: [])))) [] (fun _ => ((h, .inr (3, [.ref (a 0), .ref (b 0)])) :: (wSt D a u.1.1.1 u.1.1.2 ++ (wSt D b u.1.2.1 u.1.2.2 ++ ((q, .inl (D.1 6, 1, .inr (.inl u.2))) :: wMo D o (nI (rowK s.2.2.1 s.2.2.2.1 (xs (i + 1)) (xs (i + 2)))) w))))) (M_thrown l D o (nI (rowK s.2.2.1 s.2.2.2.1 (xs (i + 1)) (xs (i + 2)))) w) cw_RL_70 dL_law_710 ⟨Nat.le_of_ble_eq_true rfl, Nat.le_of_ble_eq_true rfl, (show ce + 2 + 0 + 0 ≤ 709337 by omega), (show sl + 12 + 0 + 0 ≤ 6968092 by omega)⟩ rfl (Nat.le_of_ble_eq_true rfl) rfl rfl rfl (by simp only [List.append_assoc, List.cons_append, List.nil_append, List.append_nil]) (fun _ => rfl) (fun _ => by simp only [List.append_assoc, List.cons_append, List.nil_append, List.append_nil]) _ rfl (fun v _ hp => ?_)
  obtain rfl := hp
  refine KJ.eqs (st' := .int (nI (rowK s.2.2.1 s.2.2.2.1 (xs (i + 1)) (xs (i + 2)))) :: []) rfl ?_
  refine k_iload hC 713 dL_law_713 rfl ?_
  refine k_icmp_eq hC 715 720 dL_law_715 (by decide) (fun h715 => ?_) (fun h715 => ?_)
  · skip
    refine k_iload hC 720 dL_law_720 rfl ?_
    refine n_if_ne hC 722 737 dL_law_722 (by decide) kK_lt (fun h722 => ?_) (fun h722 => ?_)
    · skip
      have es : u.1.1.1 = s := hk.elim (fun z => absurd z.1 h722) (fun z => z.2)
      have em : MR s w := hm.elim (fun z => absurd z.1 h722) (fun z => z.2)
      refine k_goto hC 737 1080 dL_law_737 (by decide) ?_
      refine KJ.lvp [2, 3, 4, 5, 6] rfl ?_
      refine KJ.wide (ce' := ce + 350) (sl' := sl + 1600) (by omega) (by omega) ?_
      exact kk u.1.1.1 u.1.1.2 u.1.2.1 u.1.2.2 u.2 _ w (⟨hSu, by rw [es]; exact ho.2.1, by rw [es]; exact em, by rw [es]; exact ho.2.2.2⟩)
    · skip
      obtain ⟨es, ef⟩ : u.1.1.1 = s ∧ u.2 0 = (rowV s.2.2.1 s.2.2.2.1 (xs (i + 1)) (xs (i + 2))).toInt64 := hk.elim (fun z => z.2) (fun z => absurd h722 z.1)
      obtain ⟨ex, em⟩ : x = rowV s.2.2.1 s.2.2.2.1 (xs (i + 1)) (xs (i + 2)) ∧ MR (s) w := hm.elim (fun z => z.2) (fun z => absurd h722 z.1)
      have ok := ok_ghost (xs (i + 1)) (xs (i + 2)) ho.2.1 ho.2.2.2 h722
      refine k_aload_n hC 725 dL_law_725 rfl ?_
      refine k_iconst hC 726 dL_law_726 (nI 0) (by decide) ?_
      refine n_lald hC 727 31 (u.2 0) dL_law_727 rfl (by omega) (by decide) rfl ?_
      refine k_iload hC 728 dL_law_728 rfl ?_
      refine k_i2l hC 730 dL_law_730 x.toInt64 rfl ?_
      refine k_lcmp hC 731 dL_law_731 (KJ.topi (y := nI 0) (by rw [ef, ex]; exact lg_same _) ?_)
      refine n_if_eq hC 732 737 dL_law_732 (by decide) (by omega) (fun h732 => ?_) (fun h732 => ?_)
      · skip
        refine k_goto hC 737 1080 dL_law_737 (by decide) ?_
        refine KJ.lvp [2, 3, 4, 5, 6] rfl ?_
        refine KJ.wide (ce' := ce + 350) (sl' := sl + 1600) (by omega) (by omega) ?_
        exact kk u.1.1.1 u.1.1.2 u.1.2.1 u.1.2.2 u.2 _ w (⟨hSu, by rw [es]; exact ok.1, by rw [es]; exact em, by rw [es]; exact ok.2⟩)
      · skip
        exact absurd h732 (by decide)
  · skip
    exact absurd rfl h715
set_option maxHeartbeats 400000 in
set_option maxRecDepth 100000 in
theorem lc_count (l : Launch) (G : KX) (D : va_G) (bb L : Nat) (xs : Nat → Int32) (h q : Nat) (a b o : Nat → Nat) (i ce sl : Nat) (hLX : LX l G D bb L xs) (hi : i + 4 ≤ L) (hce : ce + 350 ≤ 709337) (hsl : sl + 1600 ≤ 6968092) (kk : LK l G D bb h q a b o i (ce + 350) (sl + 1600)) (s : PS) (g : PG) (s2 : PS) (g2 : PG) (f : Nat → Int64) (th : Int32) (m : MG) (ho : OKs s g m) : KJ l G D room_1 9 ce sl ((h, .inr (3, [.ref (a 0), .ref (b 0)])) :: (wSt D a s g ++ (wSt D b s2 g2 ++ ((q, .inl (D.1 6, 1, .inr (.inl f))) :: wMo D o th m)))) [(0, .ref bb), (1, .ref h), (2, .ref (o 0)), (3, .ref q), (4, .int (nI i))] 740 [] := by
  obtain ⟨hC, hX, ⟨hsc, hbl, hbA⟩, hL⟩ := hLX
  have hC : CX G D cL_law RL 9 := hC
  refine k_aload_n hC 740 dL_law_740 rfl ?_
  refine k_aload_n hC 741 dL_law_741 rfl ?_
  refine k_iload hC 742 dL_law_742 rfl ?_
  refine k_iconst hC 744 dL_law_744 (nI 1) (by decide) ?_
  refine n_iadd hC 745 (i + 1) dL_law_745 rfl ?_
  refine k_sld hC hsc hbl hbA 746 dL_law_746 (show i + 1 < L by omega) (by omega) ?_
  refine k_aload_n hC 747 dL_law_747 rfl ?_
  refine hf_callS (n := 3) hC hX 748 [] (wMo D o th m) (fun u => ((h, .inr (3, [.ref (a 0), .ref (b 0)])) :: (wSt D a u.1.1.1 u.1.1.2 ++ (wSt D b u.1.2.1 u.1.2.2 ++ ((q, .inl (D.1 6, 1, .inr (.inl u.2))) :: wMo D o th m))))) (h_count l hX.1 D h a b s s2 g g2 q f (xs (i + 1)) ho.1 ho.2.1) wq_18_22 wq_18_23 wq_3_10 wq_19_0 ⟨by decide, by decide, by decide +kernel⟩ dL_law_748 ⟨Nat.le_of_ble_eq_true rfl, Nat.le_of_ble_eq_true rfl, (show ce + 1 ≤ 709337 by omega), (show sl + 6 ≤ 6968092 by omega)⟩ rfl (Nat.le_of_ble_eq_true rfl) (by simp only [List.append_assoc, List.cons_append, List.nil_append, List.append_nil]) (fun _ => rfl) (fun _ => by simp only [List.append_assoc, List.cons_append, List.nil_append, List.append_nil]) _ rfl (fun v u hp => ?_)
  obtain ⟨rfl, hk, hSu⟩ := hp
  refine KJ.eqs (st' := .int (nI (countK (xs (i + 1)))) :: []) rfl ?_
  refine k_istore hC 751 5 [(5, .int (nI (countK (xs (i + 1))))), (0, .ref bb), (1, .ref h), (2, .ref (o 0)), (3, .ref q), (4, .int (nI i))] dL_law_751 (by decide) rfl ?_
  refine k_aload_n hC 753 dL_law_753 rfl ?_
  refine k_aload_n hC 754 dL_law_754 rfl ?_
  refine k_iload hC 755 dL_law_755 rfl ?_
  refine k_iconst hC 757 dL_law_757 (nI 1) (by decide) ?_
  refine n_iadd hC 758 (i + 1) dL_law_758 rfl ?_
  refine k_sld hC hsc hbl hbA 759 dL_law_759 (show i + 1 < L by omega) (by omega) ?_
  refine f_callV hC 760 32 ((h, .inr (3, [.ref (a 0), .ref (b 0)])) :: (wSt D a u.1.1.1 u.1.1.2 ++ (wSt D b u.1.2.1 u.1.2.2 ++ ((q, .inl (D.1 6, 1, .inr (.inl u.2))) :: [])))) [] (fun w => ((h, .inr (3, [.ref (a 0), .ref (b 0)])) :: (wSt D a u.1.1.1 u.1.1.2 ++ (wSt D b u.1.2.1 u.1.2.2 ++ ((q, .inl (D.1 6, 1, .inr (.inl u.2))) :: wMo D o (nI (countK (xs (i + 1)))) w))))) (M_count l D o th s m (xs (i + 1)) ho.2.2.1 ho.2.1 ho.2.2.2) cw_RL_105 dL_law_760 ⟨Nat.le_of_ble_eq_true rfl, Nat.le_of_ble_eq_true rfl, (show ce + 1 + 0 ≤ 709337 by omega), (show sl + 6 + 0 ≤ 6968092 by omega)⟩ rfl (Nat.le_of_ble_eq_true rfl) rfl rfl rfl (by simp only [List.append_assoc, List.cons_append, List.nil_append, List.append_nil]) (fun _ => rfl) (fun _ => by simp only [List.append_assoc, List.cons_append, List.nil_append, List.append_nil]) _ rfl (fun v w hp => ?_)
  obtain ⟨x, rfl, hm⟩ := hp
  refine KJ.eqs (st' := .int x :: []) rfl ?_
  refine k_istore hC 763 6 [(6, .int x), (5, .int (nI (countK (xs (i + 1))))), (0, .ref bb), (1, .ref h), (2, .ref (o 0)), (3, .ref q), (4, .int (nI i))] dL_law_763 (by decide) rfl ?_
  refine k_aload_n hC 765 dL_law_765 rfl ?_
  refine f_callV hC 766 32 ((h, .inr (3, [.ref (a 0), .ref (b 0)])) :: (wSt D a u.1.1.1 u.1.1.2 ++ (wSt D b u.1.2.1 u.1.2.2 ++ ((q, .inl (D.1 6, 1, .inr (.inl u.2))) :: [])))) [] (fun _ => ((h, .inr (3, [.ref (a 0), .ref (b 0)])) :: (wSt D a u.1.1.1 u.1.1.2 ++ (wSt D b u.1.2.1 u.1.2.2 ++ ((q, .inl (D.1 6, 1, .inr (.inl u.2))) :: wMo D o (nI (countK (xs (i + 1)))) w))))) (M_thrown l D o (nI (countK (xs (i + 1)))) w) cw_RL_70 dL_law_766 ⟨Nat.le_of_ble_eq_true rfl, Nat.le_of_ble_eq_true rfl, (show ce + 1 + 0 + 0 ≤ 709337 by omega), (show sl + 6 + 0 + 0 ≤ 6968092 by omega)⟩ rfl (Nat.le_of_ble_eq_true rfl) rfl rfl rfl (by simp only [List.append_assoc, List.cons_append, List.nil_append, List.append_nil]) (fun _ => rfl) (fun _ => by simp only [List.append_assoc, List.cons_append, List.nil_append, List.append_nil]) _ rfl (fun v _ hp => ?_)
  obtain rfl := hp
  refine KJ.eqs (st' := .int (nI (countK (xs (i + 1)))) :: []) rfl ?_
  refine k_iload hC 769 dL_law_769 rfl ?_
  refine k_icmp_eq hC 771 776 dL_law_771 (by decide) (fun h771 => ?_) (fun h771 => ?_)
  · skip
    refine k_iload hC 776 dL_law_776 rfl ?_
    refine n_if_ne hC 778 793 dL_law_778 (by decide) kK_lt (fun h778 => ?_) (fun h778 => ?_)
    · skip
      have es : u.1.1.1 = s := hk.elim (fun z => absurd z.1 h778) (fun z => z.2)
      have em : MR s w := hm.elim (fun z => absurd z.1 h778) (fun z => z.2)
      refine k_goto hC 793 1080 dL_law_793 (by decide) ?_
      refine KJ.lvp [2, 3, 4, 5, 6] rfl ?_
      refine KJ.wide (ce' := ce + 350) (sl' := sl + 1600) (by omega) (by omega) ?_
      exact kk u.1.1.1 u.1.1.2 u.1.2.1 u.1.2.2 u.2 _ w (⟨hSu, by rw [es]; exact ho.2.1, by rw [es]; exact em, by rw [es]; exact ho.2.2.2⟩)
    · skip
      obtain ⟨es, ef⟩ : u.1.1.1 = s ∧ u.2 0 = (ct s (kn (xs (i + 1)))).toInt64 := hk.elim (fun z => z.2) (fun z => absurd h778 z.1)
      obtain ⟨ex, em⟩ : x = ct s (kn (xs (i + 1))) ∧ MR (s) w := hm.elim (fun z => z.2) (fun z => absurd h778 z.1)
      have ok := ok_count (xs (i + 1)) ho.2.1 ho.2.2.2 h778
      refine k_aload_n hC 781 dL_law_781 rfl ?_
      refine k_iconst hC 782 dL_law_782 (nI 0) (by decide) ?_
      refine n_lald hC 783 31 (u.2 0) dL_law_783 rfl (by omega) (by decide) rfl ?_
      refine k_iload hC 784 dL_law_784 rfl ?_
      refine k_i2l hC 786 dL_law_786 x.toInt64 rfl ?_
      refine k_lcmp hC 787 dL_law_787 (KJ.topi (y := nI 0) (by rw [ef, ex]; exact lg_same _) ?_)
      refine n_if_eq hC 788 793 dL_law_788 (by decide) (by omega) (fun h788 => ?_) (fun h788 => ?_)
      · skip
        refine k_goto hC 793 1080 dL_law_793 (by decide) ?_
        refine KJ.lvp [2, 3, 4, 5, 6] rfl ?_
        refine KJ.wide (ce' := ce + 350) (sl' := sl + 1600) (by omega) (by omega) ?_
        exact kk u.1.1.1 u.1.1.2 u.1.2.1 u.1.2.2 u.2 _ w (⟨hSu, by rw [es]; exact ok.1, by rw [es]; exact em, by rw [es]; exact ok.2⟩)
      · skip
        exact absurd h788 (by decide)
  · skip
    exact absurd rfl h771
set_option maxHeartbeats 400000 in
set_option maxRecDepth 100000 in
theorem lc_next (l : Launch) (G : KX) (D : va_G) (bb L : Nat) (xs : Nat → Int32) (h q : Nat) (a b o : Nat → Nat) (i ce sl : Nat) (hLX : LX l G D bb L xs) (hi : i + 4 ≤ L) (hce : ce + 350 ≤ 709337) (hsl : sl + 1600 ≤ 6968092) (kk : LK l G D bb h q a b o i (ce + 350) (sl + 1600)) (s : PS) (g : PG) (s2 : PS) (g2 : PG) (f : Nat → Int64) (th : Int32) (m : MG) (ho : OKs s g m) : KJ l G D room_1 9 ce sl ((h, .inr (3, [.ref (a 0), .ref (b 0)])) :: (wSt D a s g ++ (wSt D b s2 g2 ++ ((q, .inl (D.1 6, 1, .inr (.inl f))) :: wMo D o th m)))) [(0, .ref bb), (1, .ref h), (2, .ref (o 0)), (3, .ref q), (4, .int (nI i))] 796 [] := by
  obtain ⟨hC, hX, ⟨hsc, hbl, hbA⟩, hL⟩ := hLX
  have hC : CX G D cL_law RL 9 := hC
  refine k_aload_n hC 796 dL_law_796 rfl ?_
  refine f_callV hC 797 0 [] ((q, .inl (D.1 6, 1, .inr (.inl f))) :: wMo D o th m) (fun u => ((h, .inr (3, [.ref (a 0), .ref (b 0)])) :: (wSt D a s g ++ (wSt D b u.1 u.2 ++ ((q, .inl (D.1 6, 1, .inr (.inl f))) :: wMo D o th m))))) (c_X3_next l D h a b s s2 g g2 ho.1 ho.2.1) cw_RL_106 dL_law_797 ⟨Nat.le_of_ble_eq_true rfl, Nat.le_of_ble_eq_true rfl, (show ce + 0 ≤ 709337 by omega), (show sl + 0 ≤ 6968092 by omega)⟩ rfl (Nat.le_of_ble_eq_true rfl) rfl rfl rfl (by simp only [List.append_assoc, List.cons_append, List.nil_append, List.append_nil]) (fun _ => rfl) (fun _ => by simp only [List.append_assoc, List.cons_append, List.nil_append, List.append_nil]) _ rfl (fun v u hp => ?_)
  obtain rfl := hp
  refine KJ.eqs (st' := .int (nextV s) :: []) rfl ?_
  refine k_aload_n hC 800 dL_law_800 rfl ?_
  refine f_callV hC 801 32 ((h, .inr (3, [.ref (a 0), .ref (b 0)])) :: (wSt D a s g ++ (wSt D b u.1 u.2 ++ ((q, .inl (D.1 6, 1, .inr (.inl f))) :: [])))) [] (fun w => ((h, .inr (3, [.ref (a 0), .ref (b 0)])) :: (wSt D a s g ++ (wSt D b u.1 u.2 ++ ((q, .inl (D.1 6, 1, .inr (.inl f))) :: wMo D o (nI 0) w))))) (M_next l D o th s m ho.2.2.1 ho.2.1) cw_RL_109 dL_law_801 ⟨Nat.le_of_ble_eq_true rfl, Nat.le_of_ble_eq_true rfl, (show ce + 0 + 5 ≤ 709337 by omega), (show sl + 0 + 224 ≤ 6968092 by omega)⟩ rfl (Nat.le_of_ble_eq_true rfl) rfl rfl rfl (by simp only [List.append_assoc, List.cons_append, List.nil_append, List.append_nil]) (fun _ => rfl) (fun _ => by simp only [List.append_assoc, List.cons_append, List.nil_append, List.append_nil]) _ rfl (fun v w hp => ?_)
  obtain ⟨rfl, em⟩ := hp
  refine KJ.eqs (st' := .int (nextV s) :: .int (nextV s) :: []) rfl ?_
  refine k_icmp_eq hC 804 1080 dL_law_804 (by decide) (fun h804 => ?_) (fun h804 => ?_)
  · skip
    refine KJ.lvp [0, 1, 2, 3, 4] rfl ?_
    refine KJ.wide (ce' := ce + 350) (sl' := sl + 1600) (by omega) (by omega) ?_
    exact kk s g u.1 u.2 f _ w (⟨ho.1, ho.2.1, em, ho.2.2.2⟩)
  · skip
    exact absurd rfl h804
set_option maxHeartbeats 400000 in
set_option maxRecDepth 100000 in
theorem lc_would (l : Launch) (G : KX) (D : va_G) (bb L : Nat) (xs : Nat → Int32) (h q : Nat) (a b o : Nat → Nat) (i ce sl : Nat) (hLX : LX l G D bb L xs) (hi : i + 4 ≤ L) (hce : ce + 350 ≤ 709337) (hsl : sl + 1600 ≤ 6968092) (kk : LK l G D bb h q a b o i (ce + 350) (sl + 1600)) (s : PS) (g : PG) (s2 : PS) (g2 : PG) (f : Nat → Int64) (th : Int32) (m : MG) (ho : OKs s g m) : KJ l G D room_1 9 ce sl ((h, .inr (3, [.ref (a 0), .ref (b 0)])) :: (wSt D a s g ++ (wSt D b s2 g2 ++ ((q, .inl (D.1 6, 1, .inr (.inl f))) :: wMo D o th m)))) [(0, .ref bb), (1, .ref h), (2, .ref (o 0)), (3, .ref q), (4, .int (nI i))] 809 [] := by
  obtain ⟨hC, hX, ⟨hsc, hbl, hbA⟩, hL⟩ := hLX
  have hC : CX G D cL_law RL 9 := hC
  refine k_aload_n hC 809 dL_law_809 rfl ?_
  refine k_aload_n hC 810 dL_law_810 rfl ?_
  refine k_iload hC 811 dL_law_811 rfl ?_
  refine k_iconst hC 813 dL_law_813 (nI 1) (by decide) ?_
  refine n_iadd hC 814 (i + 1) dL_law_814 rfl ?_
  refine k_sld hC hsc hbl hbA 815 dL_law_815 (show i + 1 < L by omega) (by omega) ?_
  refine k_aload_n hC 816 dL_law_816 rfl ?_
  refine hf_callS (n := 3) hC hX 817 [] (wMo D o th m) (fun u => ((h, .inr (3, [.ref (a 0), .ref (b 0)])) :: (wSt D a u.1.1.1 u.1.1.2 ++ (wSt D b u.1.2.1 u.1.2.2 ++ ((q, .inl (D.1 6, 1, .inr (.inl u.2))) :: wMo D o th m))))) (h_would l hX.1 D h a b s s2 g g2 q f (xs (i + 1)) ho.1 ho.2.1) wq_21_4 wq_21_5 wq_3_10 wq_21_6 ⟨by decide, by decide, by decide +kernel⟩ dL_law_817 ⟨Nat.le_of_ble_eq_true rfl, Nat.le_of_ble_eq_true rfl, (show ce + 1 ≤ 709337 by omega), (show sl + 6 ≤ 6968092 by omega)⟩ rfl (Nat.le_of_ble_eq_true rfl) (by simp only [List.append_assoc, List.cons_append, List.nil_append, List.append_nil]) (fun _ => rfl) (fun _ => by simp only [List.append_assoc, List.cons_append, List.nil_append, List.append_nil]) _ rfl (fun v u hp => ?_)
  obtain ⟨rfl, hk, hSu⟩ := hp
  refine KJ.eqs (st' := .int (nI (wouldK (xs (i + 1)))) :: []) rfl ?_
  refine k_istore hC 820 5 [(5, .int (nI (wouldK (xs (i + 1))))), (0, .ref bb), (1, .ref h), (2, .ref (o 0)), (3, .ref q), (4, .int (nI i))] dL_law_820 (by decide) rfl ?_
  refine k_aload_n hC 822 dL_law_822 rfl ?_
  refine k_aload_n hC 823 dL_law_823 rfl ?_
  refine k_iload hC 824 dL_law_824 rfl ?_
  refine k_iconst hC 826 dL_law_826 (nI 1) (by decide) ?_
  refine n_iadd hC 827 (i + 1) dL_law_827 rfl ?_
  refine k_sld hC hsc hbl hbA 828 dL_law_828 (show i + 1 < L by omega) (by omega) ?_
  refine f_callV hC 829 32 ((h, .inr (3, [.ref (a 0), .ref (b 0)])) :: (wSt D a u.1.1.1 u.1.1.2 ++ (wSt D b u.1.2.1 u.1.2.2 ++ ((q, .inl (D.1 6, 1, .inr (.inl u.2))) :: [])))) [] (fun w => ((h, .inr (3, [.ref (a 0), .ref (b 0)])) :: (wSt D a u.1.1.1 u.1.1.2 ++ (wSt D b u.1.2.1 u.1.2.2 ++ ((q, .inl (D.1 6, 1, .inr (.inl u.2))) :: wMo D o (nI (wouldK (xs (i + 1)))) w))))) (M_would l D o th s m (xs (i + 1)) ho.2.2.1 ho.2.1 ho.2.2.2) cw_RL_112 dL_law_829 ⟨Nat.le_of_ble_eq_true rfl, Nat.le_of_ble_eq_true rfl, (show ce + 1 + 0 ≤ 709337 by omega), (show sl + 6 + 0 ≤ 6968092 by omega)⟩ rfl (Nat.le_of_ble_eq_true rfl) rfl rfl rfl (by simp only [List.append_assoc, List.cons_append, List.nil_append, List.append_nil]) (fun _ => rfl) (fun _ => by simp only [List.append_assoc, List.cons_append, List.nil_append, List.append_nil]) _ rfl (fun v w hp => ?_)
  obtain ⟨x, rfl, hm⟩ := hp
  refine KJ.eqs (st' := .int x :: []) rfl ?_
  refine k_istore hC 832 6 [(6, .int x), (5, .int (nI (wouldK (xs (i + 1))))), (0, .ref bb), (1, .ref h), (2, .ref (o 0)), (3, .ref q), (4, .int (nI i))] dL_law_832 (by decide) rfl ?_
  refine k_aload_n hC 834 dL_law_834 rfl ?_
  refine f_callV hC 835 32 ((h, .inr (3, [.ref (a 0), .ref (b 0)])) :: (wSt D a u.1.1.1 u.1.1.2 ++ (wSt D b u.1.2.1 u.1.2.2 ++ ((q, .inl (D.1 6, 1, .inr (.inl u.2))) :: [])))) [] (fun _ => ((h, .inr (3, [.ref (a 0), .ref (b 0)])) :: (wSt D a u.1.1.1 u.1.1.2 ++ (wSt D b u.1.2.1 u.1.2.2 ++ ((q, .inl (D.1 6, 1, .inr (.inl u.2))) :: wMo D o (nI (wouldK (xs (i + 1)))) w))))) (M_thrown l D o (nI (wouldK (xs (i + 1)))) w) cw_RL_70 dL_law_835 ⟨Nat.le_of_ble_eq_true rfl, Nat.le_of_ble_eq_true rfl, (show ce + 1 + 0 + 0 ≤ 709337 by omega), (show sl + 6 + 0 + 0 ≤ 6968092 by omega)⟩ rfl (Nat.le_of_ble_eq_true rfl) rfl rfl rfl (by simp only [List.append_assoc, List.cons_append, List.nil_append, List.append_nil]) (fun _ => rfl) (fun _ => by simp only [List.append_assoc, List.cons_append, List.nil_append, List.append_nil]) _ rfl (fun v _ hp => ?_)
  obtain rfl := hp
  refine KJ.eqs (st' := .int (nI (wouldK (xs (i + 1)))) :: []) rfl ?_
  refine k_iload hC 838 dL_law_838 rfl ?_
  refine k_icmp_eq hC 840 845 dL_law_840 (by decide) (fun h840 => ?_) (fun h840 => ?_)
  · skip
    refine k_iload hC 845 dL_law_845 rfl ?_
    refine n_if_ne hC 847 862 dL_law_847 (by decide) kK_lt (fun h847 => ?_) (fun h847 => ?_)
    · skip
      have es : u.1.1.1 = s := hk.elim (fun z => absurd z.1 h847) (fun z => z.2)
      have em : MR s w := hm.elim (fun z => absurd z.1 h847) (fun z => z.2)
      refine k_goto hC 862 1080 dL_law_862 (by decide) ?_
      refine KJ.lvp [2, 3, 4, 5, 6] rfl ?_
      refine KJ.wide (ce' := ce + 350) (sl' := sl + 1600) (by omega) (by omega) ?_
      exact kk u.1.1.1 u.1.1.2 u.1.2.1 u.1.2.2 u.2 _ w (⟨hSu, by rw [es]; exact ho.2.1, by rw [es]; exact em, by rw [es]; exact ho.2.2.2⟩)
    · skip
      obtain ⟨es, ef⟩ : u.1.1.1 = s ∧ u.2 0 = (ocI (oc s (kn (xs (i + 1))))).toInt64 := hk.elim (fun z => z.2) (fun z => absurd h847 z.1)
      obtain ⟨ex, em⟩ : x = ocI (oc s (kn (xs (i + 1)))) ∧ MR (s) w := hm.elim (fun z => z.2) (fun z => absurd h847 z.1)
      have ok := ok_would (xs (i + 1)) ho.2.1 ho.2.2.2 h847
      refine k_aload_n hC 850 dL_law_850 rfl ?_
      refine k_iconst hC 851 dL_law_851 (nI 0) (by decide) ?_
      refine n_lald hC 852 31 (u.2 0) dL_law_852 rfl (by omega) (by decide) rfl ?_
      refine k_iload hC 853 dL_law_853 rfl ?_
      refine k_i2l hC 855 dL_law_855 x.toInt64 rfl ?_
      refine k_lcmp hC 856 dL_law_856 (KJ.topi (y := nI 0) (by rw [ef, ex]; exact lg_same _) ?_)
      refine n_if_eq hC 857 862 dL_law_857 (by decide) (by omega) (fun h857 => ?_) (fun h857 => ?_)
      · skip
        refine k_goto hC 862 1080 dL_law_862 (by decide) ?_
        refine KJ.lvp [2, 3, 4, 5, 6] rfl ?_
        refine KJ.wide (ce' := ce + 350) (sl' := sl + 1600) (by omega) (by omega) ?_
        exact kk u.1.1.1 u.1.1.2 u.1.2.1 u.1.2.2 u.2 _ w (⟨hSu, by rw [es]; exact ok.1, by rw [es]; exact em, by rw [es]; exact ok.2⟩)
      · skip
        exact absurd h857 (by decide)
  · skip
    exact absurd rfl h840
set_option maxHeartbeats 400000 in
set_option maxRecDepth 100000 in
theorem lc_trial (l : Launch) (G : KX) (D : va_G) (bb L : Nat) (xs : Nat → Int32) (h q : Nat) (a b o : Nat → Nat) (i ce sl : Nat) (hLX : LX l G D bb L xs) (hi : i + 4 ≤ L) (hce : ce + 350 ≤ 709337) (hsl : sl + 1600 ≤ 6968092) (kk : LK l G D bb h q a b o i (ce + 350) (sl + 1600)) (s : PS) (g : PG) (s2 : PS) (g2 : PG) (f : Nat → Int64) (th : Int32) (m : MG) (ho : OKs s g m) : KJ l G D room_1 9 ce sl ((h, .inr (3, [.ref (a 0), .ref (b 0)])) :: (wSt D a s g ++ (wSt D b s2 g2 ++ ((q, .inl (D.1 6, 1, .inr (.inl f))) :: wMo D o th m)))) [(0, .ref bb), (1, .ref h), (2, .ref (o 0)), (3, .ref q), (4, .int (nI i))] 865 [] := by
  obtain ⟨hC, hX, ⟨hsc, hbl, hbA⟩, hL⟩ := hLX
  have hC : CX G D cL_law RL 9 := hC
  refine k_aload_n hC 865 dL_law_865 rfl ?_
  refine k_aload_n hC 866 dL_law_866 rfl ?_
  refine k_iload hC 867 dL_law_867 rfl ?_
  refine k_iconst hC 869 dL_law_869 (nI 1) (by decide) ?_
  refine n_iadd hC 870 (i + 1) dL_law_870 rfl ?_
  refine k_sld hC hsc hbl hbA 871 dL_law_871 (show i + 1 < L by omega) (by omega) ?_
  refine k_aload_n hC 872 dL_law_872 rfl ?_
  refine k_iload hC 873 dL_law_873 rfl ?_
  refine k_iconst hC 875 dL_law_875 (nI 2) (by decide) ?_
  refine n_iadd hC 876 (i + 2) dL_law_876 rfl ?_
  refine k_sld hC hsc hbl hbA 877 dL_law_877 (show i + 2 < L by omega) (by omega) ?_
  refine k_aload_n hC 878 dL_law_878 rfl ?_
  refine k_iload hC 879 dL_law_879 rfl ?_
  refine k_iconst hC 881 dL_law_881 (nI 3) (by decide) ?_
  refine n_iadd hC 882 (i + 3) dL_law_882 rfl ?_
  refine k_sld hC hsc hbl hbA 883 dL_law_883 (show i + 3 < L by omega) (by omega) ?_
  refine k_aload_n hC 884 dL_law_884 rfl ?_
  refine hf_callS (n := 5) hC hX 885 [] (wMo D o th m) (fun u => ((h, .inr (3, [.ref (a 0), .ref (b 0)])) :: (wSt D a u.1.1.1 u.1.1.2 ++ (wSt D b u.1.2.1 u.1.2.2 ++ ((q, .inl (D.1 6, 1, .inr (.inl u.2))) :: wMo D o th m))))) (h_trial l hX.1 D h a b s s2 g g2 q f (xs (i + 1)) (xs (i + 2)) (xs (i + 3)) ho.1 ho.2.1) wq_21_20 wq_21_21 wq_3_10 wq_21_22 ⟨by decide, by decide, by decide +kernel⟩ dL_law_885 ⟨Nat.le_of_ble_eq_true rfl, Nat.le_of_ble_eq_true rfl, (show ce + 2 ≤ 709337 by omega), (show sl + 12 ≤ 6968092 by omega)⟩ rfl (Nat.le_of_ble_eq_true rfl) (by simp only [List.append_assoc, List.cons_append, List.nil_append, List.append_nil]) (fun _ => rfl) (fun _ => by simp only [List.append_assoc, List.cons_append, List.nil_append, List.append_nil]) _ rfl (fun v u hp => ?_)
  obtain ⟨rfl, hk, hSu⟩ := hp
  refine KJ.eqs (st' := .int (nI (serK (xs (i + 1)) (xs (i + 2)) (xs (i + 3)))) :: []) rfl ?_
  refine k_istore hC 888 5 [(5, .int (nI (serK (xs (i + 1)) (xs (i + 2)) (xs (i + 3))))), (0, .ref bb), (1, .ref h), (2, .ref (o 0)), (3, .ref q), (4, .int (nI i))] dL_law_888 (by decide) rfl ?_
  refine k_aload_n hC 890 dL_law_890 rfl ?_
  refine k_aload_n hC 891 dL_law_891 rfl ?_
  refine k_iload hC 892 dL_law_892 rfl ?_
  refine k_iconst hC 894 dL_law_894 (nI 1) (by decide) ?_
  refine n_iadd hC 895 (i + 1) dL_law_895 rfl ?_
  refine k_sld hC hsc hbl hbA 896 dL_law_896 (show i + 1 < L by omega) (by omega) ?_
  refine k_aload_n hC 897 dL_law_897 rfl ?_
  refine k_iload hC 898 dL_law_898 rfl ?_
  refine k_iconst hC 900 dL_law_900 (nI 2) (by decide) ?_
  refine n_iadd hC 901 (i + 2) dL_law_901 rfl ?_
  refine k_sld hC hsc hbl hbA 902 dL_law_902 (show i + 2 < L by omega) (by omega) ?_
  refine k_aload_n hC 903 dL_law_903 rfl ?_
  refine k_iload hC 904 dL_law_904 rfl ?_
  refine k_iconst hC 906 dL_law_906 (nI 3) (by decide) ?_
  refine n_iadd hC 907 (i + 3) dL_law_907 rfl ?_
  refine k_sld hC hsc hbl hbA 908 dL_law_908 (show i + 3 < L by omega) (by omega) ?_
  refine f_callV hC 909 32 ((h, .inr (3, [.ref (a 0), .ref (b 0)])) :: (wSt D a u.1.1.1 u.1.1.2 ++ (wSt D b u.1.2.1 u.1.2.2 ++ ((q, .inl (D.1 6, 1, .inr (.inl u.2))) :: [])))) [] (fun w => ((h, .inr (3, [.ref (a 0), .ref (b 0)])) :: (wSt D a u.1.1.1 u.1.1.2 ++ (wSt D b u.1.2.1 u.1.2.2 ++ ((q, .inl (D.1 6, 1, .inr (.inl u.2))) :: wMo D o (nI (serK (xs (i + 1)) (xs (i + 2)) (xs (i + 3)))) w))))) (M_trial l D o th s m (xs (i + 1)) (xs (i + 2)) (xs (i + 3)) ho.2.2.1 ho.2.1 ho.2.2.2) cw_RL_115 dL_law_909 ⟨Nat.le_of_ble_eq_true rfl, Nat.le_of_ble_eq_true rfl, (show ce + 2 + 35 ≤ 709337 by omega), (show sl + 12 + 344 ≤ 6968092 by omega)⟩ rfl (Nat.le_of_ble_eq_true rfl) rfl rfl rfl (by simp only [List.append_assoc, List.cons_append, List.nil_append, List.append_nil]) (fun _ => rfl) (fun _ => by simp only [List.append_assoc, List.cons_append, List.nil_append, List.append_nil]) _ rfl (fun v w hp => ?_)
  obtain ⟨x, rfl, hm⟩ := hp
  refine KJ.eqs (st' := .int x :: []) rfl ?_
  refine k_istore hC 912 6 [(6, .int x), (5, .int (nI (serK (xs (i + 1)) (xs (i + 2)) (xs (i + 3))))), (0, .ref bb), (1, .ref h), (2, .ref (o 0)), (3, .ref q), (4, .int (nI i))] dL_law_912 (by decide) rfl ?_
  refine k_aload_n hC 914 dL_law_914 rfl ?_
  refine f_callV hC 915 32 ((h, .inr (3, [.ref (a 0), .ref (b 0)])) :: (wSt D a u.1.1.1 u.1.1.2 ++ (wSt D b u.1.2.1 u.1.2.2 ++ ((q, .inl (D.1 6, 1, .inr (.inl u.2))) :: [])))) [] (fun _ => ((h, .inr (3, [.ref (a 0), .ref (b 0)])) :: (wSt D a u.1.1.1 u.1.1.2 ++ (wSt D b u.1.2.1 u.1.2.2 ++ ((q, .inl (D.1 6, 1, .inr (.inl u.2))) :: wMo D o (nI (serK (xs (i + 1)) (xs (i + 2)) (xs (i + 3)))) w))))) (M_thrown l D o (nI (serK (xs (i + 1)) (xs (i + 2)) (xs (i + 3)))) w) cw_RL_70 dL_law_915 ⟨Nat.le_of_ble_eq_true rfl, Nat.le_of_ble_eq_true rfl, (show ce + 2 + 35 + 0 ≤ 709337 by omega), (show sl + 12 + 344 + 0 ≤ 6968092 by omega)⟩ rfl (Nat.le_of_ble_eq_true rfl) rfl rfl rfl (by simp only [List.append_assoc, List.cons_append, List.nil_append, List.append_nil]) (fun _ => rfl) (fun _ => by simp only [List.append_assoc, List.cons_append, List.nil_append, List.append_nil]) _ rfl (fun v _ hp => ?_)
  obtain rfl := hp
  refine KJ.eqs (st' := .int (nI (serK (xs (i + 1)) (xs (i + 2)) (xs (i + 3)))) :: []) rfl ?_
  refine k_iload hC 918 dL_law_918 rfl ?_
  refine k_icmp_eq hC 920 925 dL_law_920 (by decide) (fun h920 => ?_) (fun h920 => ?_)
  · skip
    refine k_iload hC 925 dL_law_925 rfl ?_
    refine n_if_ne hC 927 942 dL_law_927 (by decide) kK_lt (fun h927 => ?_) (fun h927 => ?_)
    · skip
      have es : u.1.1.1 = s := hk.elim (fun z => absurd z.1 h927) (fun z => z.2)
      have em : MR s w := hm.elim (fun z => absurd z.1 h927) (fun z => z.2)
      refine k_goto hC 942 1080 dL_law_942 (by decide) ?_
      refine KJ.lvp [2, 3, 4, 5, 6] rfl ?_
      refine KJ.wide (ce' := ce + 350) (sl' := sl + 1600) (by omega) (by omega) ?_
      exact kk u.1.1.1 u.1.1.2 u.1.2.1 u.1.2.2 u.2 _ w (⟨hSu, by rw [es]; exact ho.2.1, by rw [es]; exact em, by rw [es]; exact ho.2.2.2⟩)
    · skip
      obtain ⟨es, ef⟩ : u.1.1.1 = s ∧ u.2 0 = (serV s (xs (i + 1)) (xs (i + 2)) (xs (i + 3))).toInt64 := hk.elim (fun z => z.2) (fun z => absurd h927 z.1)
      obtain ⟨ex, em⟩ : x = serV s (xs (i + 1)) (xs (i + 2)) (xs (i + 3)) ∧ MR (s) w := hm.elim (fun z => z.2) (fun z => absurd h927 z.1)
      have ok := ok_trial (xs (i + 1)) (xs (i + 2)) (xs (i + 3)) ho.2.1 ho.2.2.2 h927
      refine k_aload_n hC 930 dL_law_930 rfl ?_
      refine k_iconst hC 931 dL_law_931 (nI 0) (by decide) ?_
      refine n_lald hC 932 31 (u.2 0) dL_law_932 rfl (by omega) (by decide) rfl ?_
      refine k_iload hC 933 dL_law_933 rfl ?_
      refine k_i2l hC 935 dL_law_935 x.toInt64 rfl ?_
      refine k_lcmp hC 936 dL_law_936 (KJ.topi (y := nI 0) (by rw [ef, ex]; exact lg_same _) ?_)
      refine n_if_eq hC 937 942 dL_law_937 (by decide) (by omega) (fun h937 => ?_) (fun h937 => ?_)
      · skip
        refine k_goto hC 942 1080 dL_law_942 (by decide) ?_
        refine KJ.lvp [2, 3, 4, 5, 6] rfl ?_
        refine KJ.wide (ce' := ce + 350) (sl' := sl + 1600) (by omega) (by omega) ?_
        exact kk u.1.1.1 u.1.1.2 u.1.2.1 u.1.2.2 u.2 _ w (⟨hSu, by rw [es]; exact ok.1, by rw [es]; exact em, by rw [es]; exact ok.2⟩)
      · skip
        exact absurd h937 (by decide)
  · skip
    exact absurd rfl h920
set_option maxHeartbeats 400000 in
set_option maxRecDepth 100000 in
theorem lc_advise (l : Launch) (G : KX) (D : va_G) (bb L : Nat) (xs : Nat → Int32) (h q : Nat) (a b o : Nat → Nat) (i ce sl : Nat) (hLX : LX l G D bb L xs) (hi : i + 4 ≤ L) (hce : ce + 350 ≤ 709337) (hsl : sl + 1600 ≤ 6968092) (kk : LK l G D bb h q a b o i (ce + 350) (sl + 1600)) (s : PS) (g : PG) (s2 : PS) (g2 : PG) (f : Nat → Int64) (th : Int32) (m : MG) (ho : OKs s g m) : KJ l G D room_1 9 ce sl ((h, .inr (3, [.ref (a 0), .ref (b 0)])) :: (wSt D a s g ++ (wSt D b s2 g2 ++ ((q, .inl (D.1 6, 1, .inr (.inl f))) :: wMo D o th m)))) [(0, .ref bb), (1, .ref h), (2, .ref (o 0)), (3, .ref q), (4, .int (nI i))] 945 [] := by
  obtain ⟨hC, hX, ⟨hsc, hbl, hbA⟩, hL⟩ := hLX
  have hC : CX G D cL_law RL 9 := hC
  refine k_aload_n hC 945 dL_law_945 rfl ?_
  refine k_aload_n hC 946 dL_law_946 rfl ?_
  refine k_iload hC 947 dL_law_947 rfl ?_
  refine k_iconst hC 949 dL_law_949 (nI 1) (by decide) ?_
  refine n_iadd hC 950 (i + 1) dL_law_950 rfl ?_
  refine k_sld hC hsc hbl hbA 951 dL_law_951 (show i + 1 < L by omega) (by omega) ?_
  refine k_aload_n hC 952 dL_law_952 rfl ?_
  refine k_iload hC 953 dL_law_953 rfl ?_
  refine k_iconst hC 955 dL_law_955 (nI 2) (by decide) ?_
  refine n_iadd hC 956 (i + 2) dL_law_956 rfl ?_
  refine k_sld hC hsc hbl hbA 957 dL_law_957 (show i + 2 < L by omega) (by omega) ?_
  refine k_aload_n hC 958 dL_law_958 rfl ?_
  refine k_iload hC 959 dL_law_959 rfl ?_
  refine k_iconst hC 961 dL_law_961 (nI 3) (by decide) ?_
  refine n_iadd hC 962 (i + 3) dL_law_962 rfl ?_
  refine k_sld hC hsc hbl hbA 963 dL_law_963 (show i + 3 < L by omega) (by omega) ?_
  refine k_aload_n hC 964 dL_law_964 rfl ?_
  refine hf_callS (n := 5) hC hX 965 [] (wMo D o th m) (fun u => ((h, .inr (3, [.ref (a 0), .ref (b 0)])) :: (wSt D a u.1.1.1 u.1.1.2 ++ (wSt D b u.1.2.1 u.1.2.2 ++ ((q, .inl (D.1 6, 1, .inr (.inl u.2))) :: wMo D o th m))))) (h_advise l hX.1 D h a b s s2 g g2 q f (xs (i + 1)) (xs (i + 2)) (xs (i + 3)) ho.1 ho.2.1) wq_22_7 wq_22_8 wq_3_10 wq_22_9 ⟨by decide, by decide, by decide +kernel⟩ dL_law_965 ⟨Nat.le_of_ble_eq_true rfl, Nat.le_of_ble_eq_true rfl, (show ce + 2 ≤ 709337 by omega), (show sl + 12 ≤ 6968092 by omega)⟩ rfl (Nat.le_of_ble_eq_true rfl) (by simp only [List.append_assoc, List.cons_append, List.nil_append, List.append_nil]) (fun _ => rfl) (fun _ => by simp only [List.append_assoc, List.cons_append, List.nil_append, List.append_nil]) _ rfl (fun v u hp => ?_)
  obtain ⟨rfl, hk, hSu⟩ := hp
  refine KJ.eqs (st' := .int (nI (serK (xs (i + 1)) (xs (i + 2)) (xs (i + 3)))) :: []) rfl ?_
  refine k_istore hC 968 5 [(5, .int (nI (serK (xs (i + 1)) (xs (i + 2)) (xs (i + 3))))), (0, .ref bb), (1, .ref h), (2, .ref (o 0)), (3, .ref q), (4, .int (nI i))] dL_law_968 (by decide) rfl ?_
  refine k_aload_n hC 970 dL_law_970 rfl ?_
  refine k_aload_n hC 971 dL_law_971 rfl ?_
  refine k_iload hC 972 dL_law_972 rfl ?_
  refine k_iconst hC 974 dL_law_974 (nI 1) (by decide) ?_
  refine n_iadd hC 975 (i + 1) dL_law_975 rfl ?_
  refine k_sld hC hsc hbl hbA 976 dL_law_976 (show i + 1 < L by omega) (by omega) ?_
  refine k_aload_n hC 977 dL_law_977 rfl ?_
  refine k_iload hC 978 dL_law_978 rfl ?_
  refine k_iconst hC 980 dL_law_980 (nI 2) (by decide) ?_
  refine n_iadd hC 981 (i + 2) dL_law_981 rfl ?_
  refine k_sld hC hsc hbl hbA 982 dL_law_982 (show i + 2 < L by omega) (by omega) ?_
  refine k_aload_n hC 983 dL_law_983 rfl ?_
  refine k_iload hC 984 dL_law_984 rfl ?_
  refine k_iconst hC 986 dL_law_986 (nI 3) (by decide) ?_
  refine n_iadd hC 987 (i + 3) dL_law_987 rfl ?_
  refine k_sld hC hsc hbl hbA 988 dL_law_988 (show i + 3 < L by omega) (by omega) ?_
  refine f_callV hC 989 32 ((h, .inr (3, [.ref (a 0), .ref (b 0)])) :: (wSt D a u.1.1.1 u.1.1.2 ++ (wSt D b u.1.2.1 u.1.2.2 ++ ((q, .inl (D.1 6, 1, .inr (.inl u.2))) :: [])))) [] (fun w => ((h, .inr (3, [.ref (a 0), .ref (b 0)])) :: (wSt D a u.1.1.1 u.1.1.2 ++ (wSt D b u.1.2.1 u.1.2.2 ++ ((q, .inl (D.1 6, 1, .inr (.inl u.2))) :: wMo D o (nI (serK (xs (i + 1)) (xs (i + 2)) (xs (i + 3)))) w))))) (M_advise l D o th s m (xs (i + 1)) (xs (i + 2)) (xs (i + 3)) ho.2.2.1 ho.2.1 ho.2.2.2) cw_RL_118 dL_law_989 ⟨Nat.le_of_ble_eq_true rfl, Nat.le_of_ble_eq_true rfl, (show ce + 2 + 335 ≤ 709337 by omega), (show sl + 12 + 1544 ≤ 6968092 by omega)⟩ rfl (Nat.le_of_ble_eq_true rfl) rfl rfl rfl (by simp only [List.append_assoc, List.cons_append, List.nil_append, List.append_nil]) (fun _ => rfl) (fun _ => by simp only [List.append_assoc, List.cons_append, List.nil_append, List.append_nil]) _ rfl (fun v w hp => ?_)
  obtain ⟨x, rfl, hm⟩ := hp
  refine KJ.eqs (st' := .int x :: []) rfl ?_
  refine k_istore hC 992 6 [(6, .int x), (5, .int (nI (serK (xs (i + 1)) (xs (i + 2)) (xs (i + 3))))), (0, .ref bb), (1, .ref h), (2, .ref (o 0)), (3, .ref q), (4, .int (nI i))] dL_law_992 (by decide) rfl ?_
  refine k_aload_n hC 994 dL_law_994 rfl ?_
  refine f_callV hC 995 32 ((h, .inr (3, [.ref (a 0), .ref (b 0)])) :: (wSt D a u.1.1.1 u.1.1.2 ++ (wSt D b u.1.2.1 u.1.2.2 ++ ((q, .inl (D.1 6, 1, .inr (.inl u.2))) :: [])))) [] (fun _ => ((h, .inr (3, [.ref (a 0), .ref (b 0)])) :: (wSt D a u.1.1.1 u.1.1.2 ++ (wSt D b u.1.2.1 u.1.2.2 ++ ((q, .inl (D.1 6, 1, .inr (.inl u.2))) :: wMo D o (nI (serK (xs (i + 1)) (xs (i + 2)) (xs (i + 3)))) w))))) (M_thrown l D o (nI (serK (xs (i + 1)) (xs (i + 2)) (xs (i + 3)))) w) cw_RL_70 dL_law_995 ⟨Nat.le_of_ble_eq_true rfl, Nat.le_of_ble_eq_true rfl, (show ce + 2 + 335 + 0 ≤ 709337 by omega), (show sl + 12 + 1544 + 0 ≤ 6968092 by omega)⟩ rfl (Nat.le_of_ble_eq_true rfl) rfl rfl rfl (by simp only [List.append_assoc, List.cons_append, List.nil_append, List.append_nil]) (fun _ => rfl) (fun _ => by simp only [List.append_assoc, List.cons_append, List.nil_append, List.append_nil]) _ rfl (fun v _ hp => ?_)
  obtain rfl := hp
  refine KJ.eqs (st' := .int (nI (serK (xs (i + 1)) (xs (i + 2)) (xs (i + 3)))) :: []) rfl ?_
  refine k_iload hC 998 dL_law_998 rfl ?_
  refine k_icmp_eq hC 1000 1005 dL_law_1000 (by decide) (fun h1000 => ?_) (fun h1000 => ?_)
  · skip
    refine k_iload hC 1005 dL_law_1005 rfl ?_
    refine n_if_ne hC 1007 1022 dL_law_1007 (by decide) kK_lt (fun h1007 => ?_) (fun h1007 => ?_)
    · skip
      have es : u.1.1.1 = s := hk.elim (fun z => absurd z.1 h1007) (fun z => z.2)
      have em : MR s w := hm.elim (fun z => absurd z.1 h1007) (fun z => z.2)
      refine k_goto hC 1022 1080 dL_law_1022 (by decide) ?_
      refine KJ.lvp [2, 3, 4, 5, 6] rfl ?_
      refine KJ.wide (ce' := ce + 350) (sl' := sl + 1600) (by omega) (by omega) ?_
      exact kk u.1.1.1 u.1.1.2 u.1.2.1 u.1.2.2 u.2 _ w (⟨hSu, by rw [es]; exact ho.2.1, by rw [es]; exact em, by rw [es]; exact ho.2.2.2⟩)
    · skip
      obtain ⟨es, ef⟩ : u.1.1.1 = s ∧ u.2 0 = (advV s (xs (i + 1)) (xs (i + 2)) (xs (i + 3))).toInt64 := hk.elim (fun z => z.2) (fun z => absurd h1007 z.1)
      obtain ⟨ex, em⟩ : x = advV s (xs (i + 1)) (xs (i + 2)) (xs (i + 3)) ∧ MR (s) w := hm.elim (fun z => z.2) (fun z => absurd h1007 z.1)
      have ok := ok_advise (xs (i + 1)) (xs (i + 2)) (xs (i + 3)) ho.2.1 ho.2.2.2 h1007
      refine k_aload_n hC 1010 dL_law_1010 rfl ?_
      refine k_iconst hC 1011 dL_law_1011 (nI 0) (by decide) ?_
      refine n_lald hC 1012 31 (u.2 0) dL_law_1012 rfl (by omega) (by decide) rfl ?_
      refine k_iload hC 1013 dL_law_1013 rfl ?_
      refine k_i2l hC 1015 dL_law_1015 x.toInt64 rfl ?_
      refine k_lcmp hC 1016 dL_law_1016 (KJ.topi (y := nI 0) (by rw [ef, ex]; exact lg_same _) ?_)
      refine n_if_eq hC 1017 1022 dL_law_1017 (by decide) (by omega) (fun h1017 => ?_) (fun h1017 => ?_)
      · skip
        refine k_goto hC 1022 1080 dL_law_1022 (by decide) ?_
        refine KJ.lvp [2, 3, 4, 5, 6] rfl ?_
        refine KJ.wide (ce' := ce + 350) (sl' := sl + 1600) (by omega) (by omega) ?_
        exact kk u.1.1.1 u.1.1.2 u.1.2.1 u.1.2.2 u.2 _ w (⟨hSu, by rw [es]; exact ok.1, by rw [es]; exact em, by rw [es]; exact ok.2⟩)
      · skip
        exact absurd h1017 (by decide)
  · skip
    exact absurd rfl h1000
set_option maxHeartbeats 400000 in
set_option maxRecDepth 100000 in
theorem lc_mean (l : Launch) (G : KX) (D : va_G) (bb L : Nat) (xs : Nat → Int32) (h q : Nat) (a b o : Nat → Nat) (i ce sl : Nat) (hLX : LX l G D bb L xs) (hi : i + 4 ≤ L) (hce : ce + 350 ≤ 709337) (hsl : sl + 1600 ≤ 6968092) (kk : LK l G D bb h q a b o i (ce + 350) (sl + 1600)) (s : PS) (g : PG) (s2 : PS) (g2 : PG) (f : Nat → Int64) (th : Int32) (m : MG) (ho : OKs s g m) (hN : ∀ (x : Int32) (j : Nat), 1 ≤ j → j ≤ 12 → vf_n64 (FP.ddiv (FP.i2d x) (FP.i2d (nI j)))) : KJ l G D room_1 9 ce sl ((h, .inr (3, [.ref (a 0), .ref (b 0)])) :: (wSt D a s g ++ (wSt D b s2 g2 ++ ((q, .inl (D.1 6, 1, .inr (.inl f))) :: wMo D o th m)))) [(0, .ref bb), (1, .ref h), (2, .ref (o 0)), (3, .ref q), (4, .int (nI i))] 1025 [] := by
  obtain ⟨hC, hX, ⟨hsc, hbl, hbA⟩, hL⟩ := hLX
  have hC : CX G D cL_law RL 9 := hC
  refine k_aload_n hC 1025 dL_law_1025 rfl ?_
  refine f_callV hC 1026 0 [] ((q, .inl (D.1 6, 1, .inr (.inl f))) :: wMo D o th m) (fun _ => ((h, .inr (3, [.ref (a 0), .ref (b 0)])) :: (wSt D a s g ++ (wSt D b s2 g2 ++ ((q, .inl (D.1 6, 1, .inr (.inl f))) :: wMo D o th m))))) (c_X3_mean l D h a b s s2 g g2 ho.1 ho.2.1 hN) cw_RL_119 dL_law_1026 ⟨Nat.le_of_ble_eq_true rfl, Nat.le_of_ble_eq_true rfl, (show ce + 0 ≤ 709337 by omega), (show sl + 0 ≤ 6968092 by omega)⟩ rfl (Nat.le_of_ble_eq_true rfl) rfl rfl rfl (by simp only [List.append_assoc, List.cons_append, List.nil_append, List.append_nil]) (fun _ => rfl) (fun _ => by simp only [List.append_assoc, List.cons_append, List.nil_append, List.append_nil]) _ rfl (fun v _ hp => ?_)
  obtain rfl := hp
  refine KJ.eqs (st' := .double (meanV s) :: []) rfl ?_
  refine k_dstore hC 1029 5 [(5, .double (meanV s)), (0, .ref bb), (1, .ref h), (2, .ref (o 0)), (3, .ref q), (4, .int (nI i))] dL_law_1029 (by decide) rfl ?_
  refine k_aload_n hC 1031 dL_law_1031 rfl ?_
  refine f_callV hC 1032 32 ((h, .inr (3, [.ref (a 0), .ref (b 0)])) :: (wSt D a s g ++ (wSt D b s2 g2 ++ ((q, .inl (D.1 6, 1, .inr (.inl f))) :: [])))) [] (fun _ => ((h, .inr (3, [.ref (a 0), .ref (b 0)])) :: (wSt D a s g ++ (wSt D b s2 g2 ++ ((q, .inl (D.1 6, 1, .inr (.inl f))) :: wMo D o (nI 0) m))))) (M_mean l D o th s m ho.2.2.1 ho.2.1 hN) cw_RL_123 dL_law_1032 ⟨Nat.le_of_ble_eq_true rfl, Nat.le_of_ble_eq_true rfl, (show ce + 0 + 0 ≤ 709337 by omega), (show sl + 0 + 0 ≤ 6968092 by omega)⟩ rfl (Nat.le_of_ble_eq_true rfl) rfl rfl rfl (by simp only [List.append_assoc, List.cons_append, List.nil_append, List.append_nil]) (fun _ => rfl) (fun _ => by simp only [List.append_assoc, List.cons_append, List.nil_append, List.append_nil]) _ rfl (fun v _ hp => ?_)
  obtain rfl := hp
  refine KJ.eqs (st' := .double (meanV s) :: []) rfl ?_
  refine k_dstore hC 1035 7 [(7, .double (meanV s)), (5, .double (meanV s)), (0, .ref bb), (1, .ref h), (2, .ref (o 0)), (3, .ref q), (4, .int (nI i))] dL_law_1035 (by decide) rfl ?_
  refine k_dload hC 1037 dL_law_1037 rfl ?_
  refine k_dload hC 1039 dL_law_1039 rfl ?_
  refine k_dcmp hC 1041 dL_law_1041 ?_
  refine k_if_eq hC 1042 1063 dL_law_1042 (by decide) (fun h1042 => ?_) (fun h1042 => ?_)
  · skip
    refine k_goto hC 1063 1080 dL_law_1063 (by decide) ?_
    refine KJ.lvp [2, 3, 4, 5, 6] rfl ?_
    refine KJ.wide (ce' := ce + 350) (sl' := sl + 1600) (by omega) (by omega) ?_
    exact kk s g s2 g2 f _ m (⟨ho.1, ho.2.1, ho.2.2.1, ho.2.2.2⟩)
  · skip
    refine k_dload hC 1045 dL_law_1045 rfl ?_
    refine k_dload hC 1047 dL_law_1047 rfl ?_
    refine k_dcmp hC 1049 dL_law_1049 ?_
    refine k_if_eq hC 1050 1061 dL_law_1050 (by decide) (fun h1050 => ?_) (fun h1050 => ?_)
    · skip
      exact absurd h1050 h1042
    · skip
      refine k_dload hC 1053 dL_law_1053 rfl ?_
      refine k_dload hC 1055 dL_law_1055 rfl ?_
      refine k_dcmp hC 1057 dL_law_1057 ?_
      refine k_if_ne hC 1058 1063 dL_law_1058 (by decide) (fun h1058 => ?_) (fun h1058 => ?_)
      · skip
        refine k_goto hC 1063 1080 dL_law_1063 (by decide) ?_
        refine KJ.lvp [2, 3, 4, 5, 6] rfl ?_
        refine KJ.wide (ce' := ce + 350) (sl' := sl + 1600) (by omega) (by omega) ?_
        exact kk s g s2 g2 f _ m (⟨ho.1, ho.2.1, ho.2.2.1, ho.2.2.2⟩)
      · skip
        exact absurd h1058 h1042
set_option maxHeartbeats 400000 in
set_option maxRecDepth 100000 in
theorem lc_digest (l : Launch) (G : KX) (D : va_G) (bb L : Nat) (xs : Nat → Int32) (h q : Nat) (a b o : Nat → Nat) (i ce sl : Nat) (hLX : LX l G D bb L xs) (hi : i + 4 ≤ L) (hce : ce + 350 ≤ 709337) (hsl : sl + 1600 ≤ 6968092) (kk : LK l G D bb h q a b o i (ce + 350) (sl + 1600)) (s : PS) (g : PG) (s2 : PS) (g2 : PG) (f : Nat → Int64) (th : Int32) (m : MG) (ho : OKs s g m) : KJ l G D room_1 9 ce sl ((h, .inr (3, [.ref (a 0), .ref (b 0)])) :: (wSt D a s g ++ (wSt D b s2 g2 ++ ((q, .inl (D.1 6, 1, .inr (.inl f))) :: wMo D o th m)))) [(0, .ref bb), (1, .ref h), (2, .ref (o 0)), (3, .ref q), (4, .int (nI i))] 1066 [] := by
  obtain ⟨hC, hX, ⟨hsc, hbl, hbA⟩, hL⟩ := hLX
  have hC : CX G D cL_law RL 9 := hC
  refine k_aload_n hC 1066 dL_law_1066 rfl ?_
  refine f_callV hC 1067 0 [] ((q, .inl (D.1 6, 1, .inr (.inl f))) :: wMo D o th m) (fun _ => ((h, .inr (3, [.ref (a 0), .ref (b 0)])) :: (wSt D a s g ++ (wSt D b s2 g2 ++ ((q, .inl (D.1 6, 1, .inr (.inl f))) :: wMo D o th m))))) (c_X3_digest l D h a b s s2 g g2 ho.1 ho.2.1) cw_RL_124 dL_law_1067 ⟨Nat.le_of_ble_eq_true rfl, Nat.le_of_ble_eq_true rfl, (show ce + 0 ≤ 709337 by omega), (show sl + 0 ≤ 6968092 by omega)⟩ rfl (Nat.le_of_ble_eq_true rfl) rfl rfl rfl (by simp only [List.append_assoc, List.cons_append, List.nil_append, List.append_nil]) (fun _ => rfl) (fun _ => by simp only [List.append_assoc, List.cons_append, List.nil_append, List.append_nil]) _ rfl (fun v _ hp => ?_)
  obtain rfl := hp
  refine KJ.eqs (st' := .long (digV s) :: []) rfl ?_
  refine k_aload_n hC 1070 dL_law_1070 rfl ?_
  refine f_callV hC 1071 32 ((h, .inr (3, [.ref (a 0), .ref (b 0)])) :: (wSt D a s g ++ (wSt D b s2 g2 ++ ((q, .inl (D.1 6, 1, .inr (.inl f))) :: [])))) [] (fun _ => ((h, .inr (3, [.ref (a 0), .ref (b 0)])) :: (wSt D a s g ++ (wSt D b s2 g2 ++ ((q, .inl (D.1 6, 1, .inr (.inl f))) :: wMo D o (nI 0) m))))) (M_digest l D o th s m ho.2.2.1 ho.2.1) cw_RL_128 dL_law_1071 ⟨Nat.le_of_ble_eq_true rfl, Nat.le_of_ble_eq_true rfl, (show ce + 0 + 0 ≤ 709337 by omega), (show sl + 0 + 0 ≤ 6968092 by omega)⟩ rfl (Nat.le_of_ble_eq_true rfl) rfl rfl rfl (by simp only [List.append_assoc, List.cons_append, List.nil_append, List.append_nil]) (fun _ => rfl) (fun _ => by simp only [List.append_assoc, List.cons_append, List.nil_append, List.append_nil]) _ rfl (fun v _ hp => ?_)
  obtain rfl := hp
  refine KJ.eqs (st' := .long (digV s) :: .long (digV s) :: []) rfl ?_
  refine k_lcmp hC 1074 dL_law_1074 (KJ.topi (y := nI 0) (lg_same _) ?_)
  refine n_if_eq hC 1075 1080 dL_law_1075 (by decide) (by omega) (fun h1075 => ?_) (fun h1075 => ?_)
  · skip
    refine KJ.lvp [0, 1, 2, 3, 4] rfl ?_
    refine KJ.wide (ce' := ce + 350) (sl' := sl + 1600) (by omega) (by omega) ?_
    exact kk s g s2 g2 f _ m (⟨ho.1, ho.2.1, ho.2.2.1, ho.2.2.2⟩)
  · skip
    exact absurd h1075 (by decide)
