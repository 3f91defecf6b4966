/-! The law: its rules beside the words, and the model's calls over the folded world -/
section LR
variable {S : Type} {l : Launch} {G : KX} {D : va_G} {R : Room} {cc : ByteArray} {own : String} {nL ce sl : Nat} {ws : va_W} {lv : List (Nat × Value)} {st : List Value}
variable {y : MethodName} {bytes : ByteArray} {maxL : Nat} {ret : Option FieldType} {fr lo : Nat} {w0 : va_W} {post : Option Value → S → Prop} {w1 : S → va_W} {mc ms n ix : Nat} {As : List Value} {hh : List (Nat × Nat × Nat × Nat)}
theorem hf_callS (hC : CX G D cc own nL) (hX : XF l G) (pc : Nat) (P Q : va_W) (ws' : S → va_W) (hM : MH l y bytes maxL ret hh fr lo D As w0 post w1 mc ms) (hw1 : Cond.methodLink own ix y ∈ wsL_law) (hw2 : Cond.static y ∈ wsL_law) (hw3 : Cond.initialized y.cls ∈ wsL_law) (hw4 : Cond.codeWith y bytes maxL ret hh ∈ wsL_law) (hd : y.cls ≠ "java/lang/invoke/MethodHandle" ∧ y.cls ≠ "java/lang/invoke/VarHandle" ∧ (parseMethodDescriptor y.desc).map (fun d => d.parameters.length) = some n) (hdg : decode cc pc = .ok (.invokestatic ix, 3))
    (hR : fr + 1 ≤ R.frames ∧ 8 + (maxL + 11) + lo ≤ R.locals ∧ ce + mc ≤ R.cells ∧ sl + ms ≤ R.slots) (hn : As.length = n) (hcat : (st.map fun v => v.category).sum ≤ 8) (hW : ws = P ++ w0 ++ Q) (hL : ∀ u, (w1 u).length = w0.length) (hws : ∀ u, P ++ w1 u ++ Q = ws' u)
    (st0 : List Value) (hst : st0 = As.reverse ++ st) (kk : ∀ (v : Option Value) (u : S), post v u → KJ l G D R nL (ce + mc) (sl + ms) (ws' u) lv (pc + 3) (v.toList ++ st)) : KJ l G D R nL ce sl ws lv pc st0 :=
  h_callS hC hX pc (List.range' P.length w0.length) ws' hM hw1 hw2 hw3 hw4 hd hdg hR hn hcat (nd_range _ _) (by rw [hW]; exact map_mid w0 P Q) (fun u => by rw [List.length_range', hL u]; exact Nat.le_refl _) (fun u => by rw [hW, putL_mid _ _ _ _ (hL u)]; exact hws u) st0 hst kk
theorem k_sld {b L i : Nat} {xs : Nat → Int32} (hC : CX G D cc own nL) (hX : va_X b L xs (ks G) (ks G).heap) (hbl : b < (ks G).heap.size) (hbA : ¬ kA G b) (pc : Nat) (hdg : decode cc pc = .ok (.iaload, 1)) (hi : i < L) (hL : L < 2147483648) (kk : KJ l G D R nL ce sl ws lv (pc + 1) (.int (xs i) :: st)) : KJ l G D R nL ce sl ws lv pc (.int (nI i) :: .ref b :: st) := fun H locs ls hP hD hS hl => va_sld hC.ex hC.cd hX hbl hbA hS (vp_in_nI hi hL) hdg (by rw [nI_clamp (Nat.lt_trans hi hL)]; exact kk H locs ls hP hD hS hl)
theorem k_slen {b L : Nat} {xs : Nat → Int32} (hC : CX G D cc own nL) (hX : va_X b L xs (ks G) (ks G).heap) (hbl : b < (ks G).heap.size) (hbA : ¬ kA G b) (pc : Nat) (hdg : decode cc pc = .ok (.arraylength, 1)) (kk : KJ l G D R nL ce sl ws lv (pc + 1) (.int (nI L) :: st)) : KJ l G D R nL ce sl ws lv pc (.ref b :: st) := fun H locs ls hP hD hS hl => va_slen hC.ex hC.cd hX hbl hbA hS hdg (kk H locs ls hP hD hS hl)
end LR
theorem lg_same (x : Int64) : lg_cmp x x = nI 0 := by
  unfold lg_cmp
  rw [if_neg (Int64.lt_irrefl (a := x)), if_pos rfl]
  rfl
theorem kK_lt {c1 c2 : Prop} : kK c1 c2 < 2147483648 := by
  unfold kK
  split
  · decide
  · split <;> decide
/-- what holds of the law's run: its code, the tables, the script -/
def LX (l : Launch) (G : KX) (D : va_G) (bb L : Nat) (xs : Nat → Int32) : Prop := CX G D cL_law RL 9 ∧ XF l G ∧ (va_X bb L xs (ks G) (ks G).heap ∧ bb < (ks G).heap.size ∧ ¬ kA G bb) ∧ L ≤ 2048
/-- the pantry, the cells of the class and those of the model say the same -/
def OKs (s : PS) (g : PG) (m : MG) : Prop := SR s g ∧ WF s ∧ MR s m ∧ jrs s ≤ plS s
/-- the law's cells -/
def LW (D : va_G) (h q : Nat) (a b o : Nat → Nat) (s : PS) (g : PG) (s2 : PS) (g2 : PG) (f : Nat → Int64) (th : Int32) (m : MG) : va_W := (h, .inr (3, [.ref (a 0), .ref (b 0)])) :: (wSt D a s g ++ (wSt D b s2 g2 ++ ((q, .inl (D.1 6, 1, .inr (.inl f))) :: wMo D o th m)))
abbrev LV (bb h q i : Nat) (o : Nat → Nat) : List (Nat × Value) := [(0, .ref bb), (1, .ref h), (2, .ref (o 0)), (3, .ref q), (4, .int (nI i))]
/-- how it goes on behind a call -/
def LK (l : Launch) (G : KX) (D : va_G) (bb h q : Nat) (a b o : Nat → Nat) (i ce sl : Nat) : Prop := ∀ (s : PS) (g : PG) (s2 : PS) (g2 : PG) (f : Nat → Int64) (th : Int32) (m : MG), OKs s g m → KJ l G D room_1 9 ce sl (LW D h q a b o s g s2 g2 f th m) (LV bb h q i o) 1080 []
theorem M_thrown (l : Launch) (D : va_G) (o : Nat → Nat) (th : Int32) (m : MG) : MU l yX4_thrown cX4_thrown 1 (some .int) 0 0 D [.ref (o 0)] (wMo D o th m) (fun v (_ : Unit) => v = some (.int th)) (fun _ => wMo D o th m) 0 0 := by
  obtain ⟨fj, fs, fl, fn⟩ := m
  exact m_thrown l D o th fj fs fl fn
theorem M_fetch (l : Launch) (D : va_G) (o : Nat → Nat) (th : Int32) (s : PS) (m : MG) (p : Int32) (hM : MR s m) (hW : WF s) (hjp : jrs s ≤ plS s) : MU l yX4_fetch cX4_fetch 2 (some .int) 6 151 D [.ref (o 0), .int p] (wMo D o th m) (fun v (u : MG) => ∃ x : Int32, v = some (.int x) ∧ ((fetchK s p = 0 ∧ x = nI (oc s (kn p)) ∧ MR (br s (kn p)) u) ∨ (fetchK s p ≠ 0 ∧ MR s u))) (fun u => wMo D o (nI (fetchK s p)) u) 1 4 := by
  obtain ⟨N, T, A, B, to, pi, fe, pl, go, hi, mi, re, lo⟩ := s
  obtain ⟨fj, fs, fl, fn⟩ := m
  exact m_fetch l D o th fj fs fl fn N T A B to pi fe pl go hi mi re lo p hM hW hjp
theorem M_fetchAll (l : Launch) (D : va_G) (o : Nat → Nat) (th : Int32) (s : PS) (m : MG) (p0 p1 p2 : Int32) (hM : MR s m) (hW : WF s) (hjp : jrs s ≤ plS s) : MU l yX4_fetchAll cX4_fetchAll 4 (some .int) 7 176 D [.ref (o 0), .int p0, .int p1, .int p2] (wMo D o th m) (fun v (u : MG) => ∃ x : Int32, v = some (.int x) ∧ ((serK p0 p1 p2 = 0 ∧ x = serV s p0 p1 p2 ∧ MR (serS s p0 p1 p2) u) ∨ (serK p0 p1 p2 ≠ 0 ∧ MR s u))) (fun u => wMo D o (nI (serK p0 p1 p2)) u) 30 120 := by
  obtain ⟨N, T, A, B, to, pi, fe, pl, go, hi, mi, re, lo⟩ := s
  obtain ⟨fj, fs, fl, fn⟩ := m
  exact m_fetchAll l D o th fj fs fl fn N T A B to pi fe pl go hi mi re lo p0 p1 p2 hM hW hjp
theorem M_pin (l : Launch) (D : va_G) (o : Nat → Nat) (th : Int32) (s : PS) (m : MG) (p : Int32) (hM : MR s m) (hW : WF s) (hjp : jrs s ≤ plS s) : MU l yX4_pin cX4_pin 2 (some .int) 2 43 D [.ref (o 0), .int p] (wMo D o th m) (fun v (u : MG) => ∃ x : Int32, v = some (.int x) ∧ ((pinK s p = 0 ∧ x = nI (piS s (kn p) + 1) ∧ MR (upPi s (kn p) (piS s (kn p) + 1)) u) ∨ (pinK s p ≠ 0 ∧ MR s u))) (fun u => wMo D o (nI (pinK s p)) u) 0 0 := by
  obtain ⟨N, T, A, B, to, pi, fe, pl, go, hi, mi, re, lo⟩ := s
  obtain ⟨fj, fs, fl, fn⟩ := m
  exact m_pin l D o th fj fs fl fn N T A B to pi fe pl go hi mi re lo p hM hW hjp
theorem M_unpin (l : Launch) (D : va_G) (o : Nat → Nat) (th : Int32) (s : PS) (m : MG) (p : Int32) (hM : MR s m) (hW : WF s) (hjp : jrs s ≤ plS s) : MU l yX4_unpin cX4_unpin 2 (some .int) 2 43 D [.ref (o 0), .int p] (wMo D o th m) (fun v (u : MG) => ∃ x : Int32, v = some (.int x) ∧ ((unpinK s p = 0 ∧ x = nI (piS s (kn p) - 1) ∧ MR (upPi s (kn p) (piS s (kn p) - 1)) u) ∨ (unpinK s p ≠ 0 ∧ MR s u))) (fun u => wMo D o (nI (unpinK s p)) u) 0 0 := by
  obtain ⟨N, T, A, B, to, pi, fe, pl, go, hi, mi, re, lo⟩ := s
  obtain ⟨fj, fs, fl, fn⟩ := m
  exact m_unpin l D o th fj fs fl fn N T A B to pi fe pl go hi mi re lo p hM hW hjp
theorem M_eat (l : Launch) (D : va_G) (o : Nat → Nat) (th : Int32) (s : PS) (m : MG) (p : Int32) (hM : MR s m) (hW : WF s) (hjp : jrs s ≤ plS s) : MU l yX4_eat cX4_eat 2 (some .int) 2 62 D [.ref (o 0), .int p] (wMo D o th m) (fun v (u : MG) => ∃ x : Int32, v = some (.int x) ∧ ((eatK s p = 0 ∧ x = feS s (kn p) ∧ MR (eatS s (kn p)) u) ∨ (eatK s p ≠ 0 ∧ MR s u))) (fun u => wMo D o (nI (eatK s p)) u) 0 0 := by
  obtain ⟨N, T, A, B, to, pi, fe, pl, go, hi, mi, re, lo⟩ := s
  obtain ⟨fj, fs, fl, fn⟩ := m
  exact m_eat l D o th fj fs fl fn N T A B to pi fe pl go hi mi re lo p hM hW hjp
theorem M_setPlaces (l : Launch) (D : va_G) (o : Nat → Nat) (th : Int32) (s : PS) (m : MG) (p : Int32) (hM : MR s m) (hW : WF s) (hjp : jrs s ≤ plS s) : MU l yX4_setPlaces cX4_setPlaces 3 (some .int) 6 149 D [.ref (o 0), .int p] (wMo D o th m) (fun v (u : MG) => ∃ x : Int32, v = some (.int x) ∧ ((setPlacesK s p = 0 ∧ x = nI (plS s) ∧ MR (rsz (kn p) s) u) ∨ (setPlacesK s p ≠ 0 ∧ MR s u))) (fun u => wMo D o (nI (setPlacesK s p)) u) 0 0 := by
  obtain ⟨N, T, A, B, to, pi, fe, pl, go, hi, mi, re, lo⟩ := s
  obtain ⟨fj, fs, fl, fn⟩ := m
  exact m_setPlaces l D o th fj fs fl fn N T A B to pi fe pl go hi mi re lo p hM hW hjp
theorem M_setGoal (l : Launch) (D : va_G) (o : Nat → Nat) (th : Int32) (s : PS) (m : MG) (p : Int32) (hM : MR s m) (hW : WF s) (hjp : jrs s ≤ plS s) : MU l yX4_setGoal cX4_setGoal 3 (some .int) 1 22 D [.ref (o 0), .int p] (wMo D o th m) (fun v (u : MG) => ∃ x : Int32, v = some (.int x) ∧ ((setGoalK s p = 0 ∧ x = nI (goS s) ∧ MR (goTo s (kn p)) u) ∨ (setGoalK s p ≠ 0 ∧ MR s u))) (fun u => wMo D o (nI (setGoalK s p)) u) 0 0 := by
  obtain ⟨N, T, A, B, to, pi, fe, pl, go, hi, mi, re, lo⟩ := s
  obtain ⟨fj, fs, fl, fn⟩ := m
  exact m_setGoal l D o th fj fs fl fn N T A B to pi fe pl go hi mi re lo p hM hW hjp
theorem M_jar (l : Launch) (D : va_G) (o : Nat → Nat) (th : Int32) (s : PS) (m : MG) (p0 p1 : Int32) (hM : MR s m) (hW : WF s) (hjp : jrs s ≤ plS s) : MU l yX4_jar cX4_jar 3 (some .int) 2 44 D [.ref (o 0), .int p0, .int p1] (wMo D o th m) (fun v (u : MG) => ∃ x : Int32, v = some (.int x) ∧ ((jarK p0 p1 = 0 ∧ x = dtl s (kn p0) (kn p1) ∧ MR (s) u) ∨ (jarK p0 p1 ≠ 0 ∧ MR s u))) (fun u => wMo D o (nI (jarK p0 p1)) u) 0 0 := by
  obtain ⟨N, T, A, B, to, pi, fe, pl, go, hi, mi, re, lo⟩ := s
  obtain ⟨fj, fs, fl, fn⟩ := m
  exact m_jar l D o th fj fs fl fn N T A B to pi fe pl go hi mi re lo p0 p1 hM hW hjp
theorem M_shelf (l : Launch) (D : va_G) (o : Nat → Nat) (th : Int32) (s : PS) (m : MG) (p0 p1 : Int32) (hM : MR s m) (hW : WF s) (hjp : jrs s ≤ plS s) : MU l yX4_shelf cX4_shelf 3 (some .int) 1 22 D [.ref (o 0), .int p0, .int p1] (wMo D o th m) (fun v (u : MG) => ∃ x : Int32, v = some (.int x) ∧ ((rowK s.1 s.2.1 p0 p1 = 0 ∧ x = rowV s.1 s.2.1 p0 p1 ∧ MR (s) u) ∨ (rowK s.1 s.2.1 p0 p1 ≠ 0 ∧ MR s u))) (fun u => wMo D o (nI (rowK s.1 s.2.1 p0 p1)) u) 0 0 := by
  obtain ⟨N, T, A, B, to, pi, fe, pl, go, hi, mi, re, lo⟩ := s
  obtain ⟨fj, fs, fl, fn⟩ := m
  exact m_shelf l D o th fj fs fl fn N T A B to pi fe pl go hi mi re lo p0 p1 hM hW hjp
theorem M_ghost (l : Launch) (D : va_G) (o : Nat → Nat) (th : Int32) (s : PS) (m : MG) (p0 p1 : Int32) (hM : MR s m) (hW : WF s) (hjp : jrs s ≤ plS s) : MU l yX4_ghost cX4_ghost 3 (some .int) 1 22 D [.ref (o 0), .int p0, .int p1] (wMo D o th m) (fun v (u : MG) => ∃ x : Int32, v = some (.int x) ∧ ((rowK s.2.2.1 s.2.2.2.1 p0 p1 = 0 ∧ x = rowV s.2.2.1 s.2.2.2.1 p0 p1 ∧ MR (s) u) ∨ (rowK s.2.2.1 s.2.2.2.1 p0 p1 ≠ 0 ∧ MR s u))) (fun u => wMo D o (nI (rowK s.2.2.1 s.2.2.2.1 p0 p1)) u) 0 0 := by
  obtain ⟨N, T, A, B, to, pi, fe, pl, go, hi, mi, re, lo⟩ := s
  obtain ⟨fj, fs, fl, fn⟩ := m
  exact m_ghost l D o th fj fs fl fn N T A B to pi fe pl go hi mi re lo p0 p1 hM hW hjp
theorem M_count (l : Launch) (D : va_G) (o : Nat → Nat) (th : Int32) (s : PS) (m : MG) (p : Int32) (hM : MR s m) (hW : WF s) (hjp : jrs s ≤ plS s) : MU l yX4_count cX4_count 2 (some .int) 4 86 D [.ref (o 0), .int p] (wMo D o th m) (fun v (u : MG) => ∃ x : Int32, v = some (.int x) ∧ ((countK p = 0 ∧ x = ct s (kn p) ∧ MR (s) u) ∨ (countK p ≠ 0 ∧ MR s u))) (fun u => wMo D o (nI (countK p)) u) 0 0 := by
  obtain ⟨N, T, A, B, to, pi, fe, pl, go, hi, mi, re, lo⟩ := s
  obtain ⟨fj, fs, fl, fn⟩ := m
  exact m_count l D o th fj fs fl fn N T A B to pi fe pl go hi mi re lo p hM hW hjp
theorem M_would (l : Launch) (D : va_G) (o : Nat → Nat) (th : Int32) (s : PS) (m : MG) (p : Int32) (hM : MR s m) (hW : WF s) (hjp : jrs s ≤ plS s) : MU l yX4_would cX4_would 2 (some .int) 4 87 D [.ref (o 0), .int p] (wMo D o th m) (fun v (u : MG) => ∃ x : Int32, v = some (.int x) ∧ ((wouldK p = 0 ∧ x = ocI (oc s (kn p)) ∧ MR (s) u) ∨ (wouldK p ≠ 0 ∧ MR s u))) (fun u => wMo D o (nI (wouldK p)) u) 0 0 := by
  obtain ⟨N, T, A, B, to, pi, fe, pl, go, hi, mi, re, lo⟩ := s
  obtain ⟨fj, fs, fl, fn⟩ := m
  exact m_would l D o th fj fs fl fn N T A B to pi fe pl go hi mi re lo p hM hW hjp
theorem M_trial (l : Launch) (D : va_G) (o : Nat → Nat) (th : Int32) (s : PS) (m : MG) (p0 p1 p2 : Int32) (hM : MR s m) (hW : WF s) (hjp : jrs s ≤ plS s) : MU l yX4_trial cX4_trial 6 (some .int) 7 176 D [.ref (o 0), .int p0, .int p1, .int p2] (wMo D o th m) (fun v (u : MG) => ∃ x : Int32, v = some (.int x) ∧ ((serK p0 p1 p2 = 0 ∧ x = serV s p0 p1 p2 ∧ MR (s) u) ∨ (serK p0 p1 p2 ≠ 0 ∧ MR s u))) (fun u => wMo D o (nI (serK p0 p1 p2)) u) 35 344 := by
  obtain ⟨N, T, A, B, to, pi, fe, pl, go, hi, mi, re, lo⟩ := s
  obtain ⟨fj, fs, fl, fn⟩ := m
  exact m_trial l D o th fj fs fl fn N T A B to pi fe pl go hi mi re lo p0 p1 p2 hM hW hjp
theorem M_advise (l : Launch) (D : va_G) (o : Nat → Nat) (th : Int32) (s : PS) (m : MG) (p0 p1 p2 : Int32) (hM : MR s m) (hW : WF s) (hjp : jrs s ≤ plS s) : MU l yX4_advise cX4_advise 9 (some .int) 7 176 D [.ref (o 0), .int p0, .int p1, .int p2] (wMo D o th m) (fun v (u : MG) => ∃ x : Int32, v = some (.int x) ∧ ((serK p0 p1 p2 = 0 ∧ x = advV s p0 p1 p2 ∧ MR (s) u) ∨ (serK p0 p1 p2 ≠ 0 ∧ MR s u))) (fun u => wMo D o (nI (serK p0 p1 p2)) u) 335 1544 := by
  obtain ⟨N, T, A, B, to, pi, fe, pl, go, hi, mi, re, lo⟩ := s
  obtain ⟨fj, fs, fl, fn⟩ := m
  exact m_advise l D o th fj fs fl fn N T A B to pi fe pl go hi mi re lo p0 p1 p2 hM hW hjp
theorem M_next (l : Launch) (D : va_G) (o : Nat → Nat) (th : Int32) (s : PS) (m : MG) (hM : MR s m) (hW : WF s) : MU l yX4_next cX4_next 3 (some .int) 5 128 D [.ref (o 0)] (wMo D o th m) (fun v (u : MG) => v = some (.int (nextV s)) ∧ MR s u) (fun u => wMo D o (nI 0) u) 5 224 := by
  obtain ⟨N, T, A, B, to, pi, fe, pl, go, hi, mi, re, lo⟩ := s
  obtain ⟨fj, fs, fl, fn⟩ := m
  exact m_next l D o th fj fs fl fn N T A B to pi fe pl go hi mi re lo hM hW
theorem M_mean (l : Launch) (D : va_G) (o : Nat → Nat) (th : Int32) (s : PS) (m : MG) (hM : MR s m) (hW : WF s) (hN : ∀ (x : Int32) (j : Nat), 1 ≤ j → j ≤ 12 → vf_n64 (FP.ddiv (FP.i2d x) (FP.i2d (nI j)))) : MU l yX4_mean cX4_mean 3 (some .double) 2 43 D [.ref (o 0)] (wMo D o th m) (fun v (_ : Unit) => v = some (.double (meanV s))) (fun _ => wMo D o (nI 0) m) 0 0 := by
  obtain ⟨N, T, A, B, to, pi, fe, pl, go, hi, mi, re, lo⟩ := s
  obtain ⟨fj, fs, fl, fn⟩ := m
  exact m_mean l D o th fj fs fl fn N T A B to pi fe pl go hi mi re lo hM hW hN
theorem M_digest (l : Launch) (D : va_G) (o : Nat → Nat) (th : Int32) (s : PS) (m : MG) (hM : MR s m) (hW : WF s) : MU l yX4_digest cX4_digest 7 (some .long) 4 86 D [.ref (o 0)] (wMo D o th m) (fun v (_ : Unit) => v = some (.long (digV s))) (fun _ => wMo D o (nI 0) m) 0 0 := by
  obtain ⟨N, T, A, B, to, pi, fe, pl, go, hi, mi, re, lo⟩ := s
  obtain ⟨fj, fs, fl, fn⟩ := m
  exact m_digest l D o th fj fs fl fn N T A B to pi fe pl go hi mi re lo hM hW
