/-! METHODS OF THE LAW: they return, call what may throw, and may read the script -/
/-- the script of L ints xs at bb, which nobody writes -/
def SCR (G : KX) (bb L : Nat) (xs : Nat → Int32) : Prop := va_X bb L xs (ks G) (ks G).heap ∧ bb < (ks G).heap.size ∧ ¬ kA G bb
def SPre (D : va_G) (w0 : va_W) (av : List Value) (bb L : Nat) (xs : Nat → Int32) (sz : Nat) : Array Value → State → Prop := fun a U => XPre D w0 av sz a U ∧ va_X bb L xs U U.heap ∧ bb < sz ∧ ¬ va_A w0 sz bb
def MS {S : Type} (l : Launch) (y : MethodName) (cc : ByteArray) (maxL : Nat) (ret : Option FieldType) (fr lo : Nat) (D : va_G) (bb L : Nat) (xs : Nat → Int32) (av : List Value) (w0 : va_W) (post : Option Value → S → Prop) (w1 : S → va_W) (mc ms : Nat) : Prop :=
  ∀ sz : Nat, Met l y (.code y cc maxL ret :: wsL_law) ({ frames := fr, cells := mc, slots := ms, locals := lo } : Room) (SPre D w0 av bb L xs sz) (MPost D w0 sz post w1) mc ms (va_A w0 sz)
section MSs
variable {S : Type} {l : Launch} {y : MethodName} {cc : ByteArray} {maxL : Nat} {ret : Option FieldType} {fr lo : Nat} {D : va_G} {av : List Value} {w0 : va_W} {post : Option Value → S → Prop} {w1 : S → va_W} {mc ms bb L : Nat} {xs : Nat → Int32}
theorem SPre.blind {sz : Nat} : FrameBlind (SPre D w0 av bb L xs sz) := fun a U x y q => ⟨XPre.blind a U x y q.1, va_X.moved (Vm.Alike.refl _) q.2.1, q.2.2⟩
theorem MS.enter (hfl : l.stackTraces = false) (hy : plainName y.cls = true) (lv0 : List (Nat × Value)) (hlv : lv_args 0 av = lv0) (hle : (lg_sl av).length ≤ maxL)
    (h : ∀ G : KX, CX G D cc y.cls maxL → EX G D y w0 post w1 ret mc ms → XF l G → SCR G bb L xs → KJ l G D ({ frames := fr, cells := mc, slots := ms, locals := lo } : Room) maxL 0 0 w0 lv0 0 []) : MS l y cc maxL ret fr lo D bb L xs av w0 post w1 mc ms := by
  intro sz
  refine Met.ofW (cc := cc) (maxL := maxL) (ret := ret) hy rfl ?_
  intro p e s m args below meth c s₁ B hml hv
  obtain ⟨⟨rfl, ⟨hsz, hP, hK, hD0⟩, hXT, hZZ⟩, hsc1, hsc2, hsc3⟩ := hv
  subst hsz
  have hts := atoms_spec (ws := .code y cc maxL ret :: wsL_law) B.pre
  have hts : ∀ w ∈ wsL_law, w.before av.toArray s = true := fun w h => hts w (List.mem_cons_of_mem _ h)
  have hown : s.vm.findClass y.cls = some m.cls := findClass_of_methodNamed B.named
  have hl := lv_entry av (n := maxL) hle
  rw [hlv] at hl
  rw [lg_entry_eq]
  generalize (lg_sl av ++ List.replicate (maxL - (lg_sl av).length) Slot.unset).toArray = ls at hl ⊢
  exact h (p, e, s, m, av.toArray, below, meth, c, _, va_A w0 s.heap.size) ⟨B.exec, B.bytes, hml, hown, hts, hK, fun q hq => Or.inr hq⟩ ⟨rfl, rfl, B.returns, B.notSynchronized, (name_of_methodNamed B.named B.method).1⟩ ⟨hfl, hXT, hZZ⟩ ⟨hsc1, hsc2, hsc3⟩ s.heap [] ls hP hD0.self va_S.rf hl
end MSs
section MSc
variable {S : Type} {l : Launch} {G : KX} {D : va_G} {R : Room} {cc : ByteArray} {own : String} {nL ce sl : Nat} {ws : va_W} {lv : List (Nat × Value)} {st : List Value}
variable {y : MethodName} {bytes : ByteArray} {maxL : Nat} {ret : Option FieldType} {fr lo : Nat} {w0 : va_W} {post : Option Value → S → Prop} {w1 : S → va_W} {px : String → Prop} {mc ms n ix bb L : Nat} {xs : Nat → Int32} {As : List Value} {hh : List (Nat × Nat × Nat × Nat)}
theorem s_pre (hC : CX G D cc own nL) (hX : XF l G) (hZ : SCR G bb L xs) {av : List Value} (is : List Nat) (hnd : va_nd is = true) (his : is.map (fun i => ws[i]?) = w0.map some) {H : Heap} {locs : List Loc} (hP : va_P D vwCl ws H) (hD : va_D (kA G) ws) (hS : va_S (kA G) (ks G).heap H locs) : ∀ U : State, U.heap = H → (ks G).WarmedH U.vm → SPre D w0 av bb L xs H.size av.toArray U := by
  intro U hU hW
  have hF : ∀ q, va_A w0 H.size q → kA G q := va_free hD hS hC.nw is his
  refine ⟨xk_pre hC hX is hnd his hP hD hS U hU hW, ?_, Nat.lt_of_lt_of_le hZ.2.1 hS.1, fun z => hZ.2.2 (hF _ z)⟩
  rw [hU]
  exact (hZ.1.kept (hS.2.1 bb hZ.2.1 hZ.2.2)).moved hW.alike
theorem fs_callS (hC : CX G D cc own nL) (hX : XF l G) (hZ : SCR G bb L xs) (pc : Nat) (P : va_W) (ws' : S → va_W) (hM : MS l y bytes maxL ret fr lo D bb L xs As w0 post w1 mc ms) (cw : CWS own ix y bytes maxL ret n) (hdg : decode cc pc = .ok (.invokestatic ix, 3))
    (hR : fr + 1 ≤ R.frames ∧ 8 + (maxL + 11) + lo ≤ R.locals ∧ ce + mc ≤ R.cells ∧ sl + ms ≤ R.slots) (hn : As.length = n) (hcat : (st.map fun v => v.category).sum ≤ 8) (hW : ws = P ++ w0 ++ []) (hL : ∀ (v : Option Value) (u : S), post v u → w0.length ≤ (w1 u).length) (hws : ∀ u, P ++ w1 u ++ [] = ws' u)
    (st0 : List Value) (hst : st0 = As.reverse ++ st) (kk : ∀ (v : Option Value) (u : S), post v u → KJ l G D R nL (ce + mc) (sl + ms) (ws' u) lv (pc + 3) (v.toList ++ st)) : KJ l G D R nL ce sl ws lv pc st0 := by
  subst hst
  intro H locs ls hP hD hS hl
  have hcw : CallB R (ks G) (ka G) own ix y bytes maxL ret (.code y bytes maxL ret :: wsL_law) ({ frames := fr, cells := mc, slots := ms, locals := lo } : Room) mc ms n ∧ (Cond.static y).before (ka G) (ks G) = true := ⟨callB_of n hC.wd (gAll cw.2.2.2.1) rfl rfl rfl (hC.wd _ cw.2.2.1) (hC.wd _ cw.1) cw.2.2.2.2 ⟨hR.1, hR.2.1⟩, hC.wd _ cw.2.1⟩
  have hnd := nd_range w0.length P.length
  have his : (List.range' P.length w0.length).map (fun i => ws[i]?) = w0.map some := by rw [hW]; exact map_mid w0 P []
  exact kp_callK hC pc (List.range' P.length w0.length) hnd his ws' (fun v u hp => by rw [List.length_range']; exact hL v u hp) (fun v u hp => by rw [hW, putL_end _ _ _ (hL v u hp)]; exact hws u) hP hD hS hl (va_runS (As := As) (rest := st) hC.fix (hM H.size) hcw ⟨SPre.blind, fun U hU hW => s_pre hC hX hZ _ hnd his hP hD hS U hU hW⟩ rfl hn hl.1 rfl (lv_room hcat) hdg hR.2.2) kk
theorem fs_callV (hC : CX G D cc own nL) (hX : XF l G) (hZ : SCR G bb L xs) (pc : Nat) {b ci : Nat} {q : vw_C} {fs : List Value} (q0 : Nat) (is : List Nat) (ws' : S → va_W) (hM : MS l y bytes maxL ret fr lo D bb L xs (.ref b :: As) w0 post w1 mc ms) (cw : CWV own ix y bytes maxL ret n) (hdg : decode cc pc = .ok (.invokevirtual ix, 3))
    (hR : fr + 1 ≤ R.frames ∧ 8 + (maxL + 11) + lo ≤ R.locals ∧ ce + mc ≤ R.cells ∧ sl + ms ≤ R.slots) (hn : As.length = n) (hcat : (st.map fun v => v.category).sum ≤ 8) (hq : ws[q0]? = some (b, .inr (ci, fs))) (hci : vwCl[ci]? = some q) (hqn : q.1 = y.cls) (hW : ws = w0 ++ []) (hL : ∀ (v : Option Value) (u : S), post v u → w0.length ≤ (w1 u).length) (hws : ∀ u, w1 u ++ [] = ws' u)
    (st0 : List Value) (hst : st0 = As.reverse ++ .ref b :: st) (kk : ∀ (v : Option Value) (u : S), post v u → KJ l G D R nL (ce + mc) (sl + ms) (ws' u) lv (pc + 3) (v.toList ++ st)) : KJ l G D R nL ce sl ws lv pc st0 := by
  subst hst
  intro H locs ls hP hD hS hl
  have hcw : CallW R (ks G) (ka G) own y.cls ix y bytes maxL ret (.code y bytes maxL ret :: wsL_law) ({ frames := fr, cells := mc, slots := ms, locals := lo } : Room) mc ms n := ⟨callB_of n hC.wd (gAll cw.2.2.2.2.1) rfl rfl rfl (hC.wd _ cw.2.2.2.1) (hC.wd _ cw.1) cw.2.2.2.2.2 ⟨hR.1, hR.2.1⟩, hC.wd _ cw.2.1, hC.wd _ cw.2.2.1⟩
  have hnd := nd_range w0.length 0
  have his : (List.range' 0 w0.length).map (fun i => ws[i]?) = w0.map some := by rw [hW]; exact map_mid w0 [] []
  exact kp_callK hC pc (List.range' 0 w0.length) hnd his ws' (fun v u hp => by rw [List.length_range']; exact hL v u hp) (fun v u hp => by rw [hW]; exact (putL_end w0 (w1 u) [] (hL v u hp)).trans (hws u)) hP hD hS hl (va_runV (As := As) (rest := st) hC.fix (hM H.size) hcw ⟨SPre.blind, by have h := va_recv hC.kk hP hci hq; rw [hqn] at h; exact h, fun U hU hW => s_pre hC hX hZ _ hnd his hP hD hS U hU hW⟩ rfl hn hl.1 rfl (lv_room hcat) hdg hR.2.2) kk
theorem hf_callS (hC : CX G D cc own nL) (hX : XF l G) (pc : Nat) (P Q : va_W) (ws' : S → va_W) (hM : MH l y bytes maxL ret hh fr lo D As w0 post w1 mc ms) (hw1 : Cond.methodLink own ix y ∈ wsL_law) (hw2 : Cond.static y ∈ wsL_law) (hw3 : Cond.initialized y.cls ∈ wsL_law) (hw4 : Cond.codeWith y bytes maxL ret hh ∈ wsL_law) (hd : y.cls ≠ "java/lang/invoke/MethodHandle" ∧ y.cls ≠ "java/lang/invoke/VarHandle" ∧ (parseMethodDescriptor y.desc).map (fun d => d.parameters.length) = some n) (hdg : decode cc pc = .ok (.invokestatic ix, 3))
    (hR : fr + 1 ≤ R.frames ∧ 8 + (maxL + 11) + lo ≤ R.locals ∧ ce + mc ≤ R.cells ∧ sl + ms ≤ R.slots) (hn : As.length = n) (hcat : (st.map fun v => v.category).sum ≤ 8) (hW : ws = P ++ w0 ++ Q) (hL : ∀ u, (w1 u).length = w0.length) (hws : ∀ u, P ++ w1 u ++ Q = ws' u)
    (st0 : List Value) (hst : st0 = As.reverse ++ st) (kk : ∀ (v : Option Value) (u : S), post v u → KJ l G D R nL (ce + mc) (sl + ms) (ws' u) lv (pc + 3) (v.toList ++ st)) : KJ l G D R nL ce sl ws lv pc st0 :=
  h_callS hC hX pc (List.range' P.length w0.length) ws' hM hw1 hw2 hw3 hw4 hd hdg hR hn hcat (nd_range _ _) (by rw [hW]; exact map_mid w0 P Q) (fun u => by rw [List.length_range', hL u]; exact Nat.le_refl _) (fun u => by rw [hW, putL_mid _ _ _ _ (hL u)]; exact hws u) st0 hst kk
theorem k_sld {i : Nat} (hC : CX G D cc own nL) (hZ : SCR G bb L xs) (pc : Nat) (hdg : decode cc pc = .ok (.iaload, 1)) (hi : i < L) (hL : L < 2147483648) (kk : KJ l G D R nL ce sl ws lv (pc + 1) (.int (xs i) :: st)) : KJ l G D R nL ce sl ws lv pc (.int (nI i) :: .ref bb :: st) := fun H locs ls hP hD hS hl => va_sld hC.ex hC.cd hZ.1 hZ.2.1 hZ.2.2 hS (vp_in_nI hi hL) hdg (by rw [nI_clamp (Nat.lt_trans hi hL)]; exact kk H locs ls hP hD hS hl)
theorem k_slen (hC : CX G D cc own nL) (hZ : SCR G bb L xs) (pc : Nat) (hdg : decode cc pc = .ok (.arraylength, 1)) (kk : KJ l G D R nL ce sl ws lv (pc + 1) (.int (nI L) :: st)) : KJ l G D R nL ce sl ws lv pc (.ref bb :: st) := fun H locs ls hP hD hS hl => va_slen hC.ex hC.cd hZ.1 hZ.2.1 hZ.2.2 hS hdg (kk H locs ls hP hD hS hl)
end MSc
/-! THE LAW'S WORLD -/
theorem no_x {K : Nat} {E e1 e2 : String} (h : K = 0) : ¬ ((K = 1 ∧ E = e1) ∨ (K = 2 ∧ E = e2)) := fun z => z.elim (fun y => absurd (h.symm.trans y.1) (by decide)) (fun y => absurd (h.symm.trans y.1) (by decide))
theorem kK_i0 {c1 c2 : Prop} (h : kK c1 c2 = 0) : ¬ c1 ∧ ¬ c2 := by
  unfold kK at h
  split at h
  · exact absurd h (by decide)
  · rename_i h1
    split at h
    · exact absurd h (by decide)
    · rename_i h2
      exact ⟨h1, h2⟩
theorem kK_i1 {c1 c2 : Prop} (h : kK c1 c2 = 1) : c1 := by
  unfold kK at h
  split at h
  · rename_i h1
    exact h1
  · split at h
    · exact absurd h (by decide)
    · exact absurd h (by decide)
theorem kK_i2 {c1 c2 : Prop} (h : kK c1 c2 = 2) : c2 := by
  unfold kK at h
  split at h
  · exact absurd h (by decide)
  · split at h
    · rename_i h2
      exact h2
    · exact absurd h (by decide)
def OKs (s : PS) (g : PG) (x : SX) : Prop := SR s g ∧ WF s ∧ SJ s x ∧ IJ s
def xA (x : SX) : Nat → Nat := x.2.2.2.2.2.2.2.2.2.2.2.2
def toS (s : PS) (k : Nat) : Nat := s.2.2.2.2.1 k
theorem jm {D : va_G} {m p r : Nat} {s : PS} {x : SX} (hJ : SJ s x) {k : Nat} (hk : inn s k) : (xA x k, .inr (4, [.int (nI k), .int (nI (toS s k)), .int (nI (piS s k)), .int (feS s k)])) ∈ wSm D m p r s x := by
  obtain ⟨N, T, A, B, to, pi, fe, pl, go, hi, mi, re, lo⟩ := s
  obtain ⟨n0, n1, l0, l1, hs, hl, f0, f1, g0, g1, L, f, adr⟩ := x
  obtain ⟨-, -, -, -, -, -, -, -, jp⟩ := hJ
  exact List.mem_append_right _ (pl_mem (jp k hk).1 (jp k hk).2)
/-- the pool with another number of pins -/
def xPin (s : PS) (x : SX) (k y : Nat) : SX := match x with
  | (n0, n1, l0, l1, hs, hl, f0, f1, g0, g1, L, f, adr) => (n0, n1, l0, l1, hs, hl, f0, f1, g0, g1, L, va_up f (adr k) (.inr (4, [.int (nI k), .int (nI (toS s k)), .int (nI y), .int (feS s k)])), adr)
theorem xPin_J {s : PS} {x : SX} (hW : WF s) (hJ : SJ s x) {k : Nat} (hk : inn s k) (y : Nat) : SJ (upPi s k y) (xPin s x k y) := by
  obtain ⟨N, T, A, B, to, pi, fe, pl, go, hi, mi, re, lo⟩ := s
  obtain ⟨n0, n1, l0, l1, hs, hl, f0, f1, g0, g1, L, f, adr⟩ := x
  obtain ⟨h0, h1, h2, h3, h4, h5, h6, h7, jp⟩ := hJ
  exact ⟨h0, h1, h2, h3, h4, h5, h6, h7, jp.putP hW.1 hW.2.1 hk⟩
theorem q_pins {l : Launch} {G : KX} {D : va_G} {R : Room} {cc : ByteArray} {own : String} {nL ce sl : Nat} {ws : va_W} {lv : List (Nat × Value)} {st : List Value} {ix m p r k y : Nat} {s : PS} {x : SX} (hC : CX G D cc own nL) (pc : Nat) (P : va_W) (ws' : va_W) (hW : WF s) (hJ : SJ s x) (hk : inn s k) (hdg : decode cc pc = .ok (.putfield ix, 3)) (hw : Cond.fieldLink own ix (TX4 2).1 (TX4 2).2.1 (TX4 2).2.2.1 ∈ wsL_law) (hX : ws = P ++ wSm D m p r s x) (hws : P ++ wSm D m p r (upPi s k y) (xPin s x k y) = ws')
    (kk : SJ (upPi s k y) (xPin s x k y) → KJ l G D R nL ce sl ws' lv (pc + 3) st) : KJ l G D R nL ce sl ws lv pc (.int (nI y) :: .ref (xA x k) :: st) := by
  have h9 := xPin_J hW hJ hk y
  subst hX
  obtain ⟨N, T, A, B, to, pi, fe, pl, go, hi, mi, re, lo⟩ := s
  obtain ⟨n0, n1, l0, l1, hs, hl, f0, f1, g0, g1, L, f, adr⟩ := x
  have jp := (id hJ).2.2.2.2.2.2.2.2
  refine p_putf (L := L) (f := f) (a := adr k) (fs := [.int (nI k), .int (nI (to k)), .int (nI (pi k)), .int (fe k)]) hC pc (P ++ [(m, .inr (5, [.int (nI pl), .int (nI go), .int hi, .int mi, .int re, .int lo, .ref p, .ref r])), (p, .inl (D.1 23, 2, qv hs)), (r, .inl (D.1 24, 2, qv hl)), (n0, .inl (D.1 22, N.length, qv f0)), (n1, .inl (D.1 22, T.length, qv f1)), (l0, .inl (D.1 20, A.length, .inl g0)), (l1, .inl (D.1 20, B.length, .inl g1))]) 2 ws' hdg (by rw [List.append_assoc]; rfl) (jp k hk).1 (jp k hk).2 (by decide) hw rfl rfl rfl (Nat.le_of_ble_eq_true rfl) ?_ (kk h9)
  rw [← hws, List.append_assoc]
  rfl
theorem goTo_J {s : PS} {x : SX} (hJ : SJ s x) (g : Nat) : SJ (goTo s g) x := by
  obtain ⟨N, T, A, B, to, pi, fe, pl, go, hi, mi, re, lo⟩ := s
  obtain ⟨n0, n1, l0, l1, hs, hl, f0, f1, g0, g1, L, f, adr⟩ := x
  exact hJ
