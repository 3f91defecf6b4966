/-! METHODS THAT THROW, AND METHODS THAT CATCH -/
abbrev eS : String := "java/lang/IllegalStateException"
abbrev eB : String := "java/lang/IndexOutOfBoundsException"
abbrev eA : String := "java/lang/IllegalArgumentException"
abbrev eNs : List String := ["java/lang/RuntimeException", "java/lang/Exception"]
abbrev eNG : List Cond := [.declares (Bundle.initS "java/lang/RuntimeException"), .declares (Bundle.initS "java/lang/Exception"), .declares (Bundle.initS Bundle.tN), .castable eS eS, .castable eB eB, .castable eA eA]
theorem ng_S : ∀ w ∈ (vx_atS RX3 31 eS eNs).filter (fun w => !goodWord w), w ∈ eNG := by decide +kernel
theorem ng_B : ∀ w ∈ (vx_atS RX3 94 eB eNs).filter (fun w => !goodWord w), w ∈ eNG := by decide +kernel
theorem ng_A : ∀ w ∈ (vx_atS RX3 71 eA eNs).filter (fun w => !goodWord w), w ∈ eNG := by decide +kernel
theorem go_S : ∀ w ∈ (vx_atS RX3 31 eS eNs).filter goodWord, w ∈ wsL_law := fun _ h => List.mem_append_left _ (List.mem_append_left _ (List.mem_append_right _ h))
theorem go_B : ∀ w ∈ (vx_atS RX3 94 eB eNs).filter goodWord, w ∈ wsL_law := fun _ h => List.mem_append_left _ (List.mem_append_right _ h)
theorem go_A : ∀ w ∈ (vx_atS RX3 71 eA eNs).filter goodWord, w ∈ wsL_law := fun _ h => List.mem_append_right _ h
theorem ot_S : ∀ w ∈ Cond.classLink RX3 27 eS :: Cond.initialized eS :: vx_atS RX3 31 eS eNs, vx_ot w = true := fun w h => List.all_eq_true.mp (show (Cond.classLink RX3 27 eS :: Cond.initialized eS :: vx_atS RX3 31 eS eNs).all vx_ot = true by decide +kernel) w h
theorem ot_B : ∀ w ∈ Cond.classLink RX3 90 eB :: Cond.initialized eB :: vx_atS RX3 94 eB eNs, vx_ot w = true := fun w h => List.all_eq_true.mp (show (Cond.classLink RX3 90 eB :: Cond.initialized eB :: vx_atS RX3 94 eB eNs).all vx_ot = true by decide +kernel) w h
theorem ot_A : ∀ w ∈ Cond.classLink RX3 67 eA :: Cond.initialized eA :: vx_atS RX3 71 eA eNs, vx_ot w = true := fun w h => List.all_eq_true.mp (show (Cond.classLink RX3 67 eA :: Cond.initialized eA :: vx_atS RX3 71 eA eNs).all vx_ot = true by decide +kernel) w h
abbrev eTx : List (Nat × String) := [(29, "all places are taken by pinned jars"), (54, "the jar has as many pins as it can have"), (60, "the jar has no pin"), (62, "the jar is pinned"), (69, "there are 2 to 12 places"), (76, "more jars are pinned"), (85, "the goal is 0 to as many as there are places"), (92, "what is told of a jar is 0 to 4"), (112, "what is counted is 0 to 10"), (152, "a kind is 0 to 39"), (154, "the step is 0 to 39"), (156, "1 to 30 kinds are fetched"), (158, "a shelf is 0 or 1"), (163, "there is no such place"), (169, "there is no jar of the kind")]
/-- what the tables say beside the words, for throws and handlers -/
def XT (U : State) : Prop := (va_Nw (.declares (Bundle.initS "java/lang/RuntimeException")) U ∧ va_Nw (.declares (Bundle.initS "java/lang/Exception")) U ∧ va_Nw (.declares (Bundle.initS Bundle.tN)) U ∧ va_Nw (.castable eS eS) U ∧ va_Nw (.castable eB eB) U ∧ va_Nw (.castable eA eA) U) ∧ (∀ q ∈ eTx, ∃ sa : Nat, vk_R RX3 q.1 q.2 sa U)
theorem XT.warm {s U : State} (hW : s.WarmedH U.vm) (h : XT s) : XT U := ⟨⟨va_Nw.warmD hW h.1.1, va_Nw.warmD hW h.1.2.1, va_Nw.warmD hW h.1.2.2.1, va_Nw.warmC hW h.1.2.2.2.1, va_Nw.warmC hW h.1.2.2.2.2.1, va_Nw.warmC hW h.1.2.2.2.2.2⟩, fun q hq => (h.2 q hq).elim (fun sa z => ⟨sa, vk_R.warm hW z⟩)⟩
theorem XT.same {u U : State} (e : u.vm = U.vm) (h : XT u) : XT U := ⟨⟨va_Nw.same rfl e h.1.1, va_Nw.same rfl e h.1.2.1, va_Nw.same rfl e h.1.2.2.1, va_Nw.same rfl e h.1.2.2.2.1, va_Nw.same rfl e h.1.2.2.2.2.1, va_Nw.same rfl e h.1.2.2.2.2.2⟩, fun q hq => (h.2 q hq).elim (fun sa z => ⟨sa, vk_R.same e.symm z⟩)⟩
theorem XT.ng {U : State} (h : XT U) (A : Array Value) : ∀ w ∈ eNG, w.before A U = true := by
  intro w hw
  simp only [eNG, List.mem_cons, List.not_mem_nil, or_false] at hw
  rcases hw with rfl | rfl | rfl | rfl | rfl | rfl
  · exact va_Nw.use rfl h.1.1
  · exact va_Nw.use rfl h.1.2.1
  · exact va_Nw.use rfl h.1.2.2.1
  · exact va_Nw.use rfl h.1.2.2.2.1
  · exact va_Nw.use rfl h.1.2.2.2.2.1
  · exact va_Nw.use rfl h.1.2.2.2.2.2
/-- the two statics that a Throwable reads -/
def ZZ (A : Nat → Prop) (U : State) (H : Heap) : Prop := vx_Zq Bundle.tN "UNASSIGNED_STACK" Bundle.steD A U H ∧ vx_Zq Bundle.tN "SUPPRESSED_SENTINEL" Bundle.listD A U H
def XPre (D : va_G) (w0 : va_W) (av : List Value) (sz : Nat) : Array Value → State → Prop := va_Pc av (fun U => (U.heap.size = sz ∧ va_P D vwCl w0 U.heap ∧ KT D U ∧ va_D (fun _ => True) w0) ∧ XT U ∧ ZZ (va_A w0 sz) U U.heap)
def XC (D : va_G) (w0 : va_W) (sz : Nat) (px : String → Prop) : String → State → State → Prop := fun E st t => px E ∧ va_P D vwCl w0 t.heap ∧ va_F (va_A w0 sz) st t
def MX {S : Type} (l : Launch) (y : MethodName) (cc : ByteArray) (maxL : Nat) (ret : Option FieldType) (fr lo : Nat) (D : va_G) (av : List Value) (w0 : va_W) (post : Option Value → S → Prop) (w1 : S → va_W) (px : String → Prop) (mc ms : Nat) : Prop :=
  ∀ sz : Nat, vx_Met l y (.code y cc maxL ret :: wsL_law) ({ frames := fr, cells := mc, slots := ms, locals := lo } : Room) (XPre D w0 av sz) (MPost D w0 sz post w1) (XC D w0 sz px) mc ms (va_A w0 sz)
def MH {S : Type} (l : Launch) (y : MethodName) (cc : ByteArray) (maxL : Nat) (ret : Option FieldType) (hh : List (Nat × Nat × Nat × Nat)) (fr lo : Nat) (D : va_G) (av : List Value) (w0 : va_W) (post : Option Value → S → Prop) (w1 : S → va_W) (mc ms : Nat) : Prop :=
  ∀ sz : Nat, Met l y (.codeWith y cc maxL ret hh :: wsL_law) ({ frames := fr, cells := mc, slots := ms, locals := lo } : Room) (XPre D w0 av sz) (MPost D w0 sz post w1) mc ms (va_A w0 sz)
def XF (l : Launch) (G : KX) : Prop := l.stackTraces = false ∧ XT (ks G) ∧ ZZ (kA G) (ks G) (ks G).heap
def EXX {S : Type} (G : KX) (D : va_G) (y : MethodName) (w0 : va_W) (post : Option Value → S → Prop) (w1 : S → va_W) (px : String → Prop) (ret : Option FieldType) (mc ms : Nat) : Prop :=
  kA G = va_A w0 (ks G).heap.size ∧ kQ G = vx_MQ (kb G) (MPost D w0 (ks G).heap.size post w1) (XC D w0 (ks G).heap.size px) (ka G) (ks G) mc ms (va_A w0 (ks G).heap.size) ∧ (kme G).sig.returnType = ret ∧ (kme G).locks = false ∧ ∀ x ∈ (kc G).exceptionTable.toList, False
/-- a method with handlers that returns -/
theorem Met.ofWH {l : Launch} {y : MethodName} {ws ws' : List Cond} {rm : Room} {Pc : Array Value → State → Prop} {Qc : Array Value → State → Outcome → State → Prop} {mc ms : Nat} {free : Addr → Prop} {cc : ByteArray} {maxL : Nat} {ret : Option FieldType} {hh : List (Nat × Nat × Nat × Nat)}
    (hy : plainName y.cls = true) (hw : ws = Cond.codeWith y cc maxL ret hh :: ws')
    (body : ∀ p e s m args below meth c s₁, BodyLoose p l y (headSpec ws rm) cc maxL ret e s m args below meth c s₁ → c.maxLocals = maxL → Pc args s →
      W p l e (headSpec ws rm).room s m args below meth c s.heap [] 0 0 (MQ below Qc args s mc ms free) (entryFrame m args maxL)) : Met l y ws rm Pc Qc mc ms free := by
  refine MetFree.of_bodyS (code := cc) (maxLocals := maxL) (ret := ret) hy ?_ ?_
  · intro args s m h hn
    obtain ⟨m9, meth, c, hn9, h1, h2, h3, h4, -, h5, h6, -⟩ := Cond.codeWith_spec (atoms_spec (ws := ws) h _ (by rw [hw]; exact List.mem_cons_self))
    cases hn.symm.trans hn9
    exact ⟨meth, c, h1, h2, h3, h4, h5, h6⟩
  · intro p e s m args below meth c s₁ B hml hP _
    have hh0 : s₁.heap = s.heap := by rw [B.state]; rfl
    obtain ⟨t, a1, o, b1, b2, b3⟩ := body p e s m args below meth c s₁ B hml hP s₁ hh0 (Stand.of_body B)
    exact ⟨t, o, a1, b1, b2, ⟨b3.1, b3.2⟩⟩
section MXs
variable {S : Type} {l : Launch} {y : MethodName} {cc : ByteArray} {maxL : Nat} {ret : Option FieldType} {fr lo : Nat} {D : va_G} {av : List Value} {w0 : va_W} {post : Option Value → S → Prop} {w1 : S → va_W} {px : String → Prop} {mc ms : Nat} {hh : List (Nat × Nat × Nat × Nat)}
theorem ZZ.same {A : Nat → Prop} {u U : State} {H : Heap} (e : u.vm = U.vm) (h : ZZ A u H) : ZZ A U H := ⟨vx_Zq.moved (by rw [e]; exact Vm.Alike.refl U.vm) h.1, vx_Zq.moved (by rw [e]; exact Vm.Alike.refl U.vm) h.2⟩
theorem XPre.blind {sz : Nat} : FrameBlind (XPre D w0 av sz) := fun _ U _ _ q => ⟨q.1, ⟨q.2.1.1, q.2.1.2.1, KT.same (u := U) rfl q.2.1.2.2.1, q.2.1.2.2.2⟩, XT.same (u := U) rfl q.2.2.1, ZZ.same (u := U) rfl q.2.2.2⟩
theorem MX.enter (hfl : l.stackTraces = false) (hy : plainName y.cls = true) (lv0 : List (Nat × Value)) (hlv : lv_args 0 av = lv0) (hle : (lg_sl av).length ≤ maxL)
    (h : ∀ G : KX, CX G D cc y.cls maxL → EXX G D y w0 post w1 px ret mc ms → XF l G → KJ l G D ({ frames := fr, cells := mc, slots := ms, locals := lo } : Room) maxL 0 0 w0 lv0 0 []) : MX l y cc maxL ret fr lo D av w0 post w1 px mc ms := by
  intro sz
  refine vx_ofW (cc := cc) (maxL := maxL) (ret := ret) hy rfl ?_
  intro p e s m args below meth c s₁ B hml htab hv
  obtain ⟨rfl, ⟨hsz, hP, hK, hD0⟩, hXT, hZZ⟩ := hv
  subst hsz
  have hts := atoms_spec (ws := .code y cc maxL ret :: wsL_law) B.pre
  have hts : ∀ w ∈ wsL_law, w.before av.toArray s = true := fun w h => hts w (List.mem_cons_of_mem _ h)
  have hown : s.vm.findClass y.cls = some m.cls := findClass_of_methodNamed B.named
  have hl := lv_entry av (n := maxL) hle
  rw [hlv] at hl
  rw [lg_entry_eq]
  generalize (lg_sl av ++ List.replicate (maxL - (lg_sl av).length) Slot.unset).toArray = ls at hl ⊢
  exact h (p, e, s, m, av.toArray, below, meth, c, _, va_A w0 s.heap.size) ⟨B.exec, B.bytes, hml, hown, hts, hK, fun q hq => Or.inr hq⟩ ⟨rfl, rfl, B.returns, B.notSynchronized, htab⟩ ⟨hfl, hXT, hZZ⟩ s.heap [] ls hP hD0.self va_S.rf hl
theorem MH.enter (hfl : l.stackTraces = false) (hy : plainName y.cls = true) (lv0 : List (Nat × Value)) (hlv : lv_args 0 av = lv0) (hle : (lg_sl av).length ≤ maxL)
    (h : ∀ G : KX, CX G D cc y.cls maxL → EX G D y w0 post w1 ret mc ms → XF l G → (kc G).exceptionTable.toList = tableOf hh → KJ l G D ({ frames := fr, cells := mc, slots := ms, locals := lo } : Room) maxL 0 0 w0 lv0 0 []) : MH l y cc maxL ret hh fr lo D av w0 post w1 mc ms := by
  intro sz
  refine Met.ofWH (cc := cc) (maxL := maxL) (ret := ret) hy rfl ?_
  intro p e s m args below meth c s₁ B hml hv
  obtain ⟨rfl, ⟨hsz, hP, hK, hD0⟩, hXT, hZZ⟩ := hv
  subst hsz
  have hts0 := atoms_spec (ws := .codeWith y cc maxL ret hh :: wsL_law) B.pre
  have hts : ∀ w ∈ wsL_law, w.before av.toArray s = true := fun w h => hts0 w (List.mem_cons_of_mem _ h)
  have htab := vx_table (x := y) B (hts0 _ List.mem_cons_self)
  have hown : s.vm.findClass y.cls = some m.cls := findClass_of_methodNamed B.named
  have hl := lv_entry av (n := maxL) hle
  rw [hlv] at hl
  rw [lg_entry_eq]
  generalize (lg_sl av ++ List.replicate (maxL - (lg_sl av).length) Slot.unset).toArray = ls at hl ⊢
  exact h (p, e, s, m, av.toArray, below, meth, c, _, va_A w0 s.heap.size) ⟨B.exec, B.bytes, hml, hown, hts, hK, fun q hq => Or.inr hq⟩ ⟨rfl, rfl, B.returns, B.notSynchronized, (name_of_methodNamed B.named B.method).1⟩ ⟨hfl, hXT, hZZ⟩ htab s.heap [] ls hP hD0.self va_S.rf hl
variable {G : KX} {R : Room} {own : String} {nL ce sl : Nat} {ws : va_W} {lv : List (Nat × Value)} {st : List Value}
theorem EXX.end_ (hE : EXX G D y w0 post w1 px ret mc ms) {v : Option Value} {u : S} (hp : post v u) {H : Heap} {locs : List Loc} (hP : va_P D vwCl ws H) (hD : va_D (kA G) ws) (hS : va_S (kA G) (ks G).heap H locs) (hw : w1 u = ws) : ∀ t : State, t.heap = H → (ks G).WarmedH t.vm → MPost D w0 (ks G).heap.size post w1 (ka G) (ks G) (.returned v) t := by
  intro t ht _
  have hA := hE.1
  subst hw
  refine ⟨⟨v, u, rfl, hp, by rw [ht]; exact hP, by rw [← hA]; exact hD⟩, by rw [← hA]; exact hS.F ht⟩
theorem EXX.lc (hE : EXX G D y w0 post w1 px ret mc ms) {H : Heap} {locs : List Loc} (hS : va_S (kA G) (ks G).heap H locs) : ∀ q ∈ locs, va_A w0 (ks G).heap.size q.base := by
  rw [← hE.1]; exact hS.2.2
theorem x_iret {ty : FieldType} (hC : CX G D cc own nL) (hE : EXX G D y w0 post w1 px (some ty) mc ms) (pc : Nat) {v : Int32} (u : S) (hdg : decode cc pc = .ok (.ireturn, 1)) (hn : narrow ty (.int v) = .int v) (hp : post (some (.int v)) u) (hw : w1 u = ws) (hf : ce ≤ mc ∧ sl ≤ ms) : KJ l G D R nL ce sl ws lv pc [.int v] := fun H locs ls hP hD hS hl => by
  rw [hE.2.1]
  exact vx_ret (W.widen hf.1 hf.2 (W.zret hC.ex hC.cd hE.2.2.1 hn (hE.end_ hp hP hD hS hw) (hE.lc hS) hdg hE.2.2.2.1))
theorem x_vret (hC : CX G D cc own nL) (hE : EXX G D y w0 post w1 px none mc ms) (pc : Nat) (u : S) (hdg : decode cc pc = .ok (.return_, 1)) (hp : post none u) (hw : w1 u = ws) (hf : ce ≤ mc ∧ sl ≤ ms) : KJ l G D R nL ce sl ws lv pc [] := fun H locs ls hP hD hS hl => by
  rw [hE.2.1]
  exact vx_ret (W.widen hf.1 hf.2 (W.vret hC.ex hC.cd hE.2.2.1 (hE.end_ hp hP hD hS hw) (hE.lc hS) hdg hE.2.2.2.1))
/-- 'throw new E(text)' -/
theorem x_throw {E : String} {ik is ic : Nat} {tx : String} (hC : CX G D cc RX3 nL) (hE : EXX G D y w0 post w1 px ret mc ms) (hX : XF l G) (pc : Nat) (hfit : Bundle.fit E = true) (hk : Cond.classLink RX3 ik E ∈ wsL_law) (hini : Cond.initialized E ∈ wsL_law) (htx : (is, tx) ∈ eTx)
    (hgo : ∀ w ∈ (vx_atS RX3 ic E eNs).filter goodWord, w ∈ wsL_law) (hng : ∀ w ∈ (vx_atS RX3 ic E eNs).filter (fun w => !goodWord w), w ∈ eNG) (hot : ∀ w ∈ Cond.classLink RX3 ik E :: Cond.initialized E :: vx_atS RX3 ic E eNs, vx_ot w = true)
    (d0 : decode cc pc = .ok (.new ik, 3)) (d3 : decode cc (pc + 3) = .ok (.dup, 1)) (d4 : decode cc (pc + 4) = .ok (.ldc is, 2)) (d6 : decode cc (pc + 6) = .ok (.invokespecial ic, 3)) (d9 : decode cc (pc + 9) = .ok (.athrow, 1))
    (hR : 5 < R.frames ∧ (st.map fun v => v.category).sum + 82 ≤ R.locals ∧ ce + 1 ≤ R.cells ∧ sl + 6 ≤ R.slots) (hpx : px E) (hws : ws = w0) (hf : ce + 1 ≤ mc ∧ sl + 6 ≤ ms) : KJ l G D R nL ce sl ws lv pc st := fun H locs ls hP hD hS hl => by
  subst hws
  rw [hE.2.1]
  obtain ⟨sa, hsa⟩ := hX.2.1.2 _ htx
  have hA := hE.1
  refine vx_throwS (A := kA G) (names := eNs) hC.ex hC.cd hX.1 hC.on hfit (by decide +kernel) (hC.wd _ hk) (hC.wd _ hini) hsa (vx_hat (fun w hw => hC.wd w (hgo w hw)) hng (hX.2.1.ng (ka G))) hot hX.2.2.1 hX.2.2.2 hS (hl.1.trans hC.ml.symm) d0 d3 d4 d6 d9 (fun x hx => (hE.2.2.2.2 x hx).elim) hR.1 hR.2.1 hR.2.2.1 hR.2.2.2 hE.2.2.2.1 (fun t hvm hz hk => ?_) (hE.lc hS) hf.1 hf.2
  refine ⟨hpx, hP.kept (fun k q hq => hk q.1 (hP k q hq).lt), ?_⟩
  rw [← hA]
  exact ⟨Nat.le_trans hS.1 hz, fun q h1 h2 => by rw [hk q (Nat.lt_of_lt_of_le h1 hS.1)]; exact hS.2.1 q h1 h2⟩
/-- a throw goes by: the heap, the world, the locals; the thrown cell lies there -/
def VJ (l : Launch) (G : KX) (D : va_G) (R : Room) (nL ce sl : Nat) (ws : va_W) (lv : List (Nat × Value)) (pc : Nat) (st : List Value) (E : String) : Prop :=
  ∀ (H : Heap) (locs : List Loc) (ls : Array Slot) (q : Nat) (cell : Cell), va_P D vwCl ws H → va_D (kA G) ws → va_S (kA G) (ks G).heap H locs → lv_has ls nL lv → H[q]? = some cell → cell.vm = .none → (ks G).vm.findClass E = some cell.cls → vx_W (kp G) l (ke G) R (ks G) (km G) (ka G) (kb G) (kme G) (kc G) H locs ce sl (kQ G) (F0 (km G) pc ls st) q
theorem x_out {E : String} (hE : EXX G D y w0 post w1 px ret mc ms) (hpx : px E) (hws : ws = w0) (pc : Nat) (hf : ce ≤ mc ∧ sl ≤ ms) : VJ l G D R nL ce sl ws lv pc st E := fun H locs ls q cell hP hD hS hl hq hv hc => by
  subst hws
  rw [hE.2.1]
  have hA := hE.1
  exact vx_out (fun x hx => (hE.2.2.2.2 x hx).elim) hE.2.2.2.1 hq hv hc (fun t ht _ => ⟨hpx, by rw [ht]; exact hP, by rw [← hA]; exact hS.F ht⟩) (hE.lc hS) hf.1 hf.2
/-- caught by the row x of the table, past rows that name other classes -/
theorem x_catch {E name : String} (hC : CX G D cc own nL) (htab : (kc G).exceptionTable.toList = tableOf hh) (pc : Nat) (pre : List ExceptionTableEntry) (x : ExceptionTableEntry) (suf : List ExceptionTableEntry) (hsplit : tableOf hh = pre ++ x :: suf)
    (hpass : ∀ z ∈ pre, covers z pc = false ∨ (z.catchType ≠ 0 ∧ ∃ nm : String, Cond.classLink own z.catchType nm ∈ wsL_law ∧ va_Nc E nm (ks G))) (hx : covers x pc = true) (h0 : x.catchType ≠ 0) (hlink : Cond.classLink own x.catchType name ∈ wsL_law) (hcast : va_Nw (.castable E name) (ks G))
    (kk : ∀ q : Nat, KJ l G D R nL ce sl ws lv x.handlerPc [.ref q]) : VJ l G D R nL ce sl ws lv pc st E := fun H locs ls q cell hP hD hS hl hq hv hc =>
  vx_catch hC.on pre x suf (htab.trans hsplit) (fun z hz => (hpass z hz).elim Or.inl (fun h => Or.inr ⟨h.1, h.2.elim (fun nm h2 => ⟨nm, hC.wd _ h2.1, h2.2⟩)⟩)) hx h0 (hC.wd _ hlink) (va_Nw.use rfl hcast) hq hv hc (kk q H locs ls hP hD hS hl)
end MXs
section XG
variable {p : Program} {l : Launch} {e : Env} {R : Room} {s : State} {m : MethodId} {args : Array Value} {below : List Frame} {meth : Method} {c : Code} {H : Heap} {locs : List Loc} {cells slots mc ms : Nat} {Q : State → Prop} {pc : Nat} {ls : Array Slot} {st0 rest : List Value} {free : Addr → Prop}
theorem vx_callg {Qa : State → Outcome → State → Prop} {XCa : String → State → State → Prop} (hr : vx_Run p l e R s m args below meth c H locs cells slots mc ms (F0 m pc ls st0) rest Qa XCa free)
    (kk : ∀ (v : Option Value) (st₀ t : State) (H1 : Heap) (L : List Loc), st₀.heap = H → t.heap = H1 → (∀ q ∈ L, free q.base) → Qa st₀ (.returned v) t → W p l e R s m args below meth c H1 (locs ++ L) (cells + mc) (slots + ms) Q (F0 m (pc + 3) ls (v.toList ++ rest)))
    (kx : ∀ (E : String) (q : Nat) (ce : Cell) (st₀ t : State) (H1 : Heap) (L : List Loc), st₀.heap = H → t.heap = H1 → (∀ q ∈ L, free q.base) → XCa E st₀ t → H1[q]? = some ce → ce.vm = .none → s.vm.findClass E = some ce.cls → vx_W p l e R s m args below meth c H1 (locs ++ L) (cells + mc) (slots + ms) Q (F0 m pc ls rest) q) : W p l e R s m args below meth c H locs cells slots Q (F0 m pc ls st0) := by
  intro T hT X
  rcases hr T hT X with ⟨v, st₀, t, T', L, h0, X', hL, e1, e2, hq, stp⟩ | ⟨q, st₀, t, T', L, E, ce, h0, X', hL, e1, e2, hx, hce, hv, hcl, stp⟩
  · obtain ⟨t2, a1, b1⟩ := kk v st₀ t T'.heap L h0 e1.symm hL hq T' rfl X'
    exact ⟨t2, stp t2 a1, b1⟩
  · obtain ⟨t2, a1, b1⟩ := kx E q ce st₀ t T'.heap L h0 e1.symm hL hx (by rw [e1]; exact hce) hv hcl T' rfl X'
    exact ⟨t2, stp.trans a1, b1⟩
end XG
section XK
variable {S : Type} {l : Launch} {G : KX} {D : va_G} {R : Room} {cc : ByteArray} {own : String} {nL ce sl : Nat} {ws : va_W} {lv : List (Nat × Value)} {st : List Value}
variable {y : MethodName} {bytes : ByteArray} {maxL : Nat} {ret : Option FieldType} {fr lo : Nat} {w0 : va_W} {post : Option Value → S → Prop} {w1 : S → va_W} {px : String → Prop} {mc ms n ix : Nat} {As : List Value} {hh : List (Nat × Nat × Nat × Nat)}
theorem xk_pre (hC : CX G D cc own nL) (hX : XF l G) {av : List Value} (is : List Nat) (hnd : va_nd is = true) (his : is.map (fun i => ws[i]?) = w0.map some) {H : Heap} {locs : List Loc} (hP : va_P D vwCl ws H) (hD : va_D (kA G) ws) (hS : va_S (kA G) (ks G).heap H locs) : ∀ U : State, U.heap = H → (ks G).WarmedH U.vm → XPre D w0 av H.size av.toArray U := by
  intro U hU hW
  have h := k_pre hC (av := av) is hnd his hP hD U hU hW
  have hF : ∀ q, va_A w0 H.size q → kA G q := va_free hD hS hC.nw is his
  refine ⟨rfl, h.2, hX.2.1.warm hW, ?_, ?_⟩
  · rw [hU]; exact ((hX.2.2.1.kept hS.2.1).narrow hF).moved hW.alike
  · rw [hU]; exact ((hX.2.2.2.kept hS.2.1).narrow hF).moved hW.alike
theorem xk_callK (hC : CX G D cc own nL) (pc : Nat) {a : Array Value} (is : List Nat) (hnd : va_nd is = true) (his : is.map (fun i => ws[i]?) = w0.map some) (ws' : S → va_W) (hlen : ∀ u, is.length ≤ (w1 u).length) (hws : ∀ u, putL ws is (w1 u) = ws' u) (hws0 : putL ws is w0 = ws)
    {H : Heap} {locs : List Loc} {ls : Array Slot} {st0 : List Value} (hP : va_P D vwCl ws H) (hD : va_D (kA G) ws) (hS : va_S (kA G) (ks G).heap H locs) (hl : lv_has ls nL lv)
    (hr : vx_Run (kp G) l (ke G) R (ks G) (km G) (ka G) (kb G) (kme G) (kc G) H locs ce sl mc ms (F0 (km G) pc ls st0) st (MPost D w0 H.size post w1 a) (XC D w0 H.size px) (va_A w0 H.size))
    (kk : ∀ (v : Option Value) (u : S), post v u → KJ l G D R nL (ce + mc) (sl + ms) (ws' u) lv (pc + 3) (v.toList ++ st)) (kx : ∀ E : String, px E → VJ l G D R nL (ce + mc) (sl + ms) ws lv pc st E) : W (kp G) l (ke G) R (ks G) (km G) (ka G) (kb G) (kme G) (kc G) H locs ce sl (kQ G) (F0 (km G) pc ls st0) := by
  have hF : ∀ q, va_A w0 H.size q → kA G q := va_free hD hS hC.nw is his
  have hlw : is.length ≤ w0.length := by
    have := congrArg List.length his
    simp only [List.length_map] at this
    omega
  refine vx_callg hr (fun v st₀ t H1 L h0 h1 hL hq => ?_) (fun E q cell st₀ t H1 L h0 h1 hL hx hce hv hcl => ?_)
  · obtain ⟨⟨v', u, hv, hp, hP1, hD1⟩, hz, hk⟩ := hq
    cases hv
    rw [h0] at hz hk
    rw [h1] at hP1 hz hk
    obtain ⟨hP2, hD2⟩ := putL_ok hP hD is hnd his (hlen u) hk hF hP1 hD1
    rw [hws u] at hP2 hD2
    refine kk v u hp H1 (locs ++ L) ls hP2 hD2 ⟨Nat.le_trans hS.1 hz, fun q h2 h3 => ?_, fun q hq => ?_⟩ hl
    · rw [hk q (Nat.lt_of_lt_of_le h2 hS.1) (fun z => h3 (hF q z))]
      exact hS.2.1 q h2 h3
    · rcases List.mem_append.mp hq with h | h
      · exact hS.2.2 q h
      · exact hF _ (hL q h)
  · obtain ⟨hpx, hP1, hz, hk⟩ := hx
    rw [h0] at hz hk
    rw [h1] at hP1 hz hk
    obtain ⟨hP2, hD2⟩ := putL_ok hP hD is hnd his hlw hk hF hP1 ((hD.sub is hnd his).self (sz := H.size))
    rw [hws0] at hP2 hD2
    refine kx E hpx H1 (locs ++ L) ls q cell hP2 hD2 ⟨Nat.le_trans hS.1 hz, fun q h2 h3 => ?_, fun q hq => ?_⟩ hl hce hv hcl
    · rw [hk q (Nat.lt_of_lt_of_le h2 hS.1) (fun z => h3 (hF q z))]
      exact hS.2.1 q h2 h3
    · rcases List.mem_append.mp hq with h | h
      · exact hS.2.2 q h
      · exact hF _ (hL q h)
theorem x_callV (hC : CX G D cc own nL) (hX : XF l G) (pc : Nat) {b ci : Nat} {q : vw_C} {fs : List Value} (q0 : Nat) (is : List Nat) (ws' : S → va_W) (hM : MX l y bytes maxL ret fr lo D (.ref b :: As) w0 post w1 px mc ms) (cw : CWV own ix y bytes maxL ret n) (hdg : decode cc pc = .ok (.invokevirtual ix, 3))
    (hR : fr + 1 ≤ R.frames ∧ 8 + (maxL + 11) + lo ≤ R.locals ∧ ce + mc ≤ R.cells ∧ sl + ms ≤ R.slots) (hn : As.length = n) (hcat : (st.map fun v => v.category).sum ≤ 8)
    (hq : ws[q0]? = some (b, .inr (ci, fs))) (hci : vwCl[ci]? = some q) (hqn : q.1 = y.cls) (hnd : va_nd is = true) (his : is.map (fun i => ws[i]?) = w0.map some) (hlen : ∀ u, is.length ≤ (w1 u).length) (hws : ∀ u, putL ws is (w1 u) = ws' u) (hws0 : putL ws is w0 = ws)
    (st0 : List Value) (hst : st0 = As.reverse ++ .ref b :: st) (kk : ∀ (v : Option Value) (u : S), post v u → KJ l G D R nL (ce + mc) (sl + ms) (ws' u) lv (pc + 3) (v.toList ++ st)) (kx : ∀ E : String, px E → VJ l G D R nL (ce + mc) (sl + ms) ws lv pc st E) : KJ l G D R nL ce sl ws lv pc st0 := by
  subst hst
  intro H locs ls hP hD hS hl
  have hcw : CallW R (ks G) (ka G) own y.cls ix y bytes maxL ret (.code y bytes maxL ret :: wsL_law) ({ frames := fr, cells := mc, slots := ms, locals := lo } : Room) mc ms n := ⟨callB_of n hC.wd (gAll cw.2.2.2.2.1) rfl rfl rfl (hC.wd _ cw.2.2.2.1) (hC.wd _ cw.1) cw.2.2.2.2.2 ⟨hR.1, hR.2.1⟩, hC.wd _ cw.2.1, hC.wd _ cw.2.2.1⟩
  exact xk_callK hC pc is hnd his ws' hlen hws hws0 hP hD hS hl (vx_runV (As := As) (rest := st) hC.fix (hM H.size) hcw ⟨XPre.blind, by have h := va_recv hC.kk hP hci hq; rw [hqn] at h; exact h, fun U hU hW => xk_pre hC hX is hnd his hP hD hS U hU hW⟩ rfl hn hl.1 rfl (lv_room hcat) hdg hR.2.2) kk kx
theorem x_callS (hC : CX G D cc own nL) (hX : XF l G) (pc : Nat) (is : List Nat) (ws' : S → va_W) (hM : MX l y bytes maxL ret fr lo D As w0 post w1 px mc ms) (cw : CWS own ix y bytes maxL ret n) (hdg : decode cc pc = .ok (.invokestatic ix, 3))
    (hR : fr + 1 ≤ R.frames ∧ 8 + (maxL + 11) + lo ≤ R.locals ∧ ce + mc ≤ R.cells ∧ sl + ms ≤ R.slots) (hn : As.length = n) (hcat : (st.map fun v => v.category).sum ≤ 8)
    (hnd : va_nd is = true) (his : is.map (fun i => ws[i]?) = w0.map some) (hlen : ∀ u, is.length ≤ (w1 u).length) (hws : ∀ u, putL ws is (w1 u) = ws' u) (hws0 : putL ws is w0 = ws)
    (st0 : List Value) (hst : st0 = As.reverse ++ st) (kk : ∀ (v : Option Value) (u : S), post v u → KJ l G D R nL (ce + mc) (sl + ms) (ws' u) lv (pc + 3) (v.toList ++ st)) (kx : ∀ E : String, px E → VJ l G D R nL (ce + mc) (sl + ms) ws lv pc st E) : KJ l G D R nL ce sl ws lv pc st0 := by
  subst hst
  intro H locs ls hP hD hS hl
  have hcw : CallB R (ks G) (ka G) own ix y bytes maxL ret (.code y bytes maxL ret :: wsL_law) ({ frames := fr, cells := mc, slots := ms, locals := lo } : Room) mc ms n ∧ (Cond.static y).before (ka G) (ks G) = true := ⟨callB_of n hC.wd (gAll cw.2.2.2.1) rfl rfl rfl (hC.wd _ cw.2.2.1) (hC.wd _ cw.1) cw.2.2.2.2 ⟨hR.1, hR.2.1⟩, hC.wd _ cw.2.1⟩
  exact xk_callK hC pc is hnd his ws' hlen hws hws0 hP hD hS hl (vx_runS (As := As) (rest := st) hC.fix (hM H.size) hcw ⟨XPre.blind, fun U hU hW => xk_pre hC hX is hnd his hP hD hS U hU hW⟩ rfl hn hl.1 rfl (lv_room hcat) hdg hR.2.2) kk kx
/-- a static call of a method with handlers -/
theorem h_callS (hC : CX G D cc own nL) (hX : XF l G) (pc : Nat) (is : List Nat) (ws' : S → va_W) (hM : MH l y bytes maxL ret hh fr lo D As w0 post w1 mc ms) (hw1 : Cond.methodLink own ix y ∈ wsL_law) (hw2 : Cond.static y ∈ wsL_law) (hw3 : Cond.initialized y.cls ∈ wsL_law) (hw4 : Cond.codeWith y bytes maxL ret hh ∈ wsL_law) (hd : y.cls ≠ "java/lang/invoke/MethodHandle" ∧ y.cls ≠ "java/lang/invoke/VarHandle" ∧ (parseMethodDescriptor y.desc).map (fun d => d.parameters.length) = some n) (hdg : decode cc pc = .ok (.invokestatic ix, 3))
    (hR : fr + 1 ≤ R.frames ∧ 8 + (maxL + 11) + lo ≤ R.locals ∧ ce + mc ≤ R.cells ∧ sl + ms ≤ R.slots) (hn : As.length = n) (hcat : (st.map fun v => v.category).sum ≤ 8)
    (hnd : va_nd is = true) (his : is.map (fun i => ws[i]?) = w0.map some) (hlen : ∀ u, is.length ≤ (w1 u).length) (hws : ∀ u, putL ws is (w1 u) = ws' u)
    (st0 : List Value) (hst : st0 = As.reverse ++ st) (kk : ∀ (v : Option Value) (u : S), post v u → KJ l G D R nL (ce + mc) (sl + ms) (ws' u) lv (pc + 3) (v.toList ++ st)) : KJ l G D R nL ce sl ws lv pc st0 := by
  subst hst
  intro H locs ls hP hD hS hl
  have hd2 : ∀ sig, parseMethodDescriptor y.desc = some sig → n = sig.parameters.length := fun sig h => by
    have h2 := hd.2.2
    rw [h] at h2
    exact (Option.some.inj h2).symm
  have hcw : vx_CSW R (ks G) (ka G) own ix y bytes maxL ret hh (.codeWith y bytes maxL ret hh :: wsL_law) ({ frames := fr, cells := mc, slots := ms, locals := lo } : Room) mc ms n := ⟨⟨rfl, rfl, hR.1, hR.2.1, pay_in hC.wd (gAll hw4), List.mem_cons_self⟩, hC.wd _ hw4, hC.wd _ hw3, ⟨hd.1, hd.2.1⟩, hd2, hC.wd _ hw1, hC.wd _ hw2⟩
  exact k_callK hC pc is hnd his ws' hlen hws hP hD hS hl (vx_runSW (As := As) (rest := st) hC.fix (hM H.size) hcw ⟨XPre.blind, fun U hU hW => xk_pre hC hX is hnd his hP hD hS U hU hW⟩ rfl hn hl.1 rfl (lv_room hcat) hdg hR.2.2) kk
end XK
